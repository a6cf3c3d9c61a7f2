section XW
variable {p : Program} {l : Launch} {e : Env} {R : Room} {s : State} {m : MethodId} {args : Array Value} {below : List Frame} {meth : Method} {c : Code} {D : XD} {b nL cells slots : Nat} {Q : State → Prop} {n : Nat} {h : XH} {pc : Nat} {lv : List (Option Value)} {rest : List Value} {cc : ByteArray} {own : String}
/-! ===== the layer: calls, new objects and arrays ===== -/
theorem xrun {H : Heap} {locs : List Loc} {ls : Array Slot} {st : List Value} {a : Array Value} {mc ms n' : Nat} {P : Option Value → XH → Prop} (hr : va_Run p l e R s m args below meth c H locs cells slots mc ms (F0 m pc ls st) rest (xQ D b n' P a) (fun q => b ≤ q)) (hS : va_S (fun q => b ≤ q) s.heap H locs)
    (kk : ∀ (v : Option Value) (h' : XH) (H1 : Heap) (locs1 : List Loc), P v h' → xP D b n' h' H1 → va_S (fun q => b ≤ q) s.heap H1 locs1 → W p l e R s m args below meth c H1 locs1 (cells + mc) (slots + ms) Q (F0 m (pc + 3) ls (v.toList ++ rest))) : W p l e R s m args below meth c H locs cells slots Q (F0 m pc ls st) := by
  intro T hT X
  obtain ⟨v, st₀, t, T', L, h0, X', hL, e1, e2, ⟨⟨v', h', hv, hp, hh⟩, hz, hk⟩, g⟩ := hr T hT X
  cases hv
  rw [h0] at hz hk
  obtain ⟨t2, a1, b1⟩ := kk v h' T'.heap (locs ++ L) hp (by rw [e1]; exact hh)
    ⟨Nat.le_trans hS.1 (by rw [e1]; exact hz), fun q h1 h2 => by rw [e1, hk q (Nat.lt_of_lt_of_le h1 hS.1) h2]; exact hS.2.1 q h1 h2, fun q hq => by
      rcases List.mem_append.mp hq with h | h
      · exact hS.2.2 q h
      · exact hL q h⟩ T' rfl X'
  exact ⟨t2, g t2 a1, b1⟩
theorem xpre {H : Heap} {av : List Value} (hC : xC p s m args meth c D cc nL own) (h1 : xP D b n h H) : ∀ U : State, U.heap = H → s.WarmedH U.vm → va_Pc av (xPre D b n h) av.toArray U := fun U hU hW => ⟨rfl, by rw [hU]; exact h1, hC.2.1.warm hW⟩
theorem xgood {y : MethodName} {cc' : ByteArray} {maxL : Nat} {ret : Option FieldType} (hcode : Cond.code y cc' maxL ret ∈ xtbl) : GoodIn xtbl (Cond.code y cc' maxL ret :: xtbl) := fun w hw => (List.mem_cons.mp hw).elim (fun q => by rw [q]; exact xt_good _ hcode) (fun q => xt_good w q)
theorem xi_callV {y : MethodName} {cc' : ByteArray} {maxL : Nat} {ret : Option FieldType} {f lo mc ms n' : Nat} {a ci N index : Nat} {T : u_T} {fs As st : List Value} {P : Option Value → XH → Prop} (hM : xM l y cc' maxL ret f lo mc ms D b n (.ref a :: As) h n' P) (hC : xC p s m args meth c D cc nL own) (hdg : decode cc pc = .ok (.invokevirtual index, 3)) {pc' : Nat} (hp : pc + 3 = pc') (hlink : Cond.methodLink own index y ∈ xtbl) (hcode : Cond.code y cc' maxL ret ∈ xtbl) (hins : Cond.instanceMethod y ∈ xtbl) (hsel : Cond.selects y.cls y y ∈ xtbl) (hini : Cond.initialized y.cls ∈ xtbl)
    (hd : y.cls ≠ "java/lang/invoke/MethodHandle" ∧ y.cls ≠ "java/lang/invoke/VarHandle" ∧ (parseMethodDescriptor y.desc).map (fun d => d.parameters.length) = some As.length) (he : h a = some (.inr (ci, fs))) (hc : vwCl[ci]? = some (y.cls, T, N)) (hR : f + 1 ≤ R.frames ∧ 8 + (maxL + 11) + lo ≤ R.locals) (hst : st = As.reverse ++ .ref a :: rest) (hcat : (rest.map fun v => v.category).sum ≤ 8) (hf : cells + mc ≤ R.cells ∧ slots + ms ≤ R.slots)
    (kk : ∀ (v : Option Value) (h' : XH), P v h' → xV p l e R s m args below meth c D b nL (cells + mc) (slots + ms) Q n' h' pc' lv (v.toList ++ rest)) : xV p l e R s m args below meth c D b nL cells slots Q n h pc lv st := by
  subst hp
  intro H locs ls h1 h2 h3
  have hts := hC.1.2.2.2.2
  refine xrun (va_runV (As := As) (rest := rest) (b := a) (C := y.cls) (own := own) (index := index) (bytes := cc') (maxL := maxL) (ret := ret) (n := As.length) (nL := nL) (Ts := xtbl) hC.1 hM ⟨callB_of As.length hts (xgood hcode) rfl rfl rfl (hts _ hini) (hts _ hlink) hd hR, hts _ hins, hts _ hsel⟩ ⟨xPre.blind, va_recv hC.2.1.1 (h1.one he) hc (q0 := 0) rfl, xpre hC h1⟩ rfl rfl h3.1 hst (lv_room (m := m) (pc := pc) (ls := ls) (rest := st) hcat) hdg hf) h2 ?_
  intro v h' H1 locs1 hp g1 g2
  exact kk v h' hp H1 locs1 ls g1 g2 h3
theorem xi_callS {y : MethodName} {cc' : ByteArray} {maxL : Nat} {ret : Option FieldType} {f lo mc ms n' : Nat} {index : Nat} {As st : List Value} {P : Option Value → XH → Prop} (hM : xM l y cc' maxL ret f lo mc ms D b n As h n' P) (hC : xC p s m args meth c D cc nL own) (hdg : decode cc pc = .ok (.invokestatic index, 3)) {pc' : Nat} (hp : pc + 3 = pc') (hlink : Cond.methodLink own index y ∈ xtbl) (hcode : Cond.code y cc' maxL ret ∈ xtbl) (hsta : Cond.static y ∈ xtbl) (hini : Cond.initialized y.cls ∈ xtbl)
    (hd : y.cls ≠ "java/lang/invoke/MethodHandle" ∧ y.cls ≠ "java/lang/invoke/VarHandle" ∧ (parseMethodDescriptor y.desc).map (fun d => d.parameters.length) = some As.length) (hR : f + 1 ≤ R.frames ∧ 8 + (maxL + 11) + lo ≤ R.locals) (hst : st = As.reverse ++ rest) (hcat : (rest.map fun v => v.category).sum ≤ 8) (hf : cells + mc ≤ R.cells ∧ slots + ms ≤ R.slots)
    (kk : ∀ (v : Option Value) (h' : XH), P v h' → xV p l e R s m args below meth c D b nL (cells + mc) (slots + ms) Q n' h' pc' lv (v.toList ++ rest)) : xV p l e R s m args below meth c D b nL cells slots Q n h pc lv st := by
  subst hp
  intro H locs ls h1 h2 h3
  have hts := hC.1.2.2.2.2
  refine xrun (va_runS (As := As) (rest := rest) (own := own) (index := index) (bytes := cc') (maxL := maxL) (ret := ret) (n := As.length) (nL := nL) (Ts := xtbl) hC.1 hM ⟨callB_of As.length hts (xgood hcode) rfl rfl rfl (hts _ hini) (hts _ hlink) hd hR, hts _ hsta⟩ ⟨xPre.blind, xpre hC h1⟩ rfl rfl h3.1 hst (lv_room (m := m) (pc := pc) (ls := ls) (rest := st) hcat) hdg hf) h2 ?_
  intro v h' H1 locs1 hp g1 g2
  exact kk v h' hp H1 locs1 ls g1 g2 h3
theorem xi_callI {y : MethodName} {cc' : ByteArray} {maxL : Nat} {f lo mc ms n' : Nat} {a index : Nat} {As st : List Value} {P : Option Value → XH → Prop} (hM : xM l y cc' maxL none f lo mc ms D b n (.ref a :: As) h n' P) (hC : xC p s m args meth c D cc nL own) (hdg : decode cc pc = .ok (.invokespecial index, 3)) {pc' : Nat} (hp : pc + 3 = pc') (hlink : Cond.methodLink own index y ∈ xtbl) (hcode : Cond.code y cc' maxL none ∈ xtbl) (hins : Cond.instanceMethod y ∈ xtbl) (hini : Cond.initialized y.cls ∈ xtbl) (hnm : y.name = "<init>")
    (hd : y.cls ≠ "java/lang/invoke/MethodHandle" ∧ y.cls ≠ "java/lang/invoke/VarHandle" ∧ (parseMethodDescriptor y.desc).map (fun d => d.parameters.length) = some As.length) (hR : f + 1 ≤ R.frames ∧ 8 + (maxL + 11) + lo ≤ R.locals) (hst : st = As.reverse ++ .ref a :: rest) (hcat : (rest.map fun v => v.category).sum ≤ 8) (hf : cells + mc ≤ R.cells ∧ slots + ms ≤ R.slots)
    (kk : ∀ (v : Option Value) (h' : XH), P v h' → xV p l e R s m args below meth c D b nL (cells + mc) (slots + ms) Q n' h' pc' lv (v.toList ++ rest)) : xV p l e R s m args below meth c D b nL cells slots Q n h pc lv st := by
  subst hp
  intro H locs ls h1 h2 h3
  have hts := hC.1.2.2.2.2
  refine xrun (va_runI (As := As) (rest := rest) (b := a) (own := own) (index := index) (bytes := cc') (maxL := maxL) (n := As.length) (nL := nL) (Ts := xtbl) hC.1 hM ⟨callB_of As.length hts (xgood hcode) rfl rfl rfl (hts _ hini) (hts _ hlink) hd hR, hnm, hts _ hins⟩ ⟨xPre.blind, xpre hC h1⟩ rfl rfl h3.1 hst (lv_room (m := m) (pc := pc) (ls := ls) (rest := st) hcat) hdg hf) h2 ?_
  intro v h' H1 locs1 hp g1 g2
  exact kk v h' hp H1 locs1 ls g1 g2 h3
theorem xi_callIN {y : MethodName} {host : String} {cc' : ByteArray} {maxL : Nat} {f lo mc ms n' : Nat} {a index : Nat} {As st : List Value} {P : Option Value → XH → Prop} (hM : xM l y cc' maxL none f lo mc ms D b n (.ref a :: As) h n' P) (hC : xC p s m args meth c D cc nL own) (hdg : decode cc pc = .ok (.invokespecial index, 3)) {pc' : Nat} (hp : pc + 3 = pc') (hlink : va_Nw (.methodLinkNest own index y host) s) (hcode : Cond.code y cc' maxL none ∈ xtbl) (hins : Cond.instanceMethod y ∈ xtbl) (hini : Cond.initialized y.cls ∈ xtbl) (hnm : y.name = "<init>")
    (hd : y.cls ≠ "java/lang/invoke/MethodHandle" ∧ y.cls ≠ "java/lang/invoke/VarHandle" ∧ (parseMethodDescriptor y.desc).map (fun d => d.parameters.length) = some As.length) (hR : f + 1 ≤ R.frames ∧ 8 + (maxL + 11) + lo ≤ R.locals) (hst : st = As.reverse ++ .ref a :: rest) (hcat : (rest.map fun v => v.category).sum ≤ 8) (hf : cells + mc ≤ R.cells ∧ slots + ms ≤ R.slots)
    (kk : ∀ (v : Option Value) (h' : XH), P v h' → xV p l e R s m args below meth c D b nL (cells + mc) (slots + ms) Q n' h' pc' lv (v.toList ++ rest)) : xV p l e R s m args below meth c D b nL cells slots Q n h pc lv st := by
  subst hp
  intro H locs ls h1 h2 h3
  have hts := hC.1.2.2.2.2
  refine xrun (va_runIN (As := As) (rest := rest) (b := a) (own := own) (index := index) (bytes := cc') (maxL := maxL) (n := As.length) (nL := nL) (Ts := xtbl) hC.1 hM ⟨va_cnB As.length hts (xgood hcode) rfl rfl rfl hlink (hts _ hini) hd hR, hnm, hts _ hins⟩ ⟨xPre.blind, xpre hC h1⟩ rfl rfl h3.1 hst (lv_room (m := m) (pc := pc) (ls := ls) (rest := st) hcat) hdg hf) h2 ?_
  intro v h' H1 locs1 hp g1 g2
  exact kk v h' hp H1 locs1 ls g1 g2 h3
theorem xi_objInit {a index : Nat} (hC : xC p s m args meth c D cc nL own) (hdg : decode cc pc = .ok (.invokespecial index, 3)) {pc' : Nat} (hp : pc + 3 = pc') (hlink : Cond.methodLink own index objectInit ∈ xtbl) (hR : 1 ≤ R.frames ∧ (rest.map fun v => v.category).sum + 12 ≤ R.locals)
    (k : xV p l e R s m args below meth c D b nL cells slots Q n h pc' lv rest) : xV p l e R s m args below meth c D b nL cells slots Q n h pc lv (.ref a :: rest) := by
  subst hp
  intro H locs ls h1 h2 h3
  have hts := hC.1.2.2.2.2
  refine W.objInit hC.1.1 hC.1.2.1 hC.1.2.2.2.1 (hts _ hlink) (hts _ xw_ins_obj) (hts _ xw_c_obj) rfl (by rw [hC.1.2.2.1]; exact h3.1) rfl hdg hR.1 ?_ (k H locs ls h1 h2 h3)
  show 2 * 0 + _ + 12 ≤ _
  have := hR.2
  omega
theorem xP.new {H H1 : Heap} {e0 : va_E} (h1 : xP D b n h H) (he : va_at D.1 vwCl (n, e0) H1) (z : H1.size = n + 1) (oq : ∀ q : Nat, q < n → H1[q]? = H[q]?) : xP D b (n + 1) (xup h n e0) H1 := by
  refine ⟨z, Nat.le_succ_of_le h1.2.1, fun q e1 g => ?_⟩
  by_cases hq : q = n
  · subst hq
    rw [xup_s] at g
    cases g
    exact ⟨h1.2.1, he⟩
  · rw [xup_n hq] at g
    have hlt : q < n := by
      have := (h1.2.2 q e1 g).2.lt
      rw [h1.1] at this
      exact this
    exact ⟨(h1.2.2 q e1 g).1, (h1.2.2 q e1 g).2.kept (oq q hlt)⟩
theorem xS.new {H H0 H1 : Heap} {locs : List Loc} {n : Nat} (h1 : H.size = n) (h2 : va_S (fun q => b ≤ q) H0 H locs) (z : H1.size = n + 1) (oq : ∀ q : Nat, q < n → H1[q]? = H[q]?) : va_S (fun q => b ≤ q) H0 H1 locs :=
  ⟨by have := h2.1; omega, fun q q1 q2 => (oq q (by have := h2.1; omega)).trans (h2.2.1 q q1 q2), h2.2.2⟩
theorem xi_new {C : String} {T : u_T} {ci N index : Nat} {fs : List Value} (ty : Nat → FieldType) (hC : xC p s m args meth c D cc nL own) (hdg : decode cc pc = .ok (.new index, 3)) {pc' : Nat} (hp : pc + 3 = pc') (hlink : Cond.classLink own index C ∈ xtbl) (hinst : Cond.instantiable C N ∈ xtbl) (hini : Cond.initialized C ∈ xtbl) (hin : ∀ w ∈ u_ws C T N, w ∈ xtbl) (hty : ∀ k, k < N → parseFieldDescriptor (T k).2.2.1 = some (ty k)) (hc : vwCl[ci]? = some (C, T, N)) (hfs : ∀ j, j < N → defaultValue (ty j) = vp_V fs j) (hf : cells + 1 ≤ R.cells ∧ slots + N ≤ R.slots)
    (k : xV p l e R s m args below meth c D b nL (cells + 1) (slots + N) Q (n + 1) (xup h n (.inr (ci, fs))) pc' lv (.ref n :: rest)) : xV p l e R s m args below meth c D b nL cells slots Q n h pc lv rest := by
  subst hp
  intro H locs ls h1 h2 h3
  have hts := hC.1.2.2.2.2
  have hKn := hC.2.1.1.1 ci _ hc
  refine W.newcK hC.1.1 hC.1.2.1 hC.1.2.2.2.1 (hts _ hlink) (hts _ hinst) (hts _ hini) rfl hdg hf.1 hf.2 hKn.2.1 h1.1 fun H1 kC hkC e1 z1 o1 => ?_
  exact k H1 locs ls (h1.new ⟨_, hc, (u_born ty hts hin hKn hkC e1 hty).to hfs⟩ z1 o1) (xS.new h1.1 h2 z1 o1) h3
theorem xi_newarray {atype : ArrayType} {ty : FieldType} {N t0 : Nat} {i : Int32} {cA : ClassId} {a0 : (Nat → Int32) ⊕ (Nat → Int64) ⊕ (Nat → UInt32) ⊕ (Nat → UInt64) ⊕ (Nat → Option Nat)} (hC : xC p s m args meth c D cc nL own) (hdg : decode cc pc = .ok (.newarray atype, 2)) {pc' : Nat} (hp : pc + 2 = pc') (hty : newarray.typeOf atype = ty) (harr : Cond.arrayClass ty ∈ xtbl) (ht : (xtys D)[t0]? = some (cA, ty)) (hra : ∀ U cA', va_RA U cA' ty = (U.vm.findClass ("[" ++ ty.toString) = some cA')) (ha : vp_cell cA (N, a0) = arrV cA N (fun _ => defaultValue ty)) (hi : i = nI N) (hN : N < 2 ^ 31) (hbytes : N * componentBytes ty ≤ 536870912) (hf : cells + 1 ≤ R.cells ∧ slots + N ≤ R.slots)
    (k : xV p l e R s m args below meth c D b nL (cells + 1) (slots + N) Q (n + 1) (xup h n (.inl (cA, N, a0))) pc' lv (.ref n :: rest)) : xV p l e R s m args below meth c D b nL cells slots Q n h pc lv (.int i :: rest) := by
  subst hp
  subst hi
  subst hty
  intro H locs ls h1 h2 h3
  have hts := hC.1.2.2.2.2
  refine va_newaK hC.1.1 hC.1.2.1 (hts _ harr) rfl hdg rfl (nI_pos hN) (nI_clamp hN) hbytes hf.1 hf.2 h1.1 fun H1 cA' e1 z1 o1 hAr hNm => ?_
  have hk := (hC.2.1.1.2 t0 _ ht).2
  rw [hra] at hk
  have hcA : cA' = cA := Option.some.inj (hNm.symm.trans hk)
  subst hcA
  exact k H1 locs ls (h1.new (by show H1[n]? = some (vp_cell _ _); rw [ha]; exact e1) z1 o1) (xS.new h1.1 h2 z1 o1) h3
theorem xi_anewarray {C : String} {N t0 index : Nat} {i : Int32} {cA : ClassId} (hC : xC p s m args meth c D cc nL own) (hdg : decode cc pc = .ok (.anewarray index, 3)) {pc' : Nat} (hp : pc + 3 = pc') (hlink : Cond.classLink own index C ∈ xtbl) (hao : va_AO C s) (ht : (xtys D)[t0]? = some (cA, .object C)) (hi : i = nI N) (hN : N < 2 ^ 31) (hbytes : N * 4 ≤ 536870912) (hf : cells + 1 ≤ R.cells ∧ slots + N ≤ R.slots)
    (k : xV p l e R s m args below meth c D b nL (cells + 1) (slots + N) Q (n + 1) (xup h n (.inl (cA, N, .inr (.inr (.inr (.inr (fun _ => none))))))) pc' lv (.ref n :: rest)) : xV p l e R s m args below meth c D b nL cells slots Q n h pc lv (.int i :: rest) := by
  subst hp
  subst hi
  intro H locs ls h1 h2 h3
  have hts := hC.1.2.2.2.2
  refine W.anew hC.1.1 hC.1.2.1 hC.1.2.2.2.1 (hts _ hlink) (va_AO.use hao) rfl hdg rfl (nI_pos hN) (by rw [nI_clamp hN]; exact hbytes) hf.1 (by rw [nI_clamp hN]; exact hf.2) fun cA' kA comp g1 g2 g3 g4 => ?_
  obtain ⟨kA', comp', k1, k2, k3, k4⟩ := (hC.2.1.1.2 t0 _ ht).2
  have hcA : cA' = cA := Option.some.inj (g1.symm.trans k4)
  subst hcA
  rw [nI_clamp hN, h1.1]
  have hz : (H.push { cls := cA', slots := Array.replicate N .null, vm := .none }).size = n + 1 := by rw [Array.size_push, h1.1]
  have ho : ∀ q : Nat, q < n → (H.push { cls := cA', slots := Array.replicate N .null, vm := .none })[q]? = H[q]? := fun q hq => by
    rw [Array.getElem?_push, if_neg (by rw [h1.1]; omega)]
  refine k _ locs ls (h1.new ?_ hz ho) (xS.new h1.1 h2 hz ho) h3
  show _ = some (vp_cell _ _)
  rw [vp_cell_q, ← arrV_new, ← h1.1]
  simp [va_rf]
theorem xi_aastore {C : String} {T : u_T} {a N j t0 v ci M : Nat} {i : Int32} {cA : ClassId} {vs : List Value} {f : Nat → Option Nat} (hC : xC p s m args meth c D cc nL own) (hdg : decode cc pc = .ok (.aastore, 1)) {pc' : Nat} (hp : pc + 1 = pc') (he : h a = some (.inl (cA, N, .inr (.inr (.inr (.inr f)))))) (ht : (xtys D)[t0]? = some (cA, .object C)) (hv : h v = some (.inr (ci, vs))) (hc : vwCl[ci]? = some (C, T, M)) (hi : i = nI j) (hj : j < N) (hN : N < 2 ^ 31)
    (k : xV p l e R s m args below meth c D b nL cells slots Q n (xup h a (.inl (cA, N, .inr (.inr (.inr (.inr (va_up f j (some v)))))))) pc' lv rest) : xV p l e R s m args below meth c D b nL cells slots Q n h pc lv (.ref v :: .int i :: .ref a :: rest) := by
  subst hp
  subst hi
  intro H locs ls h1 h2 h3
  have hin := vp_in_nI hj hN
  have h0 : ¬ nI j < 0 := fun q => hin (Or.inl q)
  obtain ⟨hba, hat⟩ := h1.2.2 a _ he
  obtain ⟨hbv, r', hr', cellV, g1, g2, g3, -⟩ := h1.2.2 v _ hv
  have hcls := (hC.2.1.1.1 ci _ hc).2
  obtain ⟨kA, comp, k1, k2, k3, -⟩ := (hC.2.1.1.2 t0 _ ht).2
  have hcomp : comp = D.1.1 ci := Option.some.inj (k3.symm.trans hcls.1)
  subst hcomp
  obtain ⟨kC, hkC, -⟩ := hcls.2
  refine W.aast hC.1.1 hC.1.2.1 hat (fun q h => by cases h) (fun h => by cases h) k1 k2 rfl hkC ⟨h0, by show _ < (arrV _ _ _).slots.size; rw [arrV_size, nI_clamp (Nat.lt_trans hj hN)]; exact hj⟩ g1 (fun q h => by rw [g3] at h; cases h) (by rw [g2]; exact hkC) (by rw [g2]; exact va_assign hcls) rfl rfl hdg fun H1 g z oq => ?_
  refine k H1 _ ls (h1.put hba ?_ z oq) (h2.put z oq hba) h3
  show H1[a]? = some (vp_cell _ _)
  rw [g, nI_clamp (Nat.lt_trans hj hN)]
  rw [vp_cell_q, vp_cell_q, arrV_store]
  congr 2
  funext q
  by_cases hq : q = j
  · subst hq
    simp [updV, va_up, va_rf]
  · simp [updV, va_up, hq]
end XW
