/-! ===== the layer: a heap as a function of the address; one judgement over it, one row an instruction ===== -/
abbrev XD : Type := va_G × (Nat → ClassId)
abbrev XH : Type := Nat → Option va_E
def xtys (D : XD) : List (ClassId × FieldType) := [(D.2 0, .int), (D.2 1, .int), (D.2 2, .int), (D.2 3, .object RX2), (D.2 4, .object RX6), (D.2 5, .object RX1), (D.2 6, .object RX5)]
def xK (D : XD) (U : State) : Prop := va_K D.1 vwCl (xtys D) U ∧ xNest U
def xR (f lo mc ms : Nat) : Room := { frames := f, cells := mc, slots := ms, locals := lo }
/-- the heap H holds what h says, from b on; its size is n -/
def xP (D : XD) (b n : Nat) (h : XH) (H : Heap) : Prop := H.size = n ∧ b ≤ n ∧ ∀ (q : Nat) (e : va_E), h q = some e → b ≤ q ∧ va_at D.1 vwCl (q, e) H
def xup (h : XH) (a : Nat) (e : va_E) : XH := fun q => if q = a then some e else h q
theorem xup_s {h : XH} {a : Nat} {e : va_E} : xup h a e a = some e := if_pos rfl
theorem xup_n {h : XH} {a q : Nat} {e : va_E} (hq : q ≠ a) : xup h a e q = h q := if_neg hq
/-- the locals that are known, by their places -/
def xL (nL : Nat) (lv : List (Option Value)) (ls : Array Slot) : Prop := ls.size = nL ∧ lv_wf ls ∧ ∀ (i : Nat) (v : Value), lv[i]? = some (some v) → v.category = 1 ∧ ls[i]? = some (.val v)
def xC (p : Program) (s : State) (m : MethodId) (args : Array Value) (meth : Method) (c : Code) (D : XD) (cc : ByteArray) (nL : Nat) (own : String) : Prop := CallFix p m c cc nL s args xtbl own ∧ xK D s ∧ meth.locks = false
def xV (p : Program) (l : Launch) (e : Env) (R : Room) (s : State) (m : MethodId) (args : Array Value) (below : List Frame) (meth : Method) (c : Code) (D : XD) (b nL cells slots : Nat) (Q : State → Prop) (n : Nat) (h : XH) (pc : Nat) (lv : List (Option Value)) (st : List Value) : Prop :=
  ∀ (H : Heap) (locs : List Loc) (ls : Array Slot), xP D b n h H → va_S (fun q => b ≤ q) s.heap H locs → xL nL lv ls → W p l e R s m args below meth c H locs cells slots Q (F0 m pc ls st)
/-- a method's end: what it answers and the heap behind it; below b nothing has changed -/
def xQ (D : XD) (b n : Nat) (P : Option Value → XH → Prop) : Array Value → State → Outcome → State → Prop := fun _ st o t =>
  (∃ (v : Option Value) (h' : XH), o = .returned v ∧ P v h' ∧ xP D b n h' t.heap) ∧ va_F (fun q => b ≤ q) st t
def xPre (D : XD) (b n : Nat) (h : XH) : State → Prop := fun U => xP D b n h U.heap ∧ xK D U
/-- a method's contract -/
def xM (l : Launch) (y : MethodName) (cc : ByteArray) (maxL : Nat) (ret : Option FieldType) (f lo mc ms : Nat) (D : XD) (b n : Nat) (av : List Value) (h : XH) (n' : Nat) (P : Option Value → XH → Prop) : Prop :=
  Met l y (Cond.code y cc maxL ret :: xtbl) (xR f lo mc ms) (va_Pc av (xPre D b n h)) (xQ D b n' P) mc ms (fun q => b ≤ q)
theorem xK.warm {D : XD} {s U : State} (hW : s.WarmedH U.vm) (h : xK D s) : xK D U := ⟨h.1.moved hW.alike, h.2.warm hW⟩
theorem xPre.blind {D : XD} {b n : Nat} {h : XH} {av : List Value} : FrameBlind (va_Pc av (xPre D b n h)) := fun a U g mk q =>
  ⟨q.1, q.2.1, va_K.moved (u := U) (U := U.calling g mk a) (Vm.Alike.refl U.vm) q.2.2.1, xNest.same (s := U) (U := U.calling g mk a) rfl q.2.2.2⟩
theorem xP.one {D : XD} {b n : Nat} {h : XH} {H : Heap} {a : Nat} {e : va_E} (hP : xP D b n h H) (he : h a = some e) : va_P D.1 vwCl [(a, e)] H := by
  intro k q hk
  match k, hk with
  | 0, hk => cases hk; exact (hP.2.2 a e he).2
  | k + 1, hk => simp at hk
theorem xP.put {D : XD} {b n : Nat} {h : XH} {H H1 : Heap} {a : Nat} {e : va_E} (hP : xP D b n h H) (ha : b ≤ a) (he : va_at D.1 vwCl (a, e) H1) (z : H1.size = H.size) (oq : ∀ q : Nat, q ≠ a → H1[q]? = H[q]?) : xP D b n (xup h a e) H1 := by
  refine ⟨z.trans hP.1, hP.2.1, fun q e1 h1 => ?_⟩
  by_cases hq : q = a
  · subst hq
    rw [xup_s] at h1
    cases h1
    exact ⟨ha, he⟩
  · rw [xup_n hq] at h1
    exact ⟨(hP.2.2 q e1 h1).1, (hP.2.2 q e1 h1).2.kept (oq q hq)⟩
theorem xL.store {nL : Nat} {lv lv' : List (Option Value)} {ls : Array Slot} {i : Nat} {v : Value} (h : xL nL lv ls) (hi : i < nL) (hc : v.category = 1) (hl : lv.set i (some v) = lv') : ∃ ls', storeLocals ls i v = some ls' ∧ xL nL lv' ls' := by
  obtain ⟨hs, hw, ha⟩ := h
  obtain ⟨ls', e1, h1⟩ := lv_store1 (l := []) (v := v) ⟨hs, hw, fun q hq => by cases hq⟩ hi hc
  refine ⟨ls', e1, h1.1, h1.2.1, fun j w hj => ?_⟩
  subst hl
  by_cases hij : j = i
  · subst hij
    have hlt : j < lv.length := by
      have := (List.getElem?_eq_some_iff.mp hj).1
      rwa [List.length_set] at this
    rw [List.getElem?_set_self hlt] at hj
    cases hj
    exact ⟨hc, h1.2.2 (j, v) List.mem_cons_self⟩
  · rw [List.getElem?_set_ne (Ne.symm hij)] at hj
    obtain ⟨c1, g1⟩ := ha j w hj
    obtain ⟨ls2, e2, h2⟩ := lv_store1 (l := [(j, w)]) (v := v) ⟨hs, hw, fun q hq => by rw [List.mem_singleton.mp hq]; exact g1⟩ hi hc
    rw [e1] at e2
    cases e2
    refine ⟨c1, h2.2.2 (j, w) (List.mem_cons_of_mem _ (List.mem_filter.mpr ⟨List.mem_singleton.mpr rfl, ?_⟩))⟩
    simp [hij, c1]
theorem xL.entry {av : List Value} {nL : Nat} {lv : List (Option Value)} (hc : ∀ v ∈ av, v.category = 1) (hn : av.length ≤ nL) (hl : av.map some ++ List.replicate (nL - av.length) none = lv) : ∃ ls : Array Slot, (∀ m : MethodId, entryFrame m av.toArray nL = F0 m 0 ls []) ∧ xL nL lv ls := by
  have hsl : ∀ vs : List Value, (∀ v ∈ vs, v.category = 1) → lg_sl vs = vs.map Slot.val := by
    intro vs
    induction vs with
    | nil => intro _; rfl
    | cons v t ih =>
      intro hv
      have h1 := hv v List.mem_cons_self
      have h2 := ih (fun w hw => hv w (List.mem_cons_of_mem _ hw))
      show (if v.category = 2 then [Slot.val v, .second] else [Slot.val v]) ++ lg_sl t = _
      rw [if_neg (by omega), h2]
      rfl
  have hlen : (lg_sl av).length = av.length := by rw [hsl av hc, List.length_map]
  have h0 := lv_entry av (n := nL) (by rw [hlen]; exact hn)
  refine ⟨_, fun m => lg_entry_eq m av nL, h0.1, h0.2.1, fun i v hi => ?_⟩
  subst hl
  have hlt : i < av.length := by
    rcases Nat.lt_or_ge i av.length with q | q
    · exact q
    · rw [List.getElem?_append_right (by rw [List.length_map]; exact q), List.length_map, List.getElem?_replicate] at hi
      split at hi <;> cases hi
  rw [List.getElem?_append_left (by rw [List.length_map]; exact hlt), List.getElem?_map] at hi
  have hv : av[i]? = some v := by
    cases hq : av[i]? with
    | none => rw [hq] at hi; cases hi
    | some w => rw [hq] at hi; cases hi; rfl
  refine ⟨hc v (List.mem_of_getElem? hv), ?_⟩
  rw [List.getElem?_toArray, hsl av hc, List.getElem?_append_left (by rw [List.length_map]; exact hlt), List.getElem?_map, hv]
  rfl
/-- a contract out of the body's walk -/
theorem xM.of {l : Launch} {y : MethodName} {cc : ByteArray} {maxL : Nat} {ret : Option FieldType} {f lo mc ms : Nat} {D : XD} {b n : Nat} {av : List Value} {h : XH} {n' : Nat} {P : Option Value → XH → Prop} {own : String} {lv : List (Option Value)} (hy : plainName y.cls = true) (ho : y.cls = own) (hc : ∀ v ∈ av, v.category = 1) (hn : av.length ≤ maxL) (hl : av.map some ++ List.replicate (maxL - av.length) none = lv)
    (body : ∀ (p : Program) (e : Env) (s : State) (m : MethodId) (args : Array Value) (below : List Frame) (meth : Method) (c : Code), xC p s m args meth c D cc maxL own → meth.sig.returnType = ret → meth.name = y.name → xV p l e (xR f lo mc ms) s m args below meth c D b maxL 0 0 (MQ below (xQ D b n' P) args s mc ms (fun q => b ≤ q)) n h 0 lv []) :
    xM l y cc maxL ret f lo mc ms D b n av h n' P := by
  refine Met.ofW (cc := cc) (maxL := maxL) (ret := ret) hy rfl ?_
  intro p e s m args below meth c s₁ B hml hv
  obtain ⟨hav, hP, hK⟩ := hv
  have hts := atoms_spec (ws := Cond.code y cc maxL ret :: xtbl) B.pre
  have hown : s.vm.findClass own = some m.cls := by rw [← ho]; exact findClass_of_methodNamed B.named
  obtain ⟨ls, hE, hL⟩ := xL.entry hc hn hl
  rw [hav, hE m]
  rw [← hav]
  exact body p e s m args below meth c ⟨⟨B.exec, B.bytes, hml, hown, fun w hw => hts w (List.mem_cons_of_mem _ hw)⟩, hK, B.notSynchronized⟩ B.returns (name_of_methodNamed B.named B.method).1 s.heap [] ls hP va_S.rf hL
section XV
variable {p : Program} {l : Launch} {e : Env} {R : Room} {s : State} {m : MethodId} {args : Array Value} {below : List Frame} {meth : Method} {c : Code} {D : XD} {b nL cells slots : Nat} {Q : State → Prop} {n : Nat} {h : XH} {pc : Nat} {lv : List (Option Value)} {rest : List Value} {cc : ByteArray} {own : String}
theorem xi_iconst {i : Int} {v : Int32} (hC : xC p s m args meth c D cc nL own) (hdg : decode cc pc = .ok (.iconst i, 1)) {pc' : Nat} (hp : pc + 1 = pc') (hv : Int32.ofInt i = v)
    (k : xV p l e R s m args below meth c D b nL cells slots Q n h pc' lv (.int v :: rest)) : xV p l e R s m args below meth c D b nL cells slots Q n h pc lv rest := by
  subst hp
  exact fun H locs ls h1 h2 h3 => lv_iconst hC.1.1 hC.1.2.1 hdg hv (k H locs ls h1 h2 h3)
theorem xi_bipush {i : Int} {v : Int32} (hC : xC p s m args meth c D cc nL own) (hdg : decode cc pc = .ok (.bipush i, 2)) {pc' : Nat} (hp : pc + 2 = pc') (hv : (Int8.ofInt i).toInt32 = v)
    (k : xV p l e R s m args below meth c D b nL cells slots Q n h pc' lv (.int v :: rest)) : xV p l e R s m args below meth c D b nL cells slots Q n h pc lv rest := by
  subst hp
  exact fun H locs ls h1 h2 h3 => lv_bipush hC.1.1 hC.1.2.1 hdg hv (k H locs ls h1 h2 h3)
theorem xi_sipush {i : Int} {v : Int32} (hC : xC p s m args meth c D cc nL own) (hdg : decode cc pc = .ok (.sipush i, 3)) {pc' : Nat} (hp : pc + 3 = pc') (hv : (Int16.ofInt i).toInt32 = v)
    (k : xV p l e R s m args below meth c D b nL cells slots Q n h pc' lv (.int v :: rest)) : xV p l e R s m args below meth c D b nL cells slots Q n h pc lv rest := by
  subst hp
  exact fun H locs ls h1 h2 h3 => lv_sipush hC.1.1 hC.1.2.1 hdg hv (k H locs ls h1 h2 h3)
theorem xi_iload_n {j : Fin 4} {i : Nat} {x : Int32} (hC : xC p s m args meth c D cc nL own) (hdg : decode cc pc = .ok (.iload_n j, 1)) {pc' : Nat} (hp : pc + 1 = pc') (hi : (j : Nat) = i) (hx : lv[i]? = some (some (.int x)))
    (k : xV p l e R s m args below meth c D b nL cells slots Q n h pc' lv (.int x :: rest)) : xV p l e R s m args below meth c D b nL cells slots Q n h pc lv rest := by
  subst hp
  exact fun H locs ls h1 h2 h3 => lv_iload_n hC.1.1 hC.1.2.1 hdg hi (h3.2.2 _ _ hx).2 (k H locs ls h1 h2 h3)
theorem xi_iload {i : Nat} {x : Int32} (hC : xC p s m args meth c D cc nL own) (hdg : decode cc pc = .ok (.iload i, 2)) {pc' : Nat} (hp : pc + 2 = pc') (hx : lv[i]? = some (some (.int x)))
    (k : xV p l e R s m args below meth c D b nL cells slots Q n h pc' lv (.int x :: rest)) : xV p l e R s m args below meth c D b nL cells slots Q n h pc lv rest := by
  subst hp
  exact fun H locs ls h1 h2 h3 => lv_iload hC.1.1 hC.1.2.1 hdg (h3.2.2 _ _ hx).2 (k H locs ls h1 h2 h3)
theorem xi_aload_n {j : Fin 4} {i : Nat} {x : Nat} (hC : xC p s m args meth c D cc nL own) (hdg : decode cc pc = .ok (.aload_n j, 1)) {pc' : Nat} (hp : pc + 1 = pc') (hi : (j : Nat) = i) (hx : lv[i]? = some (some (.ref x)))
    (k : xV p l e R s m args below meth c D b nL cells slots Q n h pc' lv (.ref x :: rest)) : xV p l e R s m args below meth c D b nL cells slots Q n h pc lv rest := by
  subst hp
  exact fun H locs ls h1 h2 h3 => lv_aload_n hC.1.1 hC.1.2.1 hdg hi (h3.2.2 _ _ hx).2 (k H locs ls h1 h2 h3)
theorem xi_aload {i : Nat} {x : Nat} (hC : xC p s m args meth c D cc nL own) (hdg : decode cc pc = .ok (.aload i, 2)) {pc' : Nat} (hp : pc + 2 = pc') (hx : lv[i]? = some (some (.ref x)))
    (k : xV p l e R s m args below meth c D b nL cells slots Q n h pc' lv (.ref x :: rest)) : xV p l e R s m args below meth c D b nL cells slots Q n h pc lv rest := by
  subst hp
  exact fun H locs ls h1 h2 h3 => lv_aload hC.1.1 hC.1.2.1 hdg (h3.2.2 _ _ hx).2 (k H locs ls h1 h2 h3)
theorem xi_istore_n {j : Fin 4} {i : Nat} {x : Int32} {lv' : List (Option Value)} (hC : xC p s m args meth c D cc nL own) (hdg : decode cc pc = .ok (.istore_n j, 1)) {pc' : Nat} (hp : pc + 1 = pc') (hi : (j : Nat) = i) (hn : i < nL) (hl : lv.set i (some (.int x)) = lv')
    (k : xV p l e R s m args below meth c D b nL cells slots Q n h pc' lv' rest) : xV p l e R s m args below meth c D b nL cells slots Q n h pc lv (.int x :: rest) := by
  subst hp
  subst hi
  intro H locs ls h1 h2 h3 T hT X
  obtain ⟨ls', e', h'⟩ := h3.store (v := .int x) hn rfl hl
  obtain ⟨t, a, b⟩ := k H locs ls' h1 h2 h' T hT X
  refine ⟨t, ?_, b⟩
  have hexec := hC.1.1
  have hb := hC.1.2.1
  jvm_step X.here [X.here.top, ↓top_set X.here.top, hexec, hb, hdg, e']
  exact a
theorem xi_istore {i : Nat} {x : Int32} {lv' : List (Option Value)} (hC : xC p s m args meth c D cc nL own) (hdg : decode cc pc = .ok (.istore i, 2)) {pc' : Nat} (hp : pc + 2 = pc') (hn : i < nL) (hl : lv.set i (some (.int x)) = lv')
    (k : xV p l e R s m args below meth c D b nL cells slots Q n h pc' lv' rest) : xV p l e R s m args below meth c D b nL cells slots Q n h pc lv (.int x :: rest) := by
  subst hp
  intro H locs ls h1 h2 h3 T hT X
  obtain ⟨ls', e', h'⟩ := h3.store (v := .int x) hn rfl hl
  obtain ⟨t, a, b⟩ := k H locs ls' h1 h2 h' T hT X
  refine ⟨t, ?_, b⟩
  have hexec := hC.1.1
  have hb := hC.1.2.1
  jvm_step X.here [X.here.top, ↓top_set X.here.top, hexec, hb, hdg, e']
  exact a
theorem xi_astore_n {j : Fin 4} {i : Nat} {x : Nat} {lv' : List (Option Value)} (hC : xC p s m args meth c D cc nL own) (hdg : decode cc pc = .ok (.astore_n j, 1)) {pc' : Nat} (hp : pc + 1 = pc') (hi : (j : Nat) = i) (hn : i < nL) (hl : lv.set i (some (.ref x)) = lv')
    (k : xV p l e R s m args below meth c D b nL cells slots Q n h pc' lv' rest) : xV p l e R s m args below meth c D b nL cells slots Q n h pc lv (.ref x :: rest) := by
  subst hp
  subst hi
  intro H locs ls h1 h2 h3 T hT X
  obtain ⟨ls', e', h'⟩ := h3.store (v := .ref x) hn rfl hl
  obtain ⟨t, a, b⟩ := k H locs ls' h1 h2 h' T hT X
  refine ⟨t, ?_, b⟩
  have hexec := hC.1.1
  have hb := hC.1.2.1
  jvm_step X.here [X.here.top, ↓top_set X.here.top, hexec, hb, hdg, e', Value.isRef]
  exact a
theorem xi_astore {i : Nat} {x : Nat} {lv' : List (Option Value)} (hC : xC p s m args meth c D cc nL own) (hdg : decode cc pc = .ok (.astore i, 2)) {pc' : Nat} (hp : pc + 2 = pc') (hn : i < nL) (hl : lv.set i (some (.ref x)) = lv')
    (k : xV p l e R s m args below meth c D b nL cells slots Q n h pc' lv' rest) : xV p l e R s m args below meth c D b nL cells slots Q n h pc lv (.ref x :: rest) := by
  subst hp
  intro H locs ls h1 h2 h3 T hT X
  obtain ⟨ls', e', h'⟩ := h3.store (v := .ref x) hn rfl hl
  obtain ⟨t, a, b⟩ := k H locs ls' h1 h2 h' T hT X
  refine ⟨t, ?_, b⟩
  have hexec := hC.1.1
  have hb := hC.1.2.1
  jvm_step X.here [X.here.top, ↓top_set X.here.top, hexec, hb, hdg, e', Value.isRef]
  exact a
theorem xi_iinc {i : Nat} {z : Int} {x v : Int32} {lv' : List (Option Value)} (hC : xC p s m args meth c D cc nL own) (hdg : decode cc pc = .ok (.iinc i z, 3)) {pc' : Nat} (hp : pc + 3 = pc') (hx : lv[i]? = some (some (.int x))) (hv : x + Int32.ofInt z = v) (hn : i < nL) (hl : lv.set i (some (.int v)) = lv')
    (k : xV p l e R s m args below meth c D b nL cells slots Q n h pc' lv' rest) : xV p l e R s m args below meth c D b nL cells slots Q n h pc lv rest := by
  subst hp
  subst hv
  intro H locs ls h1 h2 h3 T hT X
  have hg := (h3.2.2 _ _ hx).2
  obtain ⟨ls', e', h'⟩ := h3.store (v := .int (x + Int32.ofInt z)) hn rfl hl
  obtain ⟨t, a, b⟩ := k H locs ls' h1 h2 h' T hT X
  refine ⟨t, ?_, b⟩
  have hexec := hC.1.1
  have hb := hC.1.2.1
  jvm_step X.here [X.here.top, ↓top_set X.here.top, hexec, hb, hdg, hg, e']
  exact a
theorem xi_iadd {x y : Int32} (hC : xC p s m args meth c D cc nL own) (hdg : decode cc pc = .ok (.iadd, 1)) {pc' : Nat} (hp : pc + 1 = pc')
    (k : xV p l e R s m args below meth c D b nL cells slots Q n h pc' lv (.int (x + y) :: rest)) : xV p l e R s m args below meth c D b nL cells slots Q n h pc lv (.int y :: .int x :: rest) := by
  subst hp
  exact fun H locs ls h1 h2 h3 => lv_iadd hC.1.1 hC.1.2.1 hdg (k H locs ls h1 h2 h3)
theorem xi_isub {x y : Int32} (hC : xC p s m args meth c D cc nL own) (hdg : decode cc pc = .ok (.isub, 1)) {pc' : Nat} (hp : pc + 1 = pc')
    (k : xV p l e R s m args below meth c D b nL cells slots Q n h pc' lv (.int (x - y) :: rest)) : xV p l e R s m args below meth c D b nL cells slots Q n h pc lv (.int y :: .int x :: rest) := by
  subst hp
  exact fun H locs ls h1 h2 h3 => lv_isub hC.1.1 hC.1.2.1 hdg (k H locs ls h1 h2 h3)
theorem xi_imul {x y : Int32} (hC : xC p s m args meth c D cc nL own) (hdg : decode cc pc = .ok (.imul, 1)) {pc' : Nat} (hp : pc + 1 = pc')
    (k : xV p l e R s m args below meth c D b nL cells slots Q n h pc' lv (.int (x * y) :: rest)) : xV p l e R s m args below meth c D b nL cells slots Q n h pc lv (.int y :: .int x :: rest) := by
  subst hp
  exact fun H locs ls h1 h2 h3 => lv_imul hC.1.1 hC.1.2.1 hdg (k H locs ls h1 h2 h3)
theorem xi_iand {x y : Int32} (hC : xC p s m args meth c D cc nL own) (hdg : decode cc pc = .ok (.iand, 1)) {pc' : Nat} (hp : pc + 1 = pc')
    (k : xV p l e R s m args below meth c D b nL cells slots Q n h pc' lv (.int (x &&& y) :: rest)) : xV p l e R s m args below meth c D b nL cells slots Q n h pc lv (.int y :: .int x :: rest) := by
  subst hp
  exact fun H locs ls h1 h2 h3 => lv_iand hC.1.1 hC.1.2.1 hdg (k H locs ls h1 h2 h3)
theorem xi_ior {x y : Int32} (hC : xC p s m args meth c D cc nL own) (hdg : decode cc pc = .ok (.ior, 1)) {pc' : Nat} (hp : pc + 1 = pc')
    (k : xV p l e R s m args below meth c D b nL cells slots Q n h pc' lv (.int (x ||| y) :: rest)) : xV p l e R s m args below meth c D b nL cells slots Q n h pc lv (.int y :: .int x :: rest) := by
  subst hp
  exact fun H locs ls h1 h2 h3 => lv_ior hC.1.1 hC.1.2.1 hdg (k H locs ls h1 h2 h3)
theorem xi_ixor {x y : Int32} (hC : xC p s m args meth c D cc nL own) (hdg : decode cc pc = .ok (.ixor, 1)) {pc' : Nat} (hp : pc + 1 = pc')
    (k : xV p l e R s m args below meth c D b nL cells slots Q n h pc' lv (.int (x ^^^ y) :: rest)) : xV p l e R s m args below meth c D b nL cells slots Q n h pc lv (.int y :: .int x :: rest) := by
  subst hp
  exact fun H locs ls h1 h2 h3 => lv_ixor hC.1.1 hC.1.2.1 hdg (k H locs ls h1 h2 h3)
theorem xi_ishl {x y : Int32} (hC : xC p s m args meth c D cc nL own) (hdg : decode cc pc = .ok (.ishl, 1)) {pc' : Nat} (hp : pc + 1 = pc')
    (k : xV p l e R s m args below meth c D b nL cells slots Q n h pc' lv (.int (x <<< (y &&& 31)) :: rest)) : xV p l e R s m args below meth c D b nL cells slots Q n h pc lv (.int y :: .int x :: rest) := by
  subst hp
  exact fun H locs ls h1 h2 h3 => lv_ishl hC.1.1 hC.1.2.1 hdg (k H locs ls h1 h2 h3)
theorem xi_ishr {x y : Int32} (hC : xC p s m args meth c D cc nL own) (hdg : decode cc pc = .ok (.ishr, 1)) {pc' : Nat} (hp : pc + 1 = pc')
    (k : xV p l e R s m args below meth c D b nL cells slots Q n h pc' lv (.int (x >>> (y &&& 31)) :: rest)) : xV p l e R s m args below meth c D b nL cells slots Q n h pc lv (.int y :: .int x :: rest) := by
  subst hp
  exact fun H locs ls h1 h2 h3 => lv_ishr hC.1.1 hC.1.2.1 hdg (k H locs ls h1 h2 h3)
theorem xi_irem {x y : Int32} (hC : xC p s m args meth c D cc nL own) (hdg : decode cc pc = .ok (.irem, 1)) {pc' : Nat} (hp : pc + 1 = pc') (hne : ¬ y = 0)
    (k : xV p l e R s m args below meth c D b nL cells slots Q n h pc' lv (.int (x - x / y * y) :: rest)) : xV p l e R s m args below meth c D b nL cells slots Q n h pc lv (.int y :: .int x :: rest) := by
  subst hp
  exact fun H locs ls h1 h2 h3 => lv_irem hC.1.1 hC.1.2.1 hdg hne (k H locs ls h1 h2 h3)
theorem xi_i2c {x v : Int32} (hC : xC p s m args meth c D cc nL own) (hdg : decode cc pc = .ok (.i2c, 1)) {pc' : Nat} (hp : pc + 1 = pc') (hv : (x.toUInt32 % 65536).toInt32 = v)
    (k : xV p l e R s m args below meth c D b nL cells slots Q n h pc' lv (.int v :: rest)) : xV p l e R s m args below meth c D b nL cells slots Q n h pc lv (.int x :: rest) := by
  subst hp
  exact fun H locs ls h1 h2 h3 => lv_i2c hC.1.1 hC.1.2.1 hdg hv (k H locs ls h1 h2 h3)
/-- another name for the number on top -/
theorem xtop {x y : Int32} (he : x = y) (k : xV p l e R s m args below meth c D b nL cells slots Q n h pc lv (.int y :: rest)) : xV p l e R s m args below meth c D b nL cells slots Q n h pc lv (.int x :: rest) := he ▸ k
theorem xheap {h' : XH} (he : h = h') (k : xV p l e R s m args below meth c D b nL cells slots Q n h' pc lv rest) : xV p l e R s m args below meth c D b nL cells slots Q n h pc lv rest := he ▸ k
theorem xi_dup {v : Value} (hC : xC p s m args meth c D cc nL own) (hdg : decode cc pc = .ok (.dup, 1)) {pc' : Nat} (hp : pc + 1 = pc') (hv : v.category = 1)
    (k : xV p l e R s m args below meth c D b nL cells slots Q n h pc' lv (v :: v :: rest)) : xV p l e R s m args below meth c D b nL cells slots Q n h pc lv (v :: rest) := by
  subst hp
  exact fun H locs ls h1 h2 h3 => lv_dup hC.1.1 hC.1.2.1 hdg hv (k H locs ls h1 h2 h3)
theorem xi_dup2 {v w : Value} (hC : xC p s m args meth c D cc nL own) (hdg : decode cc pc = .ok (.dup2, 1)) {pc' : Nat} (hp : pc + 1 = pc') (hv : v.category = 1) (hw : w.category = 1)
    (k : xV p l e R s m args below meth c D b nL cells slots Q n h pc' lv (v :: w :: v :: w :: rest)) : xV p l e R s m args below meth c D b nL cells slots Q n h pc lv (v :: w :: rest) := by
  subst hp
  exact fun H locs ls h1 h2 h3 => lv_dup2_11 hC.1.1 hC.1.2.1 hdg hv hw (k H locs ls h1 h2 h3)
theorem xi_goto {off : Int} {tgt : Nat} (hC : xC p s m args meth c D cc nL own) (hdg : decode cc pc = .ok (.goto off, 3)) (ht : (pc : Int) + off = (tgt : Int))
    (k : xV p l e R s m args below meth c D b nL cells slots Q n h tgt lv rest) : xV p l e R s m args below meth c D b nL cells slots Q n h pc lv rest := fun H locs ls h1 h2 h3 => lv_goto hC.1.1 hC.1.2.1 hdg ht (k H locs ls h1 h2 h3)
theorem xi_ifeq {x : Int32} {off : Int} {tgt : Nat} (hC : xC p s m args meth c D cc nL own) (hdg : decode cc pc = .ok (.ifCond .eq off, 3)) {pc' : Nat} (hp : pc + 3 = pc') (ht : (pc : Int) + off = (tgt : Int))
    (kt : x = 0 → xV p l e R s m args below meth c D b nL cells slots Q n h tgt lv rest) (kf : ¬ x = 0 → xV p l e R s m args below meth c D b nL cells slots Q n h pc' lv rest) : xV p l e R s m args below meth c D b nL cells slots Q n h pc lv (.int x :: rest) := by
  subst hp
  exact fun H locs ls h1 h2 h3 => lv_if_eq hC.1.1 hC.1.2.1 hdg ht (fun q => kt q H locs ls h1 h2 h3) (fun q => kf q H locs ls h1 h2 h3)
theorem xi_ifne {x : Int32} {off : Int} {tgt : Nat} (hC : xC p s m args meth c D cc nL own) (hdg : decode cc pc = .ok (.ifCond .ne off, 3)) {pc' : Nat} (hp : pc + 3 = pc') (ht : (pc : Int) + off = (tgt : Int))
    (kt : ¬ x = 0 → xV p l e R s m args below meth c D b nL cells slots Q n h tgt lv rest) (kf : x = 0 → xV p l e R s m args below meth c D b nL cells slots Q n h pc' lv rest) : xV p l e R s m args below meth c D b nL cells slots Q n h pc lv (.int x :: rest) := by
  subst hp
  exact fun H locs ls h1 h2 h3 => lv_if_ne hC.1.1 hC.1.2.1 hdg ht (fun q => kt q H locs ls h1 h2 h3) (fun q => kf q H locs ls h1 h2 h3)
theorem xi_iflt {x : Int32} {off : Int} {tgt : Nat} (hC : xC p s m args meth c D cc nL own) (hdg : decode cc pc = .ok (.ifCond .lt off, 3)) {pc' : Nat} (hp : pc + 3 = pc') (ht : (pc : Int) + off = (tgt : Int))
    (kt : x < 0 → xV p l e R s m args below meth c D b nL cells slots Q n h tgt lv rest) (kf : ¬ x < 0 → xV p l e R s m args below meth c D b nL cells slots Q n h pc' lv rest) : xV p l e R s m args below meth c D b nL cells slots Q n h pc lv (.int x :: rest) := by
  subst hp
  exact fun H locs ls h1 h2 h3 => lv_if_lt hC.1.1 hC.1.2.1 hdg ht (fun q => kt q H locs ls h1 h2 h3) (fun q => kf q H locs ls h1 h2 h3)
theorem xi_ifge {x : Int32} {off : Int} {tgt : Nat} (hC : xC p s m args meth c D cc nL own) (hdg : decode cc pc = .ok (.ifCond .ge off, 3)) {pc' : Nat} (hp : pc + 3 = pc') (ht : (pc : Int) + off = (tgt : Int))
    (kt : 0 ≤ x → xV p l e R s m args below meth c D b nL cells slots Q n h tgt lv rest) (kf : ¬ 0 ≤ x → xV p l e R s m args below meth c D b nL cells slots Q n h pc' lv rest) : xV p l e R s m args below meth c D b nL cells slots Q n h pc lv (.int x :: rest) := by
  subst hp
  exact fun H locs ls h1 h2 h3 => lv_if_ge hC.1.1 hC.1.2.1 hdg ht (fun q => kt q H locs ls h1 h2 h3) (fun q => kf q H locs ls h1 h2 h3)
theorem xi_ifgt {x : Int32} {off : Int} {tgt : Nat} (hC : xC p s m args meth c D cc nL own) (hdg : decode cc pc = .ok (.ifCond .gt off, 3)) {pc' : Nat} (hp : pc + 3 = pc') (ht : (pc : Int) + off = (tgt : Int))
    (kt : 0 < x → xV p l e R s m args below meth c D b nL cells slots Q n h tgt lv rest) (kf : ¬ 0 < x → xV p l e R s m args below meth c D b nL cells slots Q n h pc' lv rest) : xV p l e R s m args below meth c D b nL cells slots Q n h pc lv (.int x :: rest) := by
  subst hp
  exact fun H locs ls h1 h2 h3 => lv_if_gt hC.1.1 hC.1.2.1 hdg ht (fun q => kt q H locs ls h1 h2 h3) (fun q => kf q H locs ls h1 h2 h3)
theorem xi_ifle {x : Int32} {off : Int} {tgt : Nat} (hC : xC p s m args meth c D cc nL own) (hdg : decode cc pc = .ok (.ifCond .le off, 3)) {pc' : Nat} (hp : pc + 3 = pc') (ht : (pc : Int) + off = (tgt : Int))
    (kt : x ≤ 0 → xV p l e R s m args below meth c D b nL cells slots Q n h tgt lv rest) (kf : ¬ x ≤ 0 → xV p l e R s m args below meth c D b nL cells slots Q n h pc' lv rest) : xV p l e R s m args below meth c D b nL cells slots Q n h pc lv (.int x :: rest) := by
  subst hp
  exact fun H locs ls h1 h2 h3 => lv_if_le hC.1.1 hC.1.2.1 hdg ht (fun q => kt q H locs ls h1 h2 h3) (fun q => kf q H locs ls h1 h2 h3)
theorem xi_icmpeq {x y : Int32} {off : Int} {tgt : Nat} (hC : xC p s m args meth c D cc nL own) (hdg : decode cc pc = .ok (.if_icmp .eq off, 3)) {pc' : Nat} (hp : pc + 3 = pc') (ht : (pc : Int) + off = (tgt : Int))
    (kt : x = y → xV p l e R s m args below meth c D b nL cells slots Q n h tgt lv rest) (kf : ¬ x = y → xV p l e R s m args below meth c D b nL cells slots Q n h pc' lv rest) : xV p l e R s m args below meth c D b nL cells slots Q n h pc lv (.int y :: .int x :: rest) := by
  subst hp
  exact fun H locs ls h1 h2 h3 => lv_icmp_eq hC.1.1 hC.1.2.1 hdg ht (fun q => kt q H locs ls h1 h2 h3) (fun q => kf q H locs ls h1 h2 h3)
theorem xi_icmpne {x y : Int32} {off : Int} {tgt : Nat} (hC : xC p s m args meth c D cc nL own) (hdg : decode cc pc = .ok (.if_icmp .ne off, 3)) {pc' : Nat} (hp : pc + 3 = pc') (ht : (pc : Int) + off = (tgt : Int))
    (kt : ¬ x = y → xV p l e R s m args below meth c D b nL cells slots Q n h tgt lv rest) (kf : x = y → xV p l e R s m args below meth c D b nL cells slots Q n h pc' lv rest) : xV p l e R s m args below meth c D b nL cells slots Q n h pc lv (.int y :: .int x :: rest) := by
  subst hp
  exact fun H locs ls h1 h2 h3 => lv_icmp_ne hC.1.1 hC.1.2.1 hdg ht (fun q => kt q H locs ls h1 h2 h3) (fun q => kf q H locs ls h1 h2 h3)
theorem xi_icmplt {x y : Int32} {off : Int} {tgt : Nat} (hC : xC p s m args meth c D cc nL own) (hdg : decode cc pc = .ok (.if_icmp .lt off, 3)) {pc' : Nat} (hp : pc + 3 = pc') (ht : (pc : Int) + off = (tgt : Int))
    (kt : x < y → xV p l e R s m args below meth c D b nL cells slots Q n h tgt lv rest) (kf : ¬ x < y → xV p l e R s m args below meth c D b nL cells slots Q n h pc' lv rest) : xV p l e R s m args below meth c D b nL cells slots Q n h pc lv (.int y :: .int x :: rest) := by
  subst hp
  exact fun H locs ls h1 h2 h3 => lv_icmp_lt hC.1.1 hC.1.2.1 hdg ht (fun q => kt q H locs ls h1 h2 h3) (fun q => kf q H locs ls h1 h2 h3)
theorem xi_icmpge {x y : Int32} {off : Int} {tgt : Nat} (hC : xC p s m args meth c D cc nL own) (hdg : decode cc pc = .ok (.if_icmp .ge off, 3)) {pc' : Nat} (hp : pc + 3 = pc') (ht : (pc : Int) + off = (tgt : Int))
    (kt : y ≤ x → xV p l e R s m args below meth c D b nL cells slots Q n h tgt lv rest) (kf : ¬ y ≤ x → xV p l e R s m args below meth c D b nL cells slots Q n h pc' lv rest) : xV p l e R s m args below meth c D b nL cells slots Q n h pc lv (.int y :: .int x :: rest) := by
  subst hp
  exact fun H locs ls h1 h2 h3 => lv_icmp_ge hC.1.1 hC.1.2.1 hdg ht (fun q => kt q H locs ls h1 h2 h3) (fun q => kf q H locs ls h1 h2 h3)
theorem xi_icmpgt {x y : Int32} {off : Int} {tgt : Nat} (hC : xC p s m args meth c D cc nL own) (hdg : decode cc pc = .ok (.if_icmp .gt off, 3)) {pc' : Nat} (hp : pc + 3 = pc') (ht : (pc : Int) + off = (tgt : Int))
    (kt : y < x → xV p l e R s m args below meth c D b nL cells slots Q n h tgt lv rest) (kf : ¬ y < x → xV p l e R s m args below meth c D b nL cells slots Q n h pc' lv rest) : xV p l e R s m args below meth c D b nL cells slots Q n h pc lv (.int y :: .int x :: rest) := by
  subst hp
  exact fun H locs ls h1 h2 h3 => lv_icmp_gt hC.1.1 hC.1.2.1 hdg ht (fun q => kt q H locs ls h1 h2 h3) (fun q => kf q H locs ls h1 h2 h3)
theorem xi_icmple {x y : Int32} {off : Int} {tgt : Nat} (hC : xC p s m args meth c D cc nL own) (hdg : decode cc pc = .ok (.if_icmp .le off, 3)) {pc' : Nat} (hp : pc + 3 = pc') (ht : (pc : Int) + off = (tgt : Int))
    (kt : x ≤ y → xV p l e R s m args below meth c D b nL cells slots Q n h tgt lv rest) (kf : ¬ x ≤ y → xV p l e R s m args below meth c D b nL cells slots Q n h pc' lv rest) : xV p l e R s m args below meth c D b nL cells slots Q n h pc lv (.int y :: .int x :: rest) := by
  subst hp
  exact fun H locs ls h1 h2 h3 => lv_icmp_le hC.1.1 hC.1.2.1 hdg ht (fun q => kt q H locs ls h1 h2 h3) (fun q => kf q H locs ls h1 h2 h3)
theorem xi_lookup {dflt : Int} {ps : Array (Int × Int)} {len : Nat} {x : Int32} {off : Int} {tgt : Nat} (hC : xC p s m args meth c D cc nL own) (hdg : decode cc pc = .ok (.lookupswitch dflt ps, len)) (hp : (ps.toList.zip (ps.toList.drop 1)).all (fun (a, next) => a.1 < next.1) = true) (ho : Op.lookupswitch.offset ps.toList dflt x.toInt = off) (ht : (pc : Int) + off = (tgt : Int))
    (k : xV p l e R s m args below meth c D b nL cells slots Q n h tgt lv rest) : xV p l e R s m args below meth c D b nL cells slots Q n h pc lv (.int x :: rest) := fun H locs ls h1 h2 h3 => lv_lookup hC.1.1 hC.1.2.1 hdg hp ho ht (k H locs ls h1 h2 h3)
theorem xi_tableOut {dflt lo hi : Int} {offs : Array Int} {len : Nat} {x : Int32} {tgt : Nat} (hC : xC p s m args meth c D cc nL own) (hdg : decode cc pc = .ok (.tableswitch dflt lo hi offs, len)) (hx : x.toInt < lo ∨ hi < x.toInt) (ht : (pc : Int) + dflt = (tgt : Int))
    (k : xV p l e R s m args below meth c D b nL cells slots Q n h tgt lv rest) : xV p l e R s m args below meth c D b nL cells slots Q n h pc lv (.int x :: rest) := fun H locs ls h1 h2 h3 => lv_tableOut hC.1.1 hC.1.2.1 hdg hx ht (k H locs ls h1 h2 h3)
theorem xi_tableIn {dflt lo hi : Int} {offs : Array Int} {len : Nat} {x : Int32} {off : Int} {tgt : Nat} (hC : xC p s m args meth c D cc nL own) (hdg : decode cc pc = .ok (.tableswitch dflt lo hi offs, len)) (q1 : ¬ x.toInt < lo) (q2 : ¬ hi < x.toInt) (ho : offs[(x.toInt - lo).toNat]? = some off) (ht : (pc : Int) + off = (tgt : Int))
    (k : xV p l e R s m args below meth c D b nL cells slots Q n h tgt lv rest) : xV p l e R s m args below meth c D b nL cells slots Q n h pc lv (.int x :: rest) := fun H locs ls h1 h2 h3 => lv_tableIn hC.1.1 hC.1.2.1 hdg q1 q2 ho ht (k H locs ls h1 h2 h3)
theorem xi_getfield {C : String} {T : u_T} {a ci i N index : Nat} {fs : List Value} {v : Value} (hC : xC p s m args meth c D cc nL own) (hdg : decode cc pc = .ok (.getfield index, 3)) {pc' : Nat} (hp : pc + 3 = pc') (hlink : Cond.fieldLink own index (T i).1 (T i).2.1 (T i).2.2.1 ∈ xtbl) (hin : ∀ w ∈ u_ws C T N, w ∈ xtbl) (hc : vwCl[ci]? = some (C, T, N)) (hk : i < N) (he : h a = some (.inr (ci, fs))) (hv : fs[i]? = some v)
    (k : xV p l e R s m args below meth c D b nL cells slots Q n h pc' lv (v :: rest)) : xV p l e R s m args below meth c D b nL cells slots Q n h pc lv (.ref a :: rest) := by
  subst hp
  exact fun H locs ls h1 h2 h3 => va_get hC.1.1 hC.1.2.1 hC.1.2.2.2.2 hin hC.1.2.2.2.1 hC.2.1.1 (h1.one he) 0 rfl hc i hk (hC.1.2.2.2.2 _ hlink) (fun _ q => q) hv hdg (k H locs ls h1 h2 h3)
theorem xi_putfield {C : String} {T : u_T} {a ci i N index : Nat} {fs : List Value} {v : Value} {ty : FieldType} (ty0 : Nat → FieldType) (hC : xC p s m args meth c D cc nL own) (hdg : decode cc pc = .ok (.putfield index, 3)) {pc' : Nat} (hp : pc + 3 = pc') (hlink : Cond.fieldLink own index (T i).1 (T i).2.1 (T i).2.2.1 ∈ xtbl) (hin : ∀ w ∈ u_ws C T N, w ∈ xtbl) (hty : ∀ k, k < N → parseFieldDescriptor (T k).2.2.1 = some (ty0 k)) (hnm : ∀ a, a < N → ∀ b, b < N → a ≠ b → (T a).2.1 ≠ (T b).2.1) (hc : vwCl[ci]? = some (C, T, N)) (hk : i < N) (he : h a = some (.inr (ci, fs))) (hfin : (T i).2.2.2 = false) (hd : parseFieldDescriptor (T i).2.2.1 = some ty) (hn : narrow ty v = v) (hfit : fits ty v = true) (hl : i < fs.length)
    (k : xV p l e R s m args below meth c D b nL cells slots Q n (xup h a (.inr (ci, fs.set i v))) pc' lv rest) : xV p l e R s m args below meth c D b nL cells slots Q n h pc lv (v :: .ref a :: rest) := by
  subst hp
  intro H locs ls h1 h2 h3
  have hts := hC.1.2.2.2.2
  have hap := va_apart (own := own) hts hin ty0 hty hnm hC.2.1.1 hc
  obtain ⟨hba, r, g1, cell, q1, q2, q3, q4⟩ := h1.2.2 a _ he
  have hr : r = (C, T, N) := Option.some.inj (g1.symm.trans hc)
  subst hr
  obtain ⟨hS, hfc, kC, hkC, hkind⟩ := hC.2.1.1.1 ci _ hc
  obtain ⟨cf, kf, fi, fd, hi, hsl⟩ := hS i hk
  have hlay := hts _ (hin _ (u_in_lay hk))
  unfold u_lay at hlay
  rw [if_neg (by rw [hfin]; decide)] at hlay
  have hst := (u_facts hfc hkC (u_lays hts hin hk) hi).1
  have h6 := u_store hfc hkC hkind hlay hi hd hn hfit
  refine W.putK hC.1.1 hC.1.2.1 (f := fd) ⟨hC.1.2.2.2.1, hts _ hlink, ⟨_, _, _, hi⟩, hst⟩ (by rw [q2]; exact h6) q1 q3 (by rw [hsl]; exact k2_hasslot (q4 i hk)) rfl rfl hdg fun H' e1 e2 e3 => ?_
  rw [hsl] at e1 ⊢
  exact k H' _ ls (h1.put hba ⟨_, hc, t_OB.to (V := updV (vp_V fs) i v) ⟨_, e1, q2, q3, t_set q4 hap hk v⟩ (fun j _ => vp_updV_set hl v j)⟩ e2 e3) (h2.put e2 e3 hba) h3
theorem xi_putfinal {C : String} {T : u_T} {a ci i N index : Nat} {fs : List Value} {v : Value} {ty : FieldType} (ty0 : Nat → FieldType) (hC : xC p s m args meth c D cc nL own) (hdg : decode cc pc = .ok (.putfield index, 3)) {pc' : Nat} (hp : pc + 3 = pc') (hlink : Cond.fieldLink own index (T i).1 (T i).2.1 (T i).2.2.1 ∈ xtbl) (hin : ∀ w ∈ u_ws C T N, w ∈ xtbl) (hty : ∀ k, k < N → parseFieldDescriptor (T k).2.2.1 = some (ty0 k)) (hnm : ∀ a, a < N → ∀ b, b < N → a ≠ b → (T a).2.1 ≠ (T b).2.1) (hc : vwCl[ci]? = some (C, T, N)) (hk : i < N) (he : h a = some (.inr (ci, fs))) (hfin : (T i).2.2.2 = true) (hin2 : meth.name = "<init>") (hdecl : (T i).1 = own) (hd : parseFieldDescriptor (T i).2.2.1 = some ty) (hn : narrow ty v = v) (hfit : fits ty v = true) (hl : i < fs.length)
    (k : xV p l e R s m args below meth c D b nL cells slots Q n (xup h a (.inr (ci, fs.set i v))) pc' lv rest) : xV p l e R s m args below meth c D b nL cells slots Q n h pc lv (v :: .ref a :: rest) := by
  subst hp
  intro H locs ls h1 h2 h3
  have hts := hC.1.2.2.2.2
  have hown := hC.1.2.2.2.1
  have hap := va_apart (own := own) hts hin ty0 hty hnm hC.2.1.1 hc
  obtain ⟨hba, r, g1, cell, q1, q2, q3, q4⟩ := h1.2.2 a _ he
  have hr : r = (C, T, N) := Option.some.inj (g1.symm.trans hc)
  subst hr
  obtain ⟨hS, hfc, kC, hkC, hkind⟩ := hC.2.1.1.1 ci _ hc
  obtain ⟨cf, kf, fi, fd, hi, hsl⟩ := hS i hk
  have hlay := hts _ (hin _ (u_in_lay hk))
  unfold u_lay at hlay
  rw [if_pos hfin] at hlay
  have hst := (u_facts hfc hkC (u_lays hts hin hk) hi).1
  have hcf : m.cls = cf := by
    obtain ⟨_, _, c', _, _, _, -, -, hf', -, -, -, hown2, -⟩ := Cond.laysFinal_spec hlay
    have e1 : c' = cf := by have := hi.symm.trans hf'; simp at this; exact this.1.symm
    rw [hdecl] at hown2
    rw [← e1]; exact Option.some.inj (hown.symm.trans hown2)
  have h6 := u_fits hfc hkC hkind (Or.inr hlay) hi hd hn hfit
  refine W.putFinK hC.1.1 hC.1.2.1 hown (hts _ hlink) hi hst hcf hin2 (by rw [q2]; exact h6) q1 q3 (by rw [hsl]; exact k2_hasslot (q4 i hk)) rfl rfl hdg fun H' e1 e2 e3 => ?_
  rw [hsl] at e1 ⊢
  exact k H' _ ls (h1.put hba ⟨_, hc, t_OB.to (V := updV (vp_V fs) i v) ⟨_, e1, q2, q3, t_set q4 hap hk v⟩ (fun j _ => vp_updV_set hl v j)⟩ e2 e3) (h2.put e2 e3 hba) h3
theorem xi_iaload {a N j : Nat} {i : Int32} {f : Nat → Int32} (hC : xC p s m args meth c D cc nL own) (hdg : decode cc pc = .ok (.iaload, 1)) {pc' : Nat} (hp : pc + 1 = pc') (he : h a = some (.inl (D.2 0, N, .inl f))) (hi : i = nI j) (hj : j < N) (hN : N < 2 ^ 31)
    (k : xV p l e R s m args below meth c D b nL cells slots Q n h pc' lv (.int (f j) :: rest)) : xV p l e R s m args below meth c D b nL cells slots Q n h pc lv (.int i :: .ref a :: rest) := by
  subst hp
  subst hi
  intro H locs ls h1 h2 h3
  refine va_iald hC.1.1 hC.1.2.1 hC.2.1.1 (h1.one he) 0 0 rfl rfl (vp_in_nI hj hN) hdg ?_
  rw [nI_clamp (Nat.lt_trans hj hN)]
  exact k H locs ls h1 h2 h3
theorem xi_aaload {a N j t0 v : Nat} {C : String} {cA : ClassId} {i : Int32} {f : Nat → Option Nat} (hC : xC p s m args meth c D cc nL own) (hdg : decode cc pc = .ok (.aaload, 1)) {pc' : Nat} (hp : pc + 1 = pc') (he : h a = some (.inl (cA, N, .inr (.inr (.inr (.inr f)))))) (ht : (xtys D)[t0]? = some (cA, .object C)) (hi : i = nI j) (hj : j < N) (hN : N < 2 ^ 31) (hv : f j = some v)
    (k : xV p l e R s m args below meth c D b nL cells slots Q n h pc' lv (.ref v :: rest)) : xV p l e R s m args below meth c D b nL cells slots Q n h pc lv (.int i :: .ref a :: rest) := by
  subst hp
  subst hi
  intro H locs ls h1 h2 h3
  refine va_aldq hC.1.1 hC.1.2.1 hC.2.1.1 (h1.one he) 0 t0 rfl ht (vp_in_nI hj hN) hdg ?_
  rw [nI_clamp (Nat.lt_trans hj hN), hv]
  exact k H locs ls h1 h2 h3
theorem xi_iastore {a N j : Nat} {i x : Int32} {f : Nat → Int32} (hC : xC p s m args meth c D cc nL own) (hdg : decode cc pc = .ok (.iastore, 1)) {pc' : Nat} (hp : pc + 1 = pc') (he : h a = some (.inl (D.2 0, N, .inl f))) (hi : i = nI j) (hj : j < N) (hN : N < 2 ^ 31)
    (k : xV p l e R s m args below meth c D b nL cells slots Q n (xup h a (.inl (D.2 0, N, .inl (upd f j x)))) pc' lv rest) : xV p l e R s m args below meth c D b nL cells slots Q n h pc lv (.int x :: .int i :: .ref a :: rest) := by
  subst hp
  subst hi
  intro H locs ls h1 h2 h3
  obtain ⟨hba, hat⟩ := h1.2.2 a _ he
  refine W.iast hC.1.1 hC.1.2.1 hat ((hC.2.1.1.2 0 _ rfl).1 N (fun j => .int (f j))) (fun q => by cases q) (by show ¬ (nI j < 0 ∨ (arrV _ _ _).slots.size ≤ _); rw [arrV_size]; exact vp_in_nI hj hN) rfl rfl hdg fun H1 g z oq => ?_
  refine k H1 _ ls (h1.put hba ?_ z oq) (h2.put z oq hba) h3
  show H1[a]? = some (vp_cell _ _)
  rw [g, nI_clamp (Nat.lt_trans hj hN)]
  rw [vp_cell_i, vp_cell_i, arrV_store]
  congr 2
  funext q
  by_cases hq : q = j
  · subst hq
    simp [updV, upd]
  · simp [updV, upd, hq]
theorem xi_ireturn {n' : Nat} {P : Option Value → XH → Prop} {x : Int32} (hC : xC p s m args meth c D cc nL own) (hdg : decode cc pc = .ok (.ireturn, 1)) (hr : meth.sig.returnType = some .int) (hn : n = n') (hP : P (some (.int x)) h) : xV p l e R s m args below meth c D b nL cells slots (MQ below (xQ D b n' P) args s cells slots (fun q => b ≤ q)) n h pc lv [.int x] := by
  subst hn
  intro H locs ls h1 h2 h3
  have hlocks := hC.2.2
  exact W.iret hC.1.1 hC.1.2.1 hr (fun t ht hW => ⟨⟨_, h, rfl, hP, by rw [ht]; exact h1⟩, h2.F ht⟩) h2.2.2 hdg hlocks
theorem xi_zreturn {n' : Nat} {P : Option Value → XH → Prop} {x : Int32} {ty : FieldType} (hC : xC p s m args meth c D cc nL own) (hdg : decode cc pc = .ok (.ireturn, 1)) (hr : meth.sig.returnType = some ty) (hx : narrow ty (.int x) = .int x) (hn : n = n') (hP : P (some (.int x)) h) : xV p l e R s m args below meth c D b nL cells slots (MQ below (xQ D b n' P) args s cells slots (fun q => b ≤ q)) n h pc lv [.int x] := by
  subst hn
  intro H locs ls h1 h2 h3
  have hlocks := hC.2.2
  exact W.zret hC.1.1 hC.1.2.1 hr hx (fun t ht hW => ⟨⟨_, h, rfl, hP, by rw [ht]; exact h1⟩, h2.F ht⟩) h2.2.2 hdg hlocks
theorem xi_return {n' : Nat} {P : Option Value → XH → Prop} (hC : xC p s m args meth c D cc nL own) (hdg : decode cc pc = .ok (.return_, 1)) (hr : meth.sig.returnType = none) (hn : n = n') (hP : P none h) : xV p l e R s m args below meth c D b nL cells slots (MQ below (xQ D b n' P) args s cells slots (fun q => b ≤ q)) n h pc lv [] := by
  subst hn
  intro H locs ls h1 h2 h3
  have hlocks := hC.2.2
  exact W.vret hC.1.1 hC.1.2.1 hr (fun t ht hW => ⟨⟨_, h, rfl, hP, by rw [ht]; exact h1⟩, h2.F ht⟩) h2.2.2 hdg hlocks
theorem xi_areturn {n' : Nat} {P : Option Value → XH → Prop} {x : Nat} {C : String} (hC : xC p s m args meth c D cc nL own) (hdg : decode cc pc = .ok (.areturn, 1)) (hr : meth.sig.returnType = some (.object C)) (hn : n = n') (hP : P (some (.ref x)) h) : xV p l e R s m args below meth c D b nL cells slots (MQ below (xQ D b n' P) args s cells slots (fun q => b ≤ q)) n h pc lv [.ref x] := by
  subst hn
  intro H locs ls h1 h2 h3
  have hlocks := hC.2.2
  exact W.aret hC.1.1 hC.1.2.1 hr (Or.inl ⟨_, rfl⟩) (Or.inr ⟨_, rfl⟩) (fun t ht hW => ⟨⟨_, h, rfl, hP, by rw [ht]; exact h1⟩, h2.F ht⟩) h2.2.2 hdg hlocks
theorem xwiden {mc ms : Nat} (q1 : cells ≤ mc) (q2 : slots ≤ ms) (k : xV p l e R s m args below meth c D b nL mc ms Q n h pc lv rest) : xV p l e R s m args below meth c D b nL cells slots Q n h pc lv rest := fun H locs ls h1 h2 h3 => W.widen q1 q2 (k H locs ls h1 h2 h3)
end XV
