/-! ===== p29: rows of the law: its constants, its arrays behind the class's cells ===== -/
theorem xw_con_7 : Cond.constant RL 7 4990007 ∈ xtbl := xt_of 330 (by decide +kernel) (by decide +kernel)
theorem xw_con_8 : Cond.constant RL 8 2147483647 ∈ xtbl := xt_of 334 (by decide +kernel) (by decide +kernel)
section XLR
variable {p : Program} {l : Launch} {e : Env} {R : Room} {s : State} {m : MethodId} {args : Array Value} {below : List Frame} {meth : Method} {c : Code} {D : XD} {b nL cells slots : Nat} {Q : State → Prop} {n : Nat} {h : XH} {pc : Nat} {lv : List (Option Value)} {rest : List Value} {cc : ByteArray} {own : String}
theorem xi_ldc {index : Nat} {v : Int32} (hC : xC p s m args meth c D cc nL own) (hdg : decode cc pc = .ok (.ldc index, 2)) {pc' : Nat} (hp : pc + 2 = pc') (hconst : Cond.constant own index v ∈ xtbl)
    (k : xV p l e R s m args below meth c D b nL cells slots Q n h pc' lv (.int v :: rest)) : xV p l e R s m args below meth c D b nL cells slots Q n h pc lv rest := by
  subst hp
  exact fun H locs ls h1 h2 h3 => lv_ldc hC.1.1 hC.1.2.1 hC.1.2.2.2.1 (hC.1.2.2.2.2 _ hconst) hdg (k H locs ls h1 h2 h3)
theorem xi_pop {v : Value} (hC : xC p s m args meth c D cc nL own) (hdg : decode cc pc = .ok (.pop, 1)) {pc' : Nat} (hp : pc + 1 = pc') (hv : v.category = 1)
    (k : xV p l e R s m args below meth c D b nL cells slots Q n h pc' lv rest) : xV p l e R s m args below meth c D b nL cells slots Q n h pc lv (v :: rest) := by
  subst hp
  exact fun H locs ls h1 h2 h3 => lv_pop hC.1.1 hC.1.2.1 hdg hv (k H locs ls h1 h2 h3)
theorem xi_idiv {x y : Int32} (hC : xC p s m args meth c D cc nL own) (hdg : decode cc pc = .ok (.idiv, 1)) {pc' : Nat} (hp : pc + 1 = pc') (hne : ¬ y = 0)
    (k : xV p l e R s m args below meth c D b nL cells slots Q n h pc' lv (.int (x / y) :: rest)) : xV p l e R s m args below meth c D b nL cells slots Q n h pc lv (.int y :: .int x :: rest) := by
  subst hp
  exact fun H locs ls h1 h2 h3 => lv_idiv hC.1.1 hC.1.2.1 hdg hne (k H locs ls h1 h2 h3)
theorem xn_idiv {a a2 : Nat} (hC : xC p s m args meth c D cc nL own) (hdg : decode cc pc = .ok (.idiv, 1)) {pc' : Nat} (hp : pc + 1 = pc') (ha : a < 2 ^ 31) (h0 : 0 < a2) (ha2 : a2 < 2 ^ 31)
    (k : xV p l e R s m args below meth c D b nL cells slots Q n h pc' lv (.int (nI (a / a2)) :: rest)) : xV p l e R s m args below meth c D b nL cells slots Q n h pc lv (.int (nI a2) :: .int (nI a) :: rest) := by
  refine xi_idiv hC hdg hp (nI_ne0 h0 ha2) ?_
  rw [pk_div ha h0 ha2]
  exact k
theorem xn_irem {a a2 : Nat} (hC : xC p s m args meth c D cc nL own) (hdg : decode cc pc = .ok (.irem, 1)) {pc' : Nat} (hp : pc + 1 = pc') (ha : a < 2 ^ 31) (h0 : 0 < a2) (ha2 : a2 < 2 ^ 31)
    (k : xV p l e R s m args below meth c D b nL cells slots Q n h pc' lv (.int (nI (a % a2)) :: rest)) : xV p l e R s m args below meth c D b nL cells slots Q n h pc lv (.int (nI a2) :: .int (nI a) :: rest) := by
  refine xi_irem hC hdg hp (nI_ne0 h0 ha2) ?_
  rw [pk_rem ha h0 ha2]
  exact k
/-- another stack, another name of the next cell -/
theorem xstk {st st' : List Value} (he : st = st') (k : xV p l e R s m args below meth c D b nL cells slots Q n h pc lv st') : xV p l e R s m args below meth c D b nL cells slots Q n h pc lv st := he ▸ k
theorem xnx {n' : Nat} (he : n = n') (k : xV p l e R s m args below meth c D b nL cells slots Q n' h pc lv rest) : xV p l e R s m args below meth c D b nL cells slots Q n h pc lv rest := he ▸ k
theorem xi_sld2 {a L j : Nat} {xs : Nat → Int32} {i : Int32} (hC : xC p s m args meth c D cc nL own) (hdg : decode cc pc = .ok (.iaload, 1)) {pc' : Nat} (hp : pc + 1 = pc') (hX : va_X a L xs s s.heap) (hal : a < b) (has : a < s.heap.size) (hi : i = nI j) (hj : j < L) (hL : L < 2 ^ 31)
    (k : xV p l e R s m args below meth c D b nL cells slots Q n h pc' lv (.int (xs j) :: rest)) : xV p l e R s m args below meth c D b nL cells slots Q n h pc lv (.int i :: .ref a :: rest) := by
  subst hi
  subst hp
  intro H locs ls h1 h2 h3
  refine va_sld (i := nI j) hC.1.1 hC.1.2.1 hX has (Nat.not_le.mpr hal) h2 (vp_in_nI hj hL) hdg ?_
  rw [nI_clamp (by omega)]
  exact k H locs ls h1 h2 h3
theorem xi_slen2 {a L : Nat} {xs : Nat → Int32} (hC : xC p s m args meth c D cc nL own) (hdg : decode cc pc = .ok (.arraylength, 1)) {pc' : Nat} (hp : pc + 1 = pc') (hX : va_X a L xs s s.heap) (hal : a < b) (has : a < s.heap.size)
    (k : xV p l e R s m args below meth c D b nL cells slots Q n h pc' lv (.int (nI L) :: rest)) : xV p l e R s m args below meth c D b nL cells slots Q n h pc lv (.ref a :: rest) := by
  subst hp
  intro H locs ls h1 h2 h3
  exact va_slen hC.1.1 hC.1.2.1 hX has (Nat.not_le.mpr hal) h2 hdg (k H locs ls h1 h2 h3)
end XLR
theorem xsh_L {D : XD} {b o N : Nat} {f : Nat → Int32} (ho : 585 ≤ o) (hN : N = 8 ∨ N = 36) (hf : f 4096 = nI N) : xsh D b o f = some (.inl (D.2 0, N, .inl f)) := by
  unfold xsh xlaw
  rw [if_pos ho]
  rcases hN with rfl | rfl
  · rw [if_pos hf]
  · rw [if_neg (by rw [hf]; decide), if_pos hf]
/-- a new array's numbers, with its length at place 4096 -/
def zL (N : Nat) : Nat → Int32 := fun j => if j = 4096 then nI N else 0
theorem zL_len {N : Nat} : zL N 4096 = nI N := if_pos rfl
theorem zL_0 {N j : Nat} (h : j ≠ 4096) : zL N j = 0 := if_neg h
theorem zL_cell {cA : ClassId} {N : Nat} (hN : N ≤ 36) : vp_cell cA (N, .inl (zL N)) = arrV cA N (fun _ => defaultValue .int) := by
  rw [vp_cell_i]
  unfold arrV
  congr 2
  funext j
  have := j.isLt
  show Value.int (zL N j.val) = _
  rw [zL_0 (by omega)]
  rfl
section XLA
variable {p : Program} {l : Launch} {e : Env} {R : Room} {s : State} {m : MethodId} {args : Array Value} {below : List Frame} {meth : Method} {c : Code} {D : XD} {b nL cells slots : Nat} {Q : State → Prop} {n : Nat} {σ : XM} {pc : Nat} {lv : List (Option Value)} {rest : List Value} {cc : ByteArray} {own : String}
theorem xl_L {o N j : Nat} {i : Int32} (hC : xC p s m args meth c D cc nL own) (hdg : decode cc pc = .ok (.iaload, 1)) {pc' : Nat} (hp : pc + 1 = pc') (ho : 585 ≤ o) (hN : N = 8 ∨ N = 36) (hl : σ o 4096 = nI N) (hi : i = nI j) (hj : j < N) (k : xV p l e R s m args below meth c D b nL cells slots Q n (xH D b σ) pc' lv (.int (σ o j) :: rest)) : xV p l e R s m args below meth c D b nL cells slots Q n (xH D b σ) pc lv (.int i :: .ref (b + o) :: rest) :=
  xi_iaload hC hdg hp (xH_at.trans (xsh_L ho hN hl)) hi hj (by omega) k
theorem xs_L {o N j : Nat} {i x : Int32} (hC : xC p s m args meth c D cc nL own) (hdg : decode cc pc = .ok (.iastore, 1)) {pc' : Nat} (hp : pc + 1 = pc') (ho : 585 ≤ o) (hN : N = 8 ∨ N = 36) (hl : σ o 4096 = nI N) (hi : i = nI j) (hj : j < N) (k : xV p l e R s m args below meth c D b nL cells slots Q n (xH D b (sw σ o j x)) pc' lv rest) : xV p l e R s m args below meth c D b nL cells slots Q n (xH D b σ) pc lv (.int x :: .int i :: .ref (b + o) :: rest) := by
  refine xi_iastore hC hdg hp (xH_at.trans (xsh_L ho hN hl)) hi hj (by omega) ?_
  rw [xH_up (g := upd (σ o) j x) (xsh_L ho hN (by rw [upd_n (by omega)]; exact hl))]
  exact k
theorem xn_L {k0 N : Nat} {i : Int32} (hC : xC p s m args meth c D cc nL own) (hdg : decode cc pc = .ok (.newarray .int, 2)) {pc' : Nat} (hp : pc + 2 = pc') (hn : n = b + k0) (ho : 585 ≤ k0) (hN : N = 8 ∨ N = 36) (hi : i = nI N) (hf : cells + 1 ≤ R.cells ∧ slots + N ≤ R.slots) (k : xV p l e R s m args below meth c D b nL (cells + 1) (slots + N) Q (b + (k0 + 1)) (xH D b (su σ k0 (zL N))) pc' lv (.ref (b + k0) :: rest)) : xV p l e R s m args below meth c D b nL cells slots Q n (xH D b σ) pc lv (.int i :: rest) := by
  subst hn
  have h36 : N ≤ 36 := by omega
  refine xi_newarray (N := N) (t0 := 0) (cA := D.2 0) (a0 := .inl (zL N)) hC hdg hp rfl xw_ac_int rfl (fun _ _ => rfl) (zL_cell h36) hi (by omega) (by show N * 4 ≤ _; omega) hf ?_
  rw [xH_up (g := zL N) (xsh_L ho hN zL_len)]
  exact k
end XLA
/-! ===== p29: cell and low ===== -/
/-- a start at which the script lies below b -/
def xPx (D : XD) (b n : Nat) (h : XH) (a L : Nat) (xs : Nat → Int32) : State → Prop := fun U => xPre D b n h U ∧ va_X a L xs U U.heap ∧ a < b
theorem xPx.blind {D : XD} {b n a L : Nat} {h : XH} {xs : Nat → Int32} {av : List Value} : FrameBlind (va_Pc av (xPx D b n h a L xs)) := fun v U g mk q =>
  ⟨q.1, (xPre.blind (av := av) v U g mk ⟨q.1, q.2.1⟩).2, va_X.moved (u := U) (U := U.calling g mk v) (Vm.Alike.refl U.vm) q.2.2.1, q.2.2.2⟩
set_option maxRecDepth 100000 in
theorem c_L_cell (l : Launch) (D : XD) (b n : Nat) {h : XH} {a L k : Nat} {xs : Nat → Int32} (hL : L ≤ 260) (hk : k < 2 ^ 31) : Met l yL_cell (Cond.code yL_cell cL_cell 2 (some .int) :: xtbl) (xR 0 0 0 0) (va_Pc [.ref a, .int (nI k)] (xPx D b n h a L xs)) (xQ D b n (fun v h' => (∃ r : Int32, v = some (.int r)) ∧ h' = h)) 0 0 (fun q => b ≤ q) := by
  refine Met.ofW (cc := cL_cell) (maxL := 2) (ret := some .int) (by decide +kernel) rfl ?_
  intro p e s m args below meth c s₁ B hml hv
  obtain ⟨hav, ⟨hP, hK⟩, hX, hab⟩ := hv
  have hts := atoms_spec (ws := Cond.code yL_cell cL_cell 2 (some .int) :: xtbl) B.pre
  have hown : s.vm.findClass RL = some m.cls := findClass_of_methodNamed B.named
  obtain ⟨ls, hE, hLs⟩ := xL.entry (av := [.ref a, .int (nI k)]) (nL := 2) (lv := [some (.ref a), some (.int (nI k))]) (List.forall_mem_cons.mpr ⟨rfl, List.forall_mem_cons.mpr ⟨rfl, fun _ h => absurd h List.not_mem_nil⟩⟩) (Nat.le_of_ble_eq_true rfl) rfl
  rw [hav, hE m]
  rw [← hav]
  have hC : xC p s m args meth c D cL_cell 2 RL := ⟨⟨B.exec, B.bytes, hml, hown, fun w hw => hts w (List.mem_cons_of_mem _ hw)⟩, hK, B.notSynchronized⟩
  have has : a < s.heap.size := by rw [hP.1]; exact Nat.lt_of_lt_of_le hab hP.2.1
  have key : xV p l e (xR 0 0 0 0) s m args below meth c D b 2 0 0 (MQ below (xQ D b n (fun v h' => (∃ r : Int32, v = some (.int r)) ∧ h' = h)) args s 0 0 (fun q => b ≤ q)) n h 0 [some (.ref a), some (.int (nI k))] [] := by
    refine xi_iload_n hC dL_cell_0 (pc' := 1) rfl rfl rfl ?_
    refine xi_aload_n hC dL_cell_1 (pc' := 2) rfl rfl rfl ?_
    refine xi_slen2 hC dL_cell_2 (pc' := 3) rfl hX hab has ?_
    refine xn_icmpge (tgt := 12) hC dL_cell_3 (pc' := 6) rfl (by decide) (by omega) (by omega) (fun z => ?_) (fun z => ?_)
    · refine xi_ldc hC dL_cell_12 (pc' := 14) rfl xw_con_7 ?_
      refine xi_iload_n hC dL_cell_14 (pc' := 15) rfl rfl rfl ?_
      refine xi_imul hC dL_cell_15 (pc' := 16) rfl ?_
      refine xi_sipush (v := nI 971) hC dL_cell_16 (pc' := 19) rfl (by decide +kernel) ?_
      refine xi_iadd hC dL_cell_19 (pc' := 20) rfl ?_
      exact xi_ireturn hC dL_cell_20 B.returns rfl ⟨⟨_, rfl⟩, rfl⟩
    · refine xi_aload_n hC dL_cell_6 (pc' := 7) rfl rfl rfl ?_
      refine xi_iload_n hC dL_cell_7 (pc' := 8) rfl rfl rfl ?_
      refine xi_sld2 hC dL_cell_8 (pc' := 9) rfl hX hab has rfl z (by omega) ?_
      refine xi_goto (tgt := 20) hC dL_cell_9 (by decide) ?_
      exact xi_ireturn hC dL_cell_20 B.returns rfl ⟨⟨_, rfl⟩, rfl⟩
  exact key s.heap [] ls hP va_S.rf hLs
section XLC
variable {p : Program} {l : Launch} {e : Env} {R : Room} {s : State} {m : MethodId} {args : Array Value} {below : List Frame} {meth : Method} {c : Code} {D : XD} {b nL cells slots : Nat} {Q : State → Prop} {n : Nat} {h : XH} {pc : Nat} {lv : List (Option Value)} {rest : List Value} {cc : ByteArray}
/-- a call of cell: some number -/
theorem xi_cell {a L k : Nat} {xs : Nat → Int32} (hC : xC p s m args meth c D cc nL RL) (hX : va_X a L xs s s.heap) (hab : a < b) (has : a < s.heap.size) (hL : L ≤ 260) (hk : k < 2 ^ 31) (hdg : decode cc pc = .ok (.invokestatic 112, 3)) {pc' : Nat} (hp : pc + 3 = pc') (hR : 1 ≤ R.frames ∧ 21 ≤ R.locals) (hcat : (rest.map fun v => v.category).sum ≤ 8) (hf : cells ≤ R.cells ∧ slots ≤ R.slots)
    (kk : ∀ r : Int32, xV p l e R s m args below meth c D b nL cells slots Q n h pc' lv (.int r :: rest)) : xV p l e R s m args below meth c D b nL cells slots Q n h pc lv (.int (nI k) :: .ref a :: rest) := by
  subst hp
  intro H locs ls h1 h2 h3
  have hts := hC.1.2.2.2.2
  have hpre : ∀ U : State, U.heap = H → s.WarmedH U.vm → va_Pc [.ref a, .int (nI k)] (xPx D b n h a L xs) [Value.ref a, .int (nI k)].toArray U := fun U hU hW => by
    refine ⟨rfl, (xpre (av := [.ref a, .int (nI k)]) hC h1 U hU hW).2, ?_, hab⟩
    rw [hU]
    exact va_X.moved hW.alike (hX.kept (h2.2.1 a has (Nat.not_le.mpr hab)))
  refine xrun (mc := 0) (ms := 0) (va_runS (As := [.ref a, .int (nI k)]) (rest := rest) (own := RL) (index := 112) (bytes := cL_cell) (maxL := 2) (ret := some .int) (n := 2) (nL := nL) (Ts := xtbl) hC.1 (c_L_cell l D b n (h := h) (a := a) (L := L) (k := k) (xs := xs) hL hk) ⟨callB_of 2 hts (xgood xw_c_L_cell) rfl rfl rfl (hts _ xw_ini_L) (hts _ xw_m_L_112) xd_L_cell ⟨by show 0 + 1 ≤ _; omega, by show 8 + (2 + 11) + 0 ≤ _; omega⟩, hts _ xw_sta_L_cell⟩ ⟨xPx.blind, hpre⟩ rfl rfl h3.1 rfl (lv_room (m := m) (pc := pc) (ls := ls) (rest := .int (nI k) :: .ref a :: rest) hcat) hdg hf) h2 ?_
  rintro v h' H1 locs1 ⟨⟨r, rfl⟩, rfl⟩ g1 g2
  exact kk r H1 locs1 ls g1 g2 h3
end XLC
set_option maxRecDepth 100000 in
theorem c_L_low (l : Launch) (D : XD) (b n : Nat) {h : XH} {x : Int32} {k : Nat} (h0 : 0 < k) (hk : k < 2 ^ 31) : xM l yL_low cL_low 2 (some .int) 0 0 0 0 D b n [.int x, .int (nI k)] h n (fun v h' => (∃ j, j < k ∧ v = some (.int (nI j))) ∧ h' = h) := by
  refine xM.of (lv := [some (.int x), some (.int (nI k))]) (by decide +kernel) rfl (List.forall_mem_cons.mpr ⟨rfl, List.forall_mem_cons.mpr ⟨rfl, fun _ h => absurd h List.not_mem_nil⟩⟩) (Nat.le_of_ble_eq_true rfl) rfl ?_
  intro p e s m args below meth c hC hr hnm
  refine xi_iload_n hC dL_low_0 (pc' := 1) rfl rfl rfl ?_
  refine xi_ldc hC dL_low_1 (pc' := 3) rfl xw_con_8 ?_
  refine xi_iand hC dL_low_3 (pc' := 4) rfl ?_
  obtain ⟨j, hj, ej⟩ := pk_andE x (m := 2147483647) 31 (by decide)
  refine xtop ej ?_
  refine xi_iload_n hC dL_low_4 (pc' := 5) rfl rfl rfl ?_
  refine xn_irem hC dL_low_5 (pc' := 6) rfl hj h0 hk ?_
  exact xi_ireturn hC dL_low_6 hr rfl ⟨⟨_, Nat.mod_lt _ h0, rfl⟩, rfl⟩
