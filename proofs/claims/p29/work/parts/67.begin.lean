/-! THE CLAIM OUT OF ONE WALK OF THE LAW'S BODY. Your part is whole_start (and what it stands on); all else here is the same for every law, but numbers. -/
def R_law : String := "ForkedStoreLaw"
def lw_P (b : Addr) (xs : List Int32) (args : Array Value) (s : State) : Prop := args = #[.ref b] ∧ s.IntsAt b xs ∧ xs.length ≤ 260 ∧ (Jvm.Cond.and given_1 narrow_1).before args s = true
def lw_Q (_ : Array Value) (s : State) (o : Outcome) (t : State) : Prop := o = .returned (some (.int 1)) ∧ Framed s o t [] 696526 7012671
def lw_Z (below : List Frame) (a : Array Value) (s : State) : State → Prop := fun t => ∃ o, t.status = .running ∧ Ended t below o ∧ lw_Q a s o t
/-- the law's own end, with 1 on the stack, nothing written that was there before, its room as the claim has it -/
theorem lw_ret {p : Program} {l : Launch} {e : Env} {s : State} {m : MethodId} {below : List Frame} {meth : Method} {c : Code} {b : Nat} (hx : p.tables.exec = Jvm.exec) (hb : c.code = code) (hr : meth.sig.returnType = ret) (hlocks : meth.locks = false) {pc : Nat} {H : Heap} {ls : Array Slot} (hdg : decode code pc = .ok (.ireturn, 1)) : W p l e room_1 s m #[Value.ref b] below meth c H [] 696526 7012671 (lw_Z below #[Value.ref b] s) (F0 m pc ls [.int 1]) := by
  intro T hT X
  obtain ⟨fs, hret, hrun, hended, hW, hframe⟩ := X.leave (v := some (.int 1)) (hlocks := hlocks) (fun h => by rw [hr] at h; cases h)
  have hmeth' : T.vm.method? m = some meth := X.method'
  refine ⟨T.setFrames fs, ?_, .returned (some (.int 1)), hrun, hended, rfl, ⟨_, rfl⟩, hW, hframe⟩
  jvm_step X.here [X.here.top, hx, hb, hdg, hmeth', hr, ret, narrow_b1]
  (try refine ⟨rfl, ?_⟩); (try refine ⟨rfl, ?_⟩)
  first | (intro acts; rw [hret _ acts rfl rfl rfl]) | rw [hret _ _ rfl rfl rfl]
  exact Steps.refl _
/-- what holds at the law's entry: the machine, the code, the tables' words (any of lw_tbl by 'hts w (by decide +kernel)'), the script of L ints xs at the cell b, what the Statement gives of the start (any of its parts by flat_of_before) -/
def lw_At (p : Program) (s : State) (m : MethodId) (meth : Method) (c : Code) (b L : Nat) (xs : Nat → Int32) : Prop :=
  p.tables.exec = Jvm.exec ∧ c.code = code ∧ meth.sig.returnType = ret ∧ c.maxLocals = 16 ∧ s.vm.findClass R_law = some m.cls ∧ (∀ w ∈ lw_tbl, w.before #[Value.ref b] s = true) ∧ va_X b L xs s s.heap ∧ b < s.heap.size ∧ meth.locks = false ∧ (Jvm.Cond.and given_1 narrow_1).before #[Value.ref b] s = true
/-! ===== p29: the store and its words at the start ===== -/
def Z0 : XM := fun _ _ => 0
def C0 : XM := sw (sw Z0 0 3 (nI 3)) 0 4 (nI 1)
theorem C0_z {o : Nat} (h0 : 0 < o) (k : Nat) : C0 o k = nI 0 := by
  rw [nI_0]
  unfold C0
  rw [sw_n (by omega), sw_n (by omega)]
  rfl
theorem C0_o {o : Nat} (h0 : o ≠ 0) : C0 o = fun _ => 0 := by
  unfold C0
  rw [sw_n h0, sw_n h0]
  rfl
theorem hA_eq {D : XD} {b : Nat} : hf D b (xup (fun _ => none) (b + 0) (.inr (7, [.ref (b + 1), .ref (b + 2), .ref (b + 3), .int (nI 3), .int (nI 1)]))) 1 584 = xH D b C0 := by
  funext q
  rcases Nat.lt_or_ge q b with h1 | h1
  · rw [hf_n (by omega), xup_n (by omega)]
    show none = if b ≤ q then _ else none
    rw [if_neg (by omega)]
  · obtain ⟨k, rfl⟩ : ∃ k, q = b + k := ⟨q - b, by omega⟩
    show _ = if b ≤ b + k then xsh D b (b + k - b) (C0 (b + k - b)) else none
    rw [if_pos (by omega), Nat.add_sub_cancel_left]
    by_cases h4 : k = 0
    · subst h4
      rw [hf_n (by omega), xup_s, xsh_7 kd_0]
      rfl
    · rw [C0_o h4]
      by_cases h5 : k < 585
      · rw [hf_i (by omega) (by omega)]
      · unfold hf
        rw [if_neg (by omega), xup_n (by omega)]
        unfold xsh xlaw
        rw [if_pos (by omega), if_neg (by decide), if_neg (by decide)]
theorem RR_begin {T : XM} (hb : mBegin Z0 3 T) : RR C0 T 3 1 := by
  obtain ⟨p0, p1, p2, p3, p4, p5, p6, p7, p8⟩ := hb
  refine ⟨rfl, rfl, fun i hi => ?_, fun v hv => ?_, ?_⟩
  · obtain ⟨a1, a2, a3, a4, a5, a6, a7, a8, a9, a10⟩ := p7 i hi
    have zi : ∀ o, oMem i ≤ o → o < oMem i + 20 → ∀ k, C0 o k = nI 0 := fun o h1 h2 k => C0_z (by simp only [oMem] at h1; omega) k
    refine ⟨⟨(zi _ (Nat.le_refl _) (by omega) 4).trans a1.symm, (zi _ (Nat.le_refl _) (by omega) 5).trans a2.symm, (zi _ (Nat.le_refl _) (by omega) 8).trans a5.symm, (zi _ (Nat.le_refl _) (by omega) 9).trans a6.symm, (zi _ (Nat.le_refl _) (by omega) 10).trans a7.symm, (zi _ (Nat.le_refl _) (by omega) 6).trans a8.symm, fun q => absurd (a8.trans nI_0) q⟩, fun p hp => ?_, fun p hp => ?_, ⟨?_, fun q => absurd (a3.trans nI_0) q⟩, ⟨?_, fun z hz e q hq => ?_⟩⟩
    · exact (zi _ (by simp only [oNum, oKno]; omega) (by simp only [oNum, oKno]; omega) p).trans ((p6 _ (by omega)).2).symm
    · exact (zi _ (by simp only [oNum, oSig]; omega) (by simp only [oNum, oSig]; omega) p).trans ((p6 _ (by omega)).1).symm
    · exact (zi _ (by simp only [oPro]; omega) (by simp only [oPro]; omega) 2).trans a3.symm
    · exact (zi _ (by simp only [oBox]; omega) (by simp only [oBox]; omega) 1).trans a10.symm
    · rw [a10] at e
      obtain rfl := nI_inj (by omega) (by omega) e
      exact absurd hq (Nat.not_lt_zero _)
  · have ev : v = 0 := by omega
    rw [ev]
    have zv : ∀ o, oVw 0 ≤ o → o < oVw 0 + 80 → ∀ k, C0 o k = nI 0 := fun o h1 h2 k => C0_z (by simp only [oVw] at h1; omega) k
    refine ⟨fun i hi => ⟨fun p hp => ?_, ?_⟩, (zv _ (Nat.le_refl _) (by omega) 2).trans (p5 0 (by decide)).symm, 0, by decide, zv _ (Nat.le_refl _) (by omega) 3, fun k hk e q hq => ?_⟩
    · exact (zv _ (by simp only [oNum, oVec, oVs, oEnt]; omega) (by simp only [oNum, oVec, oVs, oEnt]; omega) p).trans (p4 _ (by omega)).symm
    · exact (zv _ (by simp only [oCon, oEnt]; omega) (by simp only [oCon, oEnt]; omega) i).trans (p4 _ (by omega)).symm
    · rw [p5 0 (by decide)] at e
      obtain rfl := nI_inj (by omega) (by omega) e
      exact absurd hq (Nat.not_lt_zero _)
  · have e23 : T oMod 23 = nI 0 := (p3 23 (by decide) (by decide) (by decide)).trans nI_0.symm
    refine ⟨(C0_z (by decide) 1).trans e23.symm, fun z hz e j hj => ?_⟩
    rw [e23] at e
    obtain rfl := nI_inj (by omega) (by omega) e
    exact absurd hj (Nat.not_lt_zero _)
theorem vle_z {n : Nat} {f g : Nat → Int32} (hf : ∀ p, p < n → f p = nI 0) (hg : ∀ p, p < n → g p = nI 0) : vle n f g := fun k hk => by rw [hf k hk, hg k hk]; exact Int32.le_refl _
theorem rel_z {n : Nat} {f g : Nat → Int32} (hf : ∀ p, p < n → f p = nI 0) (hg : ∀ p, p < n → g p = nI 0) : rel n f g ≠ 2 := fun q => (rel_2.mp q).1 (vle_z hf hg)
theorem begin_unaware {S T : XM} {z : Nat} (h2 : 2 ≤ z) (h5 : z ≤ 5) (hB : mBegin S z T) : bitM (unQ T z) z = (nI 1 <<< (nI z &&& 31)) - nI 1 := by
  obtain ⟨-, -, -, -, p4, -, p6, p7, -⟩ := hB
  have zK : ∀ i, i < 5 → ∀ p, p < z → rK T i p = nI 0 := fun i hi p hp => (p6 (5 * i + p) (by omega)).2
  have zG : ∀ i, i < 5 → ∀ p, p < z → rG T i p = nI 0 := fun i hi p hp => (p6 (5 * i + p) (by omega)).1
  have zV : ∀ i, i < 5 → ∀ p, p < z → rV T 0 i p = nI 0 := fun i hi p hp => p4 (30 * 0 + 5 * i + p) (by omega)
  refine bitM_all h5 (fun i hi => ⟨(p7 i (by omega)).2.1.trans nI_0, fun v hv e => ?_, fun j hj => rel_z (zK i (by omega)) (zK j (by omega))⟩)
  have e0 : v = 0 := nI_inj (by omega) (by omega) (e.symm.trans (p7 i (by omega)).1)
  subst e0
  have hb := bst_lt (S := T) (u := z) (v := 0) (by omega)
  exact al_0 ⟨vle_z (zV i (by omega)) (zG i (by omega)), vle_z (zG i (by omega)) (zV i (by omega))⟩ (fun ⟨a, c, q1, q2, q3⟩ => rel_z (zV a (by omega)) (zV c (by omega)) q3) (vle_z (zK i (by omega)) (zV _ (by omega)))
theorem xt_in {w : Cond} (h : w ∈ xtbl) : w ∈ lw_tbl := (List.mem_filter.mp h).1
theorem xar_p {s : State} {A : Array Value} {ty : FieldType} (h : (Cond.arrayClass ty).before A s = true) (hra : ∀ cA, va_RA s cA ty = (s.vm.findClass ("[" ++ ty.toString) = some cA)) : ∃ cA : ClassId, ArrOfT s cA ty ∧ va_RA s cA ty := by
  obtain ⟨c, k, comp, h1, h2, h3⟩ := Cond.arrayClass_spec h
  exact ⟨c, fun n z => ⟨(fun k h => by cases h), k, h2, comp, h3⟩, by rw [hra]; exact h1⟩
theorem xar_q {s : State} {A : Array Value} {C : String} (h : (Cond.arrayOver (.object C)).before A s = true) : ∃ cA : ClassId, ArrOfT s cA (.object C) ∧ va_RA s cA (.object C) := by
  obtain ⟨comp, c, k, h1, h2, h3, h4, h5⟩ := Cond.arrayOver_spec h
  exact ⟨c, fun n z => ⟨(fun k h => by cases h), k, h3, comp, h4⟩, k, comp, h3, h4, h1, h5⟩
theorem xK_start {s : State} {A : Array Value} (hts : ∀ w ∈ lw_tbl, w.before A s = true) : ∃ D : XD, xK D s := by
  obtain ⟨c0, i0, h0⟩ := u_known (C := RX0) (T := TX0) (N := 2) (n := 2) hts (fun w q => xt_in (xw_lay_X0 w q)) (hts _ (xt_in xw_new_X0))
  obtain ⟨c1, i1, h1⟩ := u_known (C := RX1) (T := TX1) (N := 2) (n := 2) hts (fun w q => xt_in (xw_lay_X1 w q)) (hts _ (xt_in xw_new_X1))
  obtain ⟨c2, i2, h2⟩ := u_known (C := RX2) (T := TX2) (N := 11) (n := 11) hts (fun w q => xt_in (xw_lay_X2 w q)) (hts _ (xt_in xw_new_X2))
  obtain ⟨c3, i3, h3⟩ := u_known (C := RX3) (T := TX3) (N := 4) (n := 4) hts (fun w q => xt_in (xw_lay_X3 w q)) (hts _ (xt_in xw_new_X3))
  obtain ⟨c4, i4, h4⟩ := u_known (C := RX4) (T := TX4) (N := 2) (n := 2) hts (fun w q => xt_in (xw_lay_X4 w q)) (hts _ (xt_in xw_new_X4))
  obtain ⟨c5, i5, h5⟩ := u_known (C := RX5) (T := TX5) (N := 1) (n := 1) hts (fun w q => xt_in (xw_lay_X5 w q)) (hts _ (xt_in xw_new_X5))
  obtain ⟨c6, i6, h6⟩ := u_known (C := RX6) (T := TX6) (N := 4) (n := 4) hts (fun w q => xt_in (xw_lay_X6 w q)) (hts _ (xt_in xw_new_X6))
  obtain ⟨c7, i7, h7⟩ := u_known (C := RX7) (T := TX7) (N := 5) (n := 5) hts (fun w q => xt_in (xw_lay_X7 w q)) (hts _ (xt_in xw_new_X7))
  obtain ⟨a0, g0⟩ := xar_p (hts _ (xt_in xw_ac_int)) (fun _ => rfl)
  obtain ⟨a3, g3⟩ := xar_q (hts _ xw_ao_X2)
  obtain ⟨a4, g4⟩ := xar_q (hts _ xw_ao_X6)
  obtain ⟨a5, g5⟩ := xar_q (hts _ xw_ao_X1)
  obtain ⟨a6, g6⟩ := xar_q (hts _ xw_ao_X5)
  refine ⟨((fun k => match k with | 0 => c0 | 1 => c1 | 2 => c2 | 3 => c3 | 4 => c4 | 5 => c5 | 6 => c6 | _ => c7, fun k => match k with | 0 => i0 | 1 => i1 | 2 => i2 | 3 => i3 | 4 => i4 | 5 => i5 | 6 => i6 | _ => i7), fun k => match k with | 0 => a0 | 1 => a0 | 2 => a0 | 3 => a3 | 4 => a4 | 5 => a5 | _ => a6), ⟨fun k q hq => ?_, fun k q hq => ?_⟩, xNest.start hts⟩
  · match k, hq with
    | 0, hq => cases hq; exact h0
    | 1, hq => cases hq; exact h1
    | 2, hq => cases hq; exact h2
    | 3, hq => cases hq; exact h3
    | 4, hq => cases hq; exact h4
    | 5, hq => cases hq; exact h5
    | 6, hq => cases hq; exact h6
    | 7, hq => cases hq; exact h7
    | k + 8, hq => simp [vwCl] at hq
  · match k, hq with
    | 0, hq => cases hq; exact g0
    | 1, hq => cases hq; exact g0
    | 2, hq => cases hq; exact g0
    | 3, hq => cases hq; exact g3
    | 4, hq => cases hq; exact g4
    | 5, hq => cases hq; exact g5
    | 6, hq => cases hq; exact g6
    | k + 7, hq => simp [xtys] at hq

