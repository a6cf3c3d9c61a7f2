
/-! ===== the law: both memories at the start ===== -/
theorem C0_z {T : XM} {o : Nat} (h : o < 585) (h0 : 0 < o) (k : Nat) : jn C0 T o k = nI 0 := by
  rw [jn_lo h, nI_0]
  unfold C0
  rw [sw_n (by omega), sw_n (by omega)]
  rfl
theorem RR_begin {T : XM} (hb : mBegin Z0 3 T) : RR (jn C0 T) T 3 1 := by
  obtain ⟨p0, p1, p2, p3, p4, p5, p6, p7, p8⟩ := hb
  refine ⟨by rw [jn_lo (by decide)]; rfl, by rw [jn_lo (by decide)]; rfl, fun i hi => ?_, fun v hv => ?_, ?_⟩
  · obtain ⟨a1, a2, a3, a4, a5, a6, a7, a8, a9, a10⟩ := p7 i hi
    have zi : ∀ o, oMem i ≤ o → o < oMem i + 20 → ∀ k, jn C0 T o k = nI 0 := fun o h1 h2 k => C0_z (by simp only [oMem] at h2; omega) (by simp only [oMem] at h1; omega) k
    refine ⟨⟨(zi _ (Nat.le_refl _) (by omega) 4).trans a1.symm, (zi _ (Nat.le_refl _) (by omega) 5).trans a2.symm, (zi _ (Nat.le_refl _) (by omega) 8).trans a5.symm, (zi _ (Nat.le_refl _) (by omega) 9).trans a6.symm, (zi _ (Nat.le_refl _) (by omega) 10).trans a7.symm, (zi _ (Nat.le_refl _) (by omega) 6).trans a8.symm, fun q => absurd (a8.trans nI_0) q⟩, fun p hp => ?_, fun p hp => ?_, ⟨?_, fun q => absurd (a3.trans nI_0) q⟩, ⟨?_, fun z hz e q hq => ?_⟩⟩
    · exact (zi _ (by simp only [oNum, oKno]; omega) (by simp only [oNum, oKno]; omega) p).trans ((p6 _ (by omega)).2).symm
    · exact (zi _ (by simp only [oNum, oSig]; omega) (by simp only [oNum, oSig]; omega) p).trans ((p6 _ (by omega)).1).symm
    · exact (zi _ (by simp only [oPro]; omega) (by simp only [oPro]; omega) 2).trans a3.symm
    · exact (zi _ (by simp only [oBox]; omega) (by simp only [oBox]; omega) 1).trans a10.symm
    · rw [a10] at e
      obtain rfl := nI_inj (by omega) (by omega) e
      exact absurd hq (Nat.not_lt_zero _)
  · have ev : v = 0 := by omega
    rw [ev]
    have zv : ∀ o, oVw 0 ≤ o → o < oVw 0 + 80 → ∀ k, jn C0 T o k = nI 0 := fun o h1 h2 k => C0_z (by simp only [oVw] at h2; omega) (by simp only [oVw] at h1; omega) k
    refine ⟨fun i hi => ⟨fun p hp => ?_, ?_⟩, (zv _ (Nat.le_refl _) (by omega) 2).trans (p5 0 (by decide)).symm, 0, by decide, zv _ (Nat.le_refl _) (by omega) 3, fun k hk e q hq => ?_⟩
    · exact (zv _ (by simp only [oNum, oVec, oVs, oEnt]; omega) (by simp only [oNum, oVec, oVs, oEnt]; omega) p).trans (p4 _ (by omega)).symm
    · exact (zv _ (by simp only [oCon, oEnt]; omega) (by simp only [oCon, oEnt]; omega) i).trans (p4 _ (by omega)).symm
    · rw [p5 0 (by decide)] at e
      obtain rfl := nI_inj (by omega) (by omega) e
      exact absurd hq (Nat.not_lt_zero _)
  · have e23 : T oMod 23 = nI 0 := (p3 23 (by decide) (by decide) (by decide)).trans nI_0.symm
    refine ⟨(C0_z (by decide) (by decide) 1).trans e23.symm, fun z hz e j hj => ?_⟩
    rw [e23] at e
    obtain rfl := nI_inj (by omega) (by omega) e
    exact absurd hj (Nat.not_lt_zero _)
/-! ===== the law: what the tables say of the classes at the start ===== -/
theorem xt_in {w : Cond} (h : w ∈ xtbl) : w ∈ lw_tbl := (List.mem_filter.mp h).1
theorem xar_p {s : State} {A : Array Value} {ty : FieldType} (h : (Cond.arrayClass ty).before A s = true) (hra : ∀ cA, va_RA s cA ty = (s.vm.findClass ("[" ++ ty.toString) = some cA)) : ∃ cA : ClassId, ArrOfT s cA ty ∧ va_RA s cA ty := by
  obtain ⟨c, k, comp, h1, h2, h3⟩ := Cond.arrayClass_spec h
  exact ⟨c, fun n z => ⟨(fun k h => by cases h), k, h2, comp, h3⟩, by rw [hra]; exact h1⟩
theorem xar_q {s : State} {A : Array Value} {C : String} (h : (Cond.arrayOver (.object C)).before A s = true) : ∃ cA : ClassId, ArrOfT s cA (.object C) ∧ va_RA s cA (.object C) := by
  obtain ⟨comp, c, k, h1, h2, h3, h4, h5⟩ := Cond.arrayOver_spec h
  exact ⟨c, fun n z => ⟨(fun k h => by cases h), k, h3, comp, h4⟩, k, comp, h3, h4, h1, h5⟩
theorem xK_start {s : State} {A : Array Value} (hts : ∀ w ∈ lw_tbl, w.before A s = true) : ∃ D : XD, xK D s := by
  obtain ⟨c0, i0, h0⟩ := u_known (C := RX0) (T := TX0) (N := 2) (n := 2) hts (fun w q => xt_in (xw_lay_X0 w q)) (hts _ (xt_in xw_new_X0))
  obtain ⟨c1, i1, h1⟩ := u_known (C := RX1) (T := TX1) (N := 2) (n := 2) hts (fun w q => xt_in (xw_lay_X1 w q)) (hts _ (xt_in xw_new_X1))
  obtain ⟨c2, i2, h2⟩ := u_known (C := RX2) (T := TX2) (N := 11) (n := 11) hts (fun w q => xt_in (xw_lay_X2 w q)) (hts _ (xt_in xw_new_X2))
  obtain ⟨c3, i3, h3⟩ := u_known (C := RX3) (T := TX3) (N := 4) (n := 4) hts (fun w q => xt_in (xw_lay_X3 w q)) (hts _ (xt_in xw_new_X3))
  obtain ⟨c4, i4, h4⟩ := u_known (C := RX4) (T := TX4) (N := 2) (n := 2) hts (fun w q => xt_in (xw_lay_X4 w q)) (hts _ (xt_in xw_new_X4))
  obtain ⟨c5, i5, h5⟩ := u_known (C := RX5) (T := TX5) (N := 1) (n := 1) hts (fun w q => xt_in (xw_lay_X5 w q)) (hts _ (xt_in xw_new_X5))
  obtain ⟨c6, i6, h6⟩ := u_known (C := RX6) (T := TX6) (N := 4) (n := 4) hts (fun w q => xt_in (xw_lay_X6 w q)) (hts _ (xt_in xw_new_X6))
  obtain ⟨c7, i7, h7⟩ := u_known (C := RX7) (T := TX7) (N := 5) (n := 5) hts (fun w q => xt_in (xw_lay_X7 w q)) (hts _ (xt_in xw_new_X7))
  obtain ⟨c8, i8, h8⟩ := u_known (C := RX8) (T := TX8) (N := 25) (n := 25) hts (fun w q => xt_in (xw_lay_X8 w q)) (hts _ (xt_in xw_new_X8))
  obtain ⟨a0, g0⟩ := xar_p (hts _ (xt_in xw_ac_int)) (fun _ => rfl)
  obtain ⟨a1, g1⟩ := xar_p (hts _ (xt_in xw_ac_boolean)) (fun _ => rfl)
  obtain ⟨a2, g2⟩ := xar_p (hts _ (xt_in xw_ac_char)) (fun _ => rfl)
  obtain ⟨a3, g3⟩ := xar_q (hts _ xw_ao_X2)
  obtain ⟨a4, g4⟩ := xar_q (hts _ xw_ao_X6)
  obtain ⟨a5, g5⟩ := xar_q (hts _ xw_ao_X1)
  obtain ⟨a6, g6⟩ := xar_q (hts _ xw_ao_X5)
  refine ⟨((fun k => match k with | 0 => c0 | 1 => c1 | 2 => c2 | 3 => c3 | 4 => c4 | 5 => c5 | 6 => c6 | 7 => c7 | _ => c8, fun k => match k with | 0 => i0 | 1 => i1 | 2 => i2 | 3 => i3 | 4 => i4 | 5 => i5 | 6 => i6 | 7 => i7 | _ => i8), fun k => match k with | 0 => a0 | 1 => a1 | 2 => a2 | 3 => a3 | 4 => a4 | 5 => a5 | _ => a6), ⟨fun k q hq => ?_, fun k q hq => ?_⟩, xNest.start hts⟩
  · match k, hq with
    | 0, hq => cases hq; exact h0
    | 1, hq => cases hq; exact h1
    | 2, hq => cases hq; exact h2
    | 3, hq => cases hq; exact h3
    | 4, hq => cases hq; exact h4
    | 5, hq => cases hq; exact h5
    | 6, hq => cases hq; exact h6
    | 7, hq => cases hq; exact h7
    | 8, hq => cases hq; exact h8
    | k + 9, hq => simp [vwCl] at hq
  · match k, hq with
    | 0, hq => cases hq; exact g0
    | 1, hq => cases hq; exact g1
    | 2, hq => cases hq; exact g2
    | 3, hq => cases hq; exact g3
    | 4, hq => cases hq; exact g4
    | 5, hq => cases hq; exact g5
    | 6, hq => cases hq; exact g6
    | k + 7, hq => simp [xtys] at hq

/-! ===== the law: its end, its loop, its start ===== -/
theorem xi_lawret {p : Program} {l : Launch} {e : Env} {s : State} {m : MethodId} {below : List Frame} {meth : Method} {c : Code} {D : XD} {a b n pc : Nat} {h : XH} {lv : List (Option Value)} (hC : xC p s m #[Value.ref a] meth c D cL_law 4 R_law) (hr : meth.sig.returnType = ret) (hb : b = s.heap.size) (hdg : decode cL_law pc = .ok (.ireturn, 1)) : xV p l e room_1 s m #[Value.ref a] below meth c D b 4 605 3415 (lw_Z below #[Value.ref a] s) n h pc lv [.int (nI 1)] := by
  subst hb
  intro H locs ls h1 h2 h3
  exact va_forget h2.2.2 (W.widen (Nat.le_of_ble_eq_true rfl) (Nat.le_of_ble_eq_true rfl) (lw_ret hC.1.1 hC.1.2.1 hr hC.2.2 hdg))
theorem law_gt {i L : Nat} (hi : i < 2 ^ 30) (hL : L < 2 ^ 30) : nI L - nI 4 < nI i ↔ L < i + 4 := by
  rw [Int32.lt_iff_toInt_lt, pk_sub_toInt hL (by decide), nI_toInt (by omega)]
  omega
set_option maxRecDepth 100000 in
set_option maxHeartbeats 4000000 in
theorem law_loop {p : Program} {l : Launch} {e : Env} {s : State} {m : MethodId} {below : List Frame} {meth : Method} {c : Code} {D : XD} {a b L : Nat} {xs : Nat → Int32} (hC : xC p s m #[Value.ref a] meth c D cL_law 4 R_law) (hX : va_X a L xs s s.heap) (hal : a < b) (hb : b = s.heap.size) (hL : L ≤ 2048) (hr : meth.sig.returnType = ret) : ∀ (d : Nat) (C S : XM) (u w i : Nat), L + 4 - i < d → i ≤ L + 3 → SI (5 * i) S u w → RR (jn C S) S u w → xV p l e room_1 s m #[Value.ref a] below meth c D b 4 605 3415 (lw_Z below #[Value.ref a] s) (b + 605) (xH D b (jn C S)) 18 [some (.ref a), some (.ref (b + 0)), some (.ref (b + oMod)), some (.int (nI i))] [] := by
  intro d
  induction d with
  | zero => exact fun C S u w i h => absurd h (Nat.not_lt_zero _)
  | succ d ih =>
    intro C S u w i hd hi hS hR
    refine xi_iload_n hC dL_law_18 (pc' := 19) rfl rfl rfl ?_
    refine xi_aload_n hC dL_law_19 (pc' := 20) rfl rfl rfl ?_
    refine xi_slen hC dL_law_20 (pc' := 21) rfl hX hal hb ?_
    refine xi_iconst (v := nI 4) hC dL_law_21 (pc' := 22) rfl (by decide +kernel) ?_
    refine xi_isub hC dL_law_22 (pc' := 23) rfl ?_
    refine xi_icmpgt (tgt := 894) hC dL_law_23 (pc' := 26) rfl (by decide) (fun zc => ?_) (fun zc => ?_)
    · refine xi_iconst (v := nI 1) hC dL_law_894 (pc' := 895) rfl (by decide +kernel) ?_
      exact xi_lawret hC hr hb dL_law_895
    · rw [law_gt (by omega) (by omega)] at zc
      have hi4 : i + 4 ≤ L := by omega
      have hN : 5 * i + 21 < 2 ^ 31 := by omega
      have K : ∀ (C T : XM) (u w : Nat), SI (5 * i + 20) T u w → RR (jn C T) T u w → xV p l e room_1 s m #[Value.ref a] below meth c D b 4 605 3415 (lw_Z below #[Value.ref a] s) (b + 605) (xH D b (jn C T)) 888 [some (.ref a), some (.ref (b + 0)), some (.ref (b + oMod)), some (.int (nI i))] [] := by
        intro C T u w hS hR
        refine xi_iinc (v := nI (i + 4)) (lv' := [some (.ref a), some (.ref (b + 0)), some (.ref (b + oMod)), some (.int (nI (i + 4)))]) hC dL_law_888 (pc' := 891) rfl rfl (show nI i + Int32.ofInt 4 = nI (i + 4) by rw [← nI_add]; rfl) (by decide) rfl ?_
        refine xi_goto (tgt := 18) hC dL_law_891 (by decide) ?_
        exact ih C T u w (i + 4) (by omega) (by omega) ((show 5 * i + 20 = 5 * (i + 4) by omega) ▸ hS) hR
      refine xi_aload_n hC dL_law_26 (pc' := 27) rfl rfl rfl ?_
      refine xi_iload_n hC dL_law_27 (pc' := 28) rfl rfl rfl ?_
      refine xi_sld hC dL_law_28 (pc' := 29) rfl hX hal hb rfl (by omega) (by omega) ?_
      refine xi_bipush (v := nI 31) hC dL_law_29 (pc' := 31) rfl (by decide +kernel) ?_
      refine xi_iand hC dL_law_31 (pc' := 32) rfl ?_
      generalize xs i &&& nI 31 = y
      by_cases zt : y.toInt < 0 ∨ 25 < y.toInt
      · refine xi_tableOut (tgt := 888) hC dL_law_32 zt (by decide) ?_
        exact K C S u w (hS.up (by omega)) hR
      · rcases xtab_0_25 zt with zx | zx | zx | zx | zx | zx | zx | zx | zx | zx | zx | zx | zx | zx | zx | zx | zx | zx | zx | zx | zx | zx | zx | zx | zx | zx
        · refine xi_tableIn (tgt := 152) (off := 120) hC dL_law_32 (by rw [zx]; decide) (by rw [zx]; decide) (by rw [zx]; rfl) (by decide) ?_
          exact law_0 hC hX hal hb hL hi4 hS hR hN K
        · refine xi_tableIn (tgt := 175) (off := 143) hC dL_law_32 (by rw [zx]; decide) (by rw [zx]; decide) (by rw [zx]; rfl) (by decide) ?_
          exact law_1 hC hX hal hb hL hi4 hS hR hN K
        · refine xi_tableIn (tgt := 208) (off := 176) hC dL_law_32 (by rw [zx]; decide) (by rw [zx]; decide) (by rw [zx]; rfl) (by decide) ?_
          exact law_2 hC hX hal hb hL hi4 hS hR hN K
        · refine xi_tableIn (tgt := 241) (off := 209) hC dL_law_32 (by rw [zx]; decide) (by rw [zx]; decide) (by rw [zx]; rfl) (by decide) ?_
          exact law_3 hC hX hal hb hL hi4 hS hR hN K
        · refine xi_tableIn (tgt := 264) (off := 232) hC dL_law_32 (by rw [zx]; decide) (by rw [zx]; decide) (by rw [zx]; rfl) (by decide) ?_
          exact law_4 hC hX hal hb hL hi4 hS hR hN K
        · refine xi_tableIn (tgt := 287) (off := 255) hC dL_law_32 (by rw [zx]; decide) (by rw [zx]; decide) (by rw [zx]; rfl) (by decide) ?_
          exact law_5 hC hX hal hb hL hi4 hS hR hN K
        · refine xi_tableIn (tgt := 320) (off := 288) hC dL_law_32 (by rw [zx]; decide) (by rw [zx]; decide) (by rw [zx]; rfl) (by decide) ?_
          exact law_6 hC hX hal hb hL hi4 hS hR hN K
        · refine xi_tableIn (tgt := 353) (off := 321) hC dL_law_32 (by rw [zx]; decide) (by rw [zx]; decide) (by rw [zx]; rfl) (by decide) ?_
          exact law_7 hC hX hal hb hL hi4 hS hR hN K
        · refine xi_tableIn (tgt := 386) (off := 354) hC dL_law_32 (by rw [zx]; decide) (by rw [zx]; decide) (by rw [zx]; rfl) (by decide) ?_
          exact law_8 hC hX hal hb hL hi4 hS hR hN K
        · refine xi_tableIn (tgt := 419) (off := 387) hC dL_law_32 (by rw [zx]; decide) (by rw [zx]; decide) (by rw [zx]; rfl) (by decide) ?_
          exact law_9 hC hX hal hb hL hi4 hS hR hN K
        · refine xi_tableIn (tgt := 452) (off := 420) hC dL_law_32 (by rw [zx]; decide) (by rw [zx]; decide) (by rw [zx]; rfl) (by decide) ?_
          exact law_10 hC hX hal hb hL hi4 hS hR hN K
        · refine xi_tableIn (tgt := 475) (off := 443) hC dL_law_32 (by rw [zx]; decide) (by rw [zx]; decide) (by rw [zx]; rfl) (by decide) ?_
          exact law_11 hC hX hal hb hL hi4 hS hR hN K
        · refine xi_tableIn (tgt := 498) (off := 466) hC dL_law_32 (by rw [zx]; decide) (by rw [zx]; decide) (by rw [zx]; rfl) (by decide) ?_
          exact law_12 hC hX hal hb hL hi4 hS hR hN K
        · refine xi_tableIn (tgt := 531) (off := 499) hC dL_law_32 (by rw [zx]; decide) (by rw [zx]; decide) (by rw [zx]; rfl) (by decide) ?_
          exact law_13 hC hX hal hb hL hi4 hS hR hN K
        · refine xi_tableIn (tgt := 554) (off := 522) hC dL_law_32 (by rw [zx]; decide) (by rw [zx]; decide) (by rw [zx]; rfl) (by decide) ?_
          exact law_14 hC hX hal hb hL hi4 hS hR hN K
        · refine xi_tableIn (tgt := 587) (off := 555) hC dL_law_32 (by rw [zx]; decide) (by rw [zx]; decide) (by rw [zx]; rfl) (by decide) ?_
          exact law_15 hC hX hal hb hL hi4 hS hR hN K
        · refine xi_tableIn (tgt := 630) (off := 598) hC dL_law_32 (by rw [zx]; decide) (by rw [zx]; decide) (by rw [zx]; rfl) (by decide) ?_
          exact law_16 hC hX hal hb hL hi4 hS hR hN K
        · refine xi_tableIn (tgt := 673) (off := 641) hC dL_law_32 (by rw [zx]; decide) (by rw [zx]; decide) (by rw [zx]; rfl) (by decide) ?_
          exact law_17 hC hX hal hb hL hi4 hS hR hN K
        · refine xi_tableIn (tgt := 706) (off := 674) hC dL_law_32 (by rw [zx]; decide) (by rw [zx]; decide) (by rw [zx]; rfl) (by decide) ?_
          exact law_18 hC hX hal hb hL hi4 hS hR hN K
        · refine xi_tableIn (tgt := 739) (off := 707) hC dL_law_32 (by rw [zx]; decide) (by rw [zx]; decide) (by rw [zx]; rfl) (by decide) ?_
          exact law_19 hC hX hal hb hL hi4 hS hR hN K
        · refine xi_tableIn (tgt := 798) (off := 766) hC dL_law_32 (by rw [zx]; decide) (by rw [zx]; decide) (by rw [zx]; rfl) (by decide) ?_
          exact law_20 hC hX hal hb hL hi4 hS hR hN K
        · refine xi_tableIn (tgt := 811) (off := 779) hC dL_law_32 (by rw [zx]; decide) (by rw [zx]; decide) (by rw [zx]; rfl) (by decide) ?_
          exact law_21 hC hX hal hb hL hi4 hS hR hN K
        · refine xi_tableIn (tgt := 824) (off := 792) hC dL_law_32 (by rw [zx]; decide) (by rw [zx]; decide) (by rw [zx]; rfl) (by decide) ?_
          exact law_22 hC hX hal hb hL hi4 hS hR hN K
        · refine xi_tableIn (tgt := 837) (off := 805) hC dL_law_32 (by rw [zx]; decide) (by rw [zx]; decide) (by rw [zx]; rfl) (by decide) ?_
          exact law_23 hC hX hal hb hL hi4 hS hR hN K
        · refine xi_tableIn (tgt := 862) (off := 830) hC dL_law_32 (by rw [zx]; decide) (by rw [zx]; decide) (by rw [zx]; rfl) (by decide) ?_
          exact law_24 hC hX hal hb hL hi4 hS hR hN K
        · refine xi_tableIn (tgt := 875) (off := 843) hC dL_law_32 (by rw [zx]; decide) (by rw [zx]; decide) (by rw [zx]; rfl) (by decide) ?_
          exact law_25 hC hX hal hb hL hi4 hS hR hN K

set_option maxRecDepth 100000 in
set_option maxHeartbeats 4000000 in
theorem law_start {p : Program} {l : Launch} {e : Env} {s : State} {m : MethodId} {below : List Frame} {meth : Method} {c : Code} {D : XD} {a b L : Nat} {xs : Nat → Int32} (hC : xC p s m #[Value.ref a] meth c D cL_law 4 R_law) (hX : va_X a L xs s s.heap) (hal : a < b) (hb : b = s.heap.size) (hL : L ≤ 2048) (hr : meth.sig.returnType = ret) : xV p l e room_1 s m #[Value.ref a] below meth c D b 4 0 0 (lw_Z below #[Value.ref a] s) b (fun _ => none) 0 [some (.ref a), none, none, none] [] := by
  refine xi_new (C := RX7) (T := TX7) (ci := 7) (N := 5) (fs := [.null, .null, .null, .int 0, .int 0]) tyX7 hC dL_law_0 (pc' := 3) rfl xw_k_L_7 xw_new_X7 xw_ini_X7 xw_lay_X7 tyX7_ok rfl (by decide) ⟨Nat.le_of_ble_eq_true rfl, Nat.le_of_ble_eq_true rfl⟩ ?_
  refine xi_dup hC dL_law_3 (pc' := 4) rfl rfl ?_
  refine xi_callI (As := []) (rest := [.ref (b + 0)]) (c_X7_init l D b (h := fun _ => none)) hC dL_law_4 (pc' := 7) rfl xw_m_L_9 xw_c_X7_init xw_ins_X7_init xw_ini_X7 rfl xd_X7_init ⟨Nat.le_of_ble_eq_true rfl, Nat.le_of_ble_eq_true rfl⟩ rfl (Nat.le_of_ble_eq_true rfl) ⟨Nat.le_of_ble_eq_true rfl, Nat.le_of_ble_eq_true rfl⟩ ?_
  rintro _ _ ⟨rfl, rfl⟩
  refine xhp (h' := hA D b) rfl ?_
  show xV _ _ _ _ _ _ _ _ _ _ _ _ _ _ _ _ _ _ _ _ [.ref (b + 0)]
  refine xi_astore_n (lv' := [some (.ref a), some (.ref (b + 0)), none, none]) hC dL_law_7 (pc' := 8) rfl rfl (by decide) rfl ?_
  refine xi_new (C := RX8) (T := TX8) (ci := 8) (N := 25) (fs := [.int 0, .int 0, .int 0, .null, .null, .null, .null, .null, .null, .null, .null, .null, .null, .null, .null, .null, .null, .null, .null, .null, .int 0, .int 0, .null, .int 0, .null]) tyX8 hC dL_law_8 (pc' := 11) rfl xw_k_L_10 xw_new_X8 xw_ini_X8 xw_lay_X8 tyX8_ok rfl (by decide) ⟨Nat.le_of_ble_eq_true rfl, Nat.le_of_ble_eq_true rfl⟩ ?_
  refine xi_dup hC dL_law_11 (pc' := 12) rfl rfl ?_
  refine xi_callI (As := []) (rest := [.ref (b + oMod)]) (c_X8_init l D b) hC dL_law_12 (pc' := 15) rfl xw_m_L_12 xw_c_X8_init xw_ins_X8_init xw_ini_X8 rfl xd_X8_init ⟨Nat.le_of_ble_eq_true rfl, Nat.le_of_ble_eq_true rfl⟩ rfl (Nat.le_of_ble_eq_true rfl) ⟨Nat.le_of_ble_eq_true rfl, Nat.le_of_ble_eq_true rfl⟩ ?_
  rintro _ _ ⟨rfl, T, hT, rfl⟩
  show xV _ _ _ _ _ _ _ _ _ _ _ _ _ _ _ _ _ _ _ _ [.ref (b + oMod)]
  refine xi_astore_n (lv' := [some (.ref a), some (.ref (b + 0)), some (.ref (b + oMod)), none]) hC dL_law_15 (pc' := 16) rfl rfl (by decide) rfl ?_
  refine xi_iconst (v := nI 0) hC dL_law_16 (pc' := 17) rfl (by decide +kernel) ?_
  refine xi_istore_n (lv' := [some (.ref a), some (.ref (b + 0)), some (.ref (b + oMod)), some (.int (nI 0))]) hC dL_law_17 (pc' := 18) rfl rfl (by decide) rfl ?_
  exact law_loop hC hX hal hb hL hr (L + 5) C0 T 3 1 0 (by omega) (by omega) (SI_begin (t := 0) (by decide) nI_0.symm ⟨by decide, by decide⟩ hT) (RR_begin hT)
