
def Z0 : XM := fun _ _ => 0
def C0 : XM := sw (sw Z0 0 3 (nI 3)) 0 4 (nI 1)
def hA (D : XD) (b : Nat) : XH := hf D b (xup (fun _ => none) (b + 0) (.inr (7, [.ref (b + 1), .ref (b + 2), .ref (b + 3), .int (nI 3), .int (nI 1)]))) 1 584
theorem hA_eq {D : XD} {b : Nat} : hf D b (xup (hA D b) (b + 585) (.inr (8, [.int 0, .int 0, .int 0, .ref (b + 586), .ref (b + 587), .ref (b + 588), .ref (b + 589), .ref (b + 590), .ref (b + 591), .ref (b + 592), .ref (b + 593), .ref (b + 594), .ref (b + 595), .ref (b + 596), .ref (b + 597), .ref (b + 598), .ref (b + 599), .ref (b + 600), .ref (b + 601), .ref (b + 602), .int 0, .int 0, .ref (b + 603), .int 0, .ref (b + 604)]))) 586 19 = xH D b (jn C0 Z0) := by
  funext q
  rcases Nat.lt_or_ge q b with h1 | h1
  · rw [hf_n (by omega), xup_n (by omega)]
    show hA D b q = if b ≤ q then _ else none
    rw [if_neg (by omega)]
    unfold hA
    rw [hf_n (by omega), xup_n (by omega)]
  · obtain ⟨k, rfl⟩ : ∃ k, q = b + k := ⟨q - b, by omega⟩
    show _ = if b ≤ b + k then xsh D b (b + k - b) (jn C0 Z0 (b + k - b)) else none
    rw [if_pos (by omega), Nat.add_sub_cancel_left]
    have hz : ∀ k, k ≠ 0 → jn C0 Z0 k = fun _ => 0 := fun k hk => by
      unfold jn
      by_cases h : k < 585
      · rw [if_pos h]; unfold C0; rw [sw_n hk, sw_n hk]; rfl
      · rw [if_neg h]; rfl
    by_cases h2 : 586 ≤ k
    · rw [hz k (by omega)]
      by_cases h3 : k < 605
      · rw [hf_i h2 (by omega)]
      · have e9 : kd k = 9 := by
          rcases Classical.em (kd k = 9) with q | q
          · exact q
          · exact absurd (kd_lt q) (by omega)
        unfold hf
        rw [if_neg (by omega), xup_n (by omega)]
        unfold hA hf
        rw [if_neg (by omega), xup_n (by omega)]
        unfold xsh
        rw [if_pos e9]
    · rw [hf_n (by omega)]
      by_cases h3 : k = 585
      · subst h3
        rw [xup_s, hz 585 (by decide)]
        exact (xsh_8 (D := D) (b := b) (o := 585) (f := fun _ => 0) kd_oMod).symm
      · rw [xup_n (by omega)]
        unfold hA
        by_cases h4 : k = 0
        · subst h4
          rw [hf_n (by omega), xup_s, xsh_7 kd_0]
          rfl
        · rw [hf_i (by omega) (by omega), hz k h4]
set_option maxRecDepth 100000 in
set_option maxHeartbeats 8000000 in
theorem c_X8_init (l : Launch) (D : XD) (b : Nat) : xM l yX8_init cX8_init 1 none 1 22 19 1401 D b (b + 586) [.ref (b + oMod)] (xup (hA D b) (b + 585) (.inr (8, [.int 0, .int 0, .int 0, .null, .null, .null, .null, .null, .null, .null, .null, .null, .null, .null, .null, .null, .null, .null, .null, .null, .int 0, .int 0, .null, .int 0, .null]))) (b + 605) (fun v h' => v = none ∧ ∃ T : XM, mBegin Z0 3 T ∧ h' = xH D b (jn C0 T)) := by
  refine xM.of (lv := [some (.ref (b + oMod))]) (by decide +kernel) rfl (List.forall_mem_cons.mpr ⟨rfl, fun _ h => absurd h List.not_mem_nil⟩) (Nat.le_of_ble_eq_true rfl) rfl ?_
  intro p e s m args below meth c hC hr hnm
  refine xi_aload_n hC dX8_init_0 (pc' := 1) rfl rfl rfl ?_
  refine xi_objInit hC dX8_init_1 (pc' := 4) rfl xw_m_X8_1 ⟨Nat.le_of_ble_eq_true rfl, Nat.le_of_ble_eq_true rfl⟩ ?_
  refine xhp (h' := hf D b (xup (hA D b) (b + 585) (.inr (8, [.int 0, .int 0, .int 0, .null, .null, .null, .null, .null, .null, .null, .null, .null, .null, .null, .null, .null, .null, .null, .null, .null, .int 0, .int 0, .null, .int 0, .null]))) 586 0) hf_0.symm ?_
  refine xi_aload_n hC dX8_init_4 (pc' := 5) rfl rfl rfl ?_
  refine xi_sipush (v := nI 180) hC dX8_init_5 (pc' := 8) rfl (by decide +kernel) ?_
  refine xi_newarray (N := 180) (t0 := 0) (cA := D.2 0) (a0 := .inl (fun _ => 0)) hC dX8_init_8 (pc' := 10) rfl rfl xw_ac_int rfl (fun _ _ => rfl) rfl rfl (by decide) (by decide) ⟨Nat.le_of_ble_eq_true rfl, Nat.le_of_ble_eq_true rfl⟩ ?_
  refine xhp (h' := hf D b (xup (hA D b) (b + 585) (.inr (8, [.int 0, .int 0, .int 0, .null, .null, .null, .null, .null, .null, .null, .null, .null, .null, .null, .null, .null, .null, .null, .null, .null, .int 0, .int 0, .null, .int 0, .null]))) 586 1) ((hf_1 (o := m_row) (xsh_a0 (N := 180) (by decide) kd_m_row)).trans (hf_hf (o := 586) (l1 := 0) (l2 := 1))) ?_
  refine xi_putfinal (T := TX8) (i := 3) (ty := tyX8 3) tyX8 hC dX8_init_10 (pc' := 13) rfl xw_f_X8_7 xw_lay_X8 tyX8_ok nmX8 rfl (by decide) ((hf_n (by simp only [oMod]; omega)).trans xup_s) rfl hnm rfl (tyX8_ok 3 (by decide)) rfl rfl (Nat.le_of_ble_eq_true rfl) ?_
  refine xhp (h' := hf D b (xup (hA D b) (b + 585) (.inr (8, [.int 0, .int 0, .int 0, .ref (b + 586), .null, .null, .null, .null, .null, .null, .null, .null, .null, .null, .null, .null, .null, .null, .null, .null, .int 0, .int 0, .null, .int 0, .null]))) 586 1) ((hf_up (by simp only [oMod]; omega)).trans (congrArg (fun z => hf D b z 586 1) xup_up)) ?_
  refine xi_aload_n hC dX8_init_13 (pc' := 14) rfl rfl rfl ?_
  refine xi_bipush (v := nI 6) hC dX8_init_14 (pc' := 16) rfl (by decide +kernel) ?_
  refine xi_newarray (N := 6) (t0 := 0) (cA := D.2 0) (a0 := .inl (fun _ => 0)) hC dX8_init_16 (pc' := 18) rfl rfl xw_ac_int rfl (fun _ _ => rfl) rfl rfl (by decide) (by decide) ⟨Nat.le_of_ble_eq_true rfl, Nat.le_of_ble_eq_true rfl⟩ ?_
  refine xhp (h' := hf D b (xup (hA D b) (b + 585) (.inr (8, [.int 0, .int 0, .int 0, .ref (b + 586), .null, .null, .null, .null, .null, .null, .null, .null, .null, .null, .null, .null, .null, .null, .null, .null, .int 0, .int 0, .null, .int 0, .null]))) 586 2) ((hf_1 (o := m_keptOf) (xsh_a0 (N := 6) (by decide) kd_m_keptOf)).trans (hf_hf (o := 586) (l1 := 1) (l2 := 1))) ?_
  refine xi_putfinal (T := TX8) (i := 4) (ty := tyX8 4) tyX8 hC dX8_init_18 (pc' := 21) rfl xw_f_X8_13 xw_lay_X8 tyX8_ok nmX8 rfl (by decide) ((hf_n (by simp only [oMod]; omega)).trans xup_s) rfl hnm rfl (tyX8_ok 4 (by decide)) rfl rfl (Nat.le_of_ble_eq_true rfl) ?_
  refine xhp (h' := hf D b (xup (hA D b) (b + 585) (.inr (8, [.int 0, .int 0, .int 0, .ref (b + 586), .ref (b + 587), .null, .null, .null, .null, .null, .null, .null, .null, .null, .null, .null, .null, .null, .null, .null, .int 0, .int 0, .null, .int 0, .null]))) 586 2) ((hf_up (by simp only [oMod]; omega)).trans (congrArg (fun z => hf D b z 586 2) xup_up)) ?_
  refine xi_aload_n hC dX8_init_21 (pc' := 22) rfl rfl rfl ?_
  refine xi_sipush (v := nI 900) hC dX8_init_22 (pc' := 25) rfl (by decide +kernel) ?_
  refine xi_newarray (N := 900) (t0 := 0) (cA := D.2 0) (a0 := .inl (fun _ => 0)) hC dX8_init_25 (pc' := 27) rfl rfl xw_ac_int rfl (fun _ _ => rfl) rfl rfl (by decide) (by decide) ⟨Nat.le_of_ble_eq_true rfl, Nat.le_of_ble_eq_true rfl⟩ ?_
  refine xhp (h' := hf D b (xup (hA D b) (b + 585) (.inr (8, [.int 0, .int 0, .int 0, .ref (b + 586), .ref (b + 587), .null, .null, .null, .null, .null, .null, .null, .null, .null, .null, .null, .null, .null, .null, .null, .int 0, .int 0, .null, .int 0, .null]))) 586 3) ((hf_1 (o := m_keptRow) (xsh_a0 (N := 900) (by decide) kd_m_keptRow)).trans (hf_hf (o := 586) (l1 := 2) (l2 := 1))) ?_
  refine xi_putfinal (T := TX8) (i := 5) (ty := tyX8 5) tyX8 hC dX8_init_27 (pc' := 30) rfl xw_f_X8_16 xw_lay_X8 tyX8_ok nmX8 rfl (by decide) ((hf_n (by simp only [oMod]; omega)).trans xup_s) rfl hnm rfl (tyX8_ok 5 (by decide)) rfl rfl (Nat.le_of_ble_eq_true rfl) ?_
  refine xhp (h' := hf D b (xup (hA D b) (b + 585) (.inr (8, [.int 0, .int 0, .int 0, .ref (b + 586), .ref (b + 587), .ref (b + 588), .null, .null, .null, .null, .null, .null, .null, .null, .null, .null, .null, .null, .null, .null, .int 0, .int 0, .null, .int 0, .null]))) 586 3) ((hf_up (by simp only [oMod]; omega)).trans (congrArg (fun z => hf D b z 586 3) xup_up)) ?_
  refine xi_aload_n hC dX8_init_30 (pc' := 31) rfl rfl rfl ?_
  refine xi_iconst (v := nI 5) hC dX8_init_31 (pc' := 32) rfl (by decide +kernel) ?_
  refine xi_newarray (N := 5) (t0 := 0) (cA := D.2 0) (a0 := .inl (fun _ => 0)) hC dX8_init_32 (pc' := 34) rfl rfl xw_ac_int rfl (fun _ _ => rfl) rfl rfl (by decide) (by decide) ⟨Nat.le_of_ble_eq_true rfl, Nat.le_of_ble_eq_true rfl⟩ ?_
  refine xhp (h' := hf D b (xup (hA D b) (b + 585) (.inr (8, [.int 0, .int 0, .int 0, .ref (b + 586), .ref (b + 587), .ref (b + 588), .null, .null, .null, .null, .null, .null, .null, .null, .null, .null, .null, .null, .null, .null, .int 0, .int 0, .null, .int 0, .null]))) 586 4) ((hf_1 (o := m_viewOf) (xsh_a0 (N := 5) (by decide) kd_m_viewOf)).trans (hf_hf (o := 586) (l1 := 3) (l2 := 1))) ?_
  refine xi_putfinal (T := TX8) (i := 6) (ty := tyX8 6) tyX8 hC dX8_init_34 (pc' := 37) rfl xw_f_X8_19 xw_lay_X8 tyX8_ok nmX8 rfl (by decide) ((hf_n (by simp only [oMod]; omega)).trans xup_s) rfl hnm rfl (tyX8_ok 6 (by decide)) rfl rfl (Nat.le_of_ble_eq_true rfl) ?_
  refine xhp (h' := hf D b (xup (hA D b) (b + 585) (.inr (8, [.int 0, .int 0, .int 0, .ref (b + 586), .ref (b + 587), .ref (b + 588), .ref (b + 589), .null, .null, .null, .null, .null, .null, .null, .null, .null, .null, .null, .null, .null, .int 0, .int 0, .null, .int 0, .null]))) 586 4) ((hf_up (by simp only [oMod]; omega)).trans (congrArg (fun z => hf D b z 586 4) xup_up)) ?_
  refine xi_aload_n hC dX8_init_37 (pc' := 38) rfl rfl rfl ?_
  refine xi_iconst (v := nI 5) hC dX8_init_38 (pc' := 39) rfl (by decide +kernel) ?_
  refine xi_newarray (N := 5) (t0 := 0) (cA := D.2 0) (a0 := .inl (fun _ => 0)) hC dX8_init_39 (pc' := 41) rfl rfl xw_ac_int rfl (fun _ _ => rfl) rfl rfl (by decide) (by decide) ⟨Nat.le_of_ble_eq_true rfl, Nat.le_of_ble_eq_true rfl⟩ ?_
  refine xhp (h' := hf D b (xup (hA D b) (b + 585) (.inr (8, [.int 0, .int 0, .int 0, .ref (b + 586), .ref (b + 587), .ref (b + 588), .ref (b + 589), .null, .null, .null, .null, .null, .null, .null, .null, .null, .null, .null, .null, .null, .int 0, .int 0, .null, .int 0, .null]))) 586 5) ((hf_1 (o := m_alarmOf) (xsh_a0 (N := 5) (by decide) kd_m_alarmOf)).trans (hf_hf (o := 586) (l1 := 4) (l2 := 1))) ?_
  refine xi_putfinal (T := TX8) (i := 7) (ty := tyX8 7) tyX8 hC dX8_init_41 (pc' := 44) rfl xw_f_X8_22 xw_lay_X8 tyX8_ok nmX8 rfl (by decide) ((hf_n (by simp only [oMod]; omega)).trans xup_s) rfl hnm rfl (tyX8_ok 7 (by decide)) rfl rfl (Nat.le_of_ble_eq_true rfl) ?_
  refine xhp (h' := hf D b (xup (hA D b) (b + 585) (.inr (8, [.int 0, .int 0, .int 0, .ref (b + 586), .ref (b + 587), .ref (b + 588), .ref (b + 589), .ref (b + 590), .null, .null, .null, .null, .null, .null, .null, .null, .null, .null, .null, .null, .int 0, .int 0, .null, .int 0, .null]))) 586 5) ((hf_up (by simp only [oMod]; omega)).trans (congrArg (fun z => hf D b z 586 5) xup_up)) ?_
  refine xi_aload_n hC dX8_init_44 (pc' := 45) rfl rfl rfl ?_
  refine xi_iconst (v := nI 5) hC dX8_init_45 (pc' := 46) rfl (by decide +kernel) ?_
  refine xi_newarray (N := 5) (t0 := 1) (cA := D.2 1) (a0 := .inl (fun _ => 0)) hC dX8_init_46 (pc' := 48) rfl rfl xw_ac_boolean rfl (fun _ _ => rfl) rfl rfl (by decide) (by decide) ⟨Nat.le_of_ble_eq_true rfl, Nat.le_of_ble_eq_true rfl⟩ ?_
  refine xhp (h' := hf D b (xup (hA D b) (b + 585) (.inr (8, [.int 0, .int 0, .int 0, .ref (b + 586), .ref (b + 587), .ref (b + 588), .ref (b + 589), .ref (b + 590), .null, .null, .null, .null, .null, .null, .null, .null, .null, .null, .null, .null, .int 0, .int 0, .null, .int 0, .null]))) 586 6) ((hf_1 (o := m_hasProof) (xsh_a1 (N := 5) (by decide) kd_m_hasProof)).trans (hf_hf (o := 586) (l1 := 5) (l2 := 1))) ?_
  refine xi_putfinal (T := TX8) (i := 8) (ty := tyX8 8) tyX8 hC dX8_init_48 (pc' := 51) rfl xw_f_X8_25 xw_lay_X8 tyX8_ok nmX8 rfl (by decide) ((hf_n (by simp only [oMod]; omega)).trans xup_s) rfl hnm rfl (tyX8_ok 8 (by decide)) rfl rfl (Nat.le_of_ble_eq_true rfl) ?_
  refine xhp (h' := hf D b (xup (hA D b) (b + 585) (.inr (8, [.int 0, .int 0, .int 0, .ref (b + 586), .ref (b + 587), .ref (b + 588), .ref (b + 589), .ref (b + 590), .ref (b + 591), .null, .null, .null, .null, .null, .null, .null, .null, .null, .null, .null, .int 0, .int 0, .null, .int 0, .null]))) 586 6) ((hf_up (by simp only [oMod]; omega)).trans (congrArg (fun z => hf D b z 586 6) xup_up)) ?_
  refine xi_aload_n hC dX8_init_51 (pc' := 52) rfl rfl rfl ?_
  refine xi_iconst (v := nI 5) hC dX8_init_52 (pc' := 53) rfl (by decide +kernel) ?_
  refine xi_newarray (N := 5) (t0 := 0) (cA := D.2 0) (a0 := .inl (fun _ => 0)) hC dX8_init_53 (pc' := 55) rfl rfl xw_ac_int rfl (fun _ _ => rfl) rfl rfl (by decide) (by decide) ⟨Nat.le_of_ble_eq_true rfl, Nat.le_of_ble_eq_true rfl⟩ ?_
  refine xhp (h' := hf D b (xup (hA D b) (b + 585) (.inr (8, [.int 0, .int 0, .int 0, .ref (b + 586), .ref (b + 587), .ref (b + 588), .ref (b + 589), .ref (b + 590), .ref (b + 591), .null, .null, .null, .null, .null, .null, .null, .null, .null, .null, .null, .int 0, .int 0, .null, .int 0, .null]))) 586 7) ((hf_1 (o := m_depthOf) (xsh_a0 (N := 5) (by decide) kd_m_depthOf)).trans (hf_hf (o := 586) (l1 := 6) (l2 := 1))) ?_
  refine xi_putfinal (T := TX8) (i := 9) (ty := tyX8 9) tyX8 hC dX8_init_55 (pc' := 58) rfl xw_f_X8_29 xw_lay_X8 tyX8_ok nmX8 rfl (by decide) ((hf_n (by simp only [oMod]; omega)).trans xup_s) rfl hnm rfl (tyX8_ok 9 (by decide)) rfl rfl (Nat.le_of_ble_eq_true rfl) ?_
  refine xhp (h' := hf D b (xup (hA D b) (b + 585) (.inr (8, [.int 0, .int 0, .int 0, .ref (b + 586), .ref (b + 587), .ref (b + 588), .ref (b + 589), .ref (b + 590), .ref (b + 591), .ref (b + 592), .null, .null, .null, .null, .null, .null, .null, .null, .null, .null, .int 0, .int 0, .null, .int 0, .null]))) 586 7) ((hf_up (by simp only [oMod]; omega)).trans (congrArg (fun z => hf D b z 586 7) xup_up)) ?_
  refine xi_aload_n hC dX8_init_58 (pc' := 59) rfl rfl rfl ?_
  refine xi_bipush (v := nI 50) hC dX8_init_59 (pc' := 61) rfl (by decide +kernel) ?_
  refine xi_newarray (N := 50) (t0 := 0) (cA := D.2 0) (a0 := .inl (fun _ => 0)) hC dX8_init_61 (pc' := 63) rfl rfl xw_ac_int rfl (fun _ _ => rfl) rfl rfl (by decide) (by decide) ⟨Nat.le_of_ble_eq_true rfl, Nat.le_of_ble_eq_true rfl⟩ ?_
  refine xhp (h' := hf D b (xup (hA D b) (b + 585) (.inr (8, [.int 0, .int 0, .int 0, .ref (b + 586), .ref (b + 587), .ref (b + 588), .ref (b + 589), .ref (b + 590), .ref (b + 591), .ref (b + 592), .null, .null, .null, .null, .null, .null, .null, .null, .null, .null, .int 0, .int 0, .null, .int 0, .null]))) 586 8) ((hf_1 (o := m_proofOf) (xsh_a0 (N := 50) (by decide) kd_m_proofOf)).trans (hf_hf (o := 586) (l1 := 7) (l2 := 1))) ?_
  refine xi_putfinal (T := TX8) (i := 10) (ty := tyX8 10) tyX8 hC dX8_init_63 (pc' := 66) rfl xw_f_X8_32 xw_lay_X8 tyX8_ok nmX8 rfl (by decide) ((hf_n (by simp only [oMod]; omega)).trans xup_s) rfl hnm rfl (tyX8_ok 10 (by decide)) rfl rfl (Nat.le_of_ble_eq_true rfl) ?_
  refine xhp (h' := hf D b (xup (hA D b) (b + 585) (.inr (8, [.int 0, .int 0, .int 0, .ref (b + 586), .ref (b + 587), .ref (b + 588), .ref (b + 589), .ref (b + 590), .ref (b + 591), .ref (b + 592), .ref (b + 593), .null, .null, .null, .null, .null, .null, .null, .null, .null, .int 0, .int 0, .null, .int 0, .null]))) 586 8) ((hf_up (by simp only [oMod]; omega)).trans (congrArg (fun z => hf D b z 586 8) xup_up)) ?_
  refine xi_aload_n hC dX8_init_66 (pc' := 67) rfl rfl rfl ?_
  refine xi_bipush (v := nI 25) hC dX8_init_67 (pc' := 69) rfl (by decide +kernel) ?_
  refine xi_newarray (N := 25) (t0 := 0) (cA := D.2 0) (a0 := .inl (fun _ => 0)) hC dX8_init_69 (pc' := 71) rfl rfl xw_ac_int rfl (fun _ _ => rfl) rfl rfl (by decide) (by decide) ⟨Nat.le_of_ble_eq_true rfl, Nat.le_of_ble_eq_true rfl⟩ ?_
  refine xhp (h' := hf D b (xup (hA D b) (b + 585) (.inr (8, [.int 0, .int 0, .int 0, .ref (b + 586), .ref (b + 587), .ref (b + 588), .ref (b + 589), .ref (b + 590), .ref (b + 591), .ref (b + 592), .ref (b + 593), .null, .null, .null, .null, .null, .null, .null, .null, .null, .int 0, .int 0, .null, .int 0, .null]))) 586 9) ((hf_1 (o := m_signedOf) (xsh_a0 (N := 25) (by decide) kd_m_signedOf)).trans (hf_hf (o := 586) (l1 := 8) (l2 := 1))) ?_
  refine xi_putfinal (T := TX8) (i := 11) (ty := tyX8 11) tyX8 hC dX8_init_71 (pc' := 74) rfl xw_f_X8_35 xw_lay_X8 tyX8_ok nmX8 rfl (by decide) ((hf_n (by simp only [oMod]; omega)).trans xup_s) rfl hnm rfl (tyX8_ok 11 (by decide)) rfl rfl (Nat.le_of_ble_eq_true rfl) ?_
  refine xhp (h' := hf D b (xup (hA D b) (b + 585) (.inr (8, [.int 0, .int 0, .int 0, .ref (b + 586), .ref (b + 587), .ref (b + 588), .ref (b + 589), .ref (b + 590), .ref (b + 591), .ref (b + 592), .ref (b + 593), .ref (b + 594), .null, .null, .null, .null, .null, .null, .null, .null, .int 0, .int 0, .null, .int 0, .null]))) 586 9) ((hf_up (by simp only [oMod]; omega)).trans (congrArg (fun z => hf D b z 586 9) xup_up)) ?_
  refine xi_aload_n hC dX8_init_74 (pc' := 75) rfl rfl rfl ?_
  refine xi_bipush (v := nI 25) hC dX8_init_75 (pc' := 77) rfl (by decide +kernel) ?_
  refine xi_newarray (N := 25) (t0 := 0) (cA := D.2 0) (a0 := .inl (fun _ => 0)) hC dX8_init_77 (pc' := 79) rfl rfl xw_ac_int rfl (fun _ _ => rfl) rfl rfl (by decide) (by decide) ⟨Nat.le_of_ble_eq_true rfl, Nat.le_of_ble_eq_true rfl⟩ ?_
  refine xhp (h' := hf D b (xup (hA D b) (b + 585) (.inr (8, [.int 0, .int 0, .int 0, .ref (b + 586), .ref (b + 587), .ref (b + 588), .ref (b + 589), .ref (b + 590), .ref (b + 591), .ref (b + 592), .ref (b + 593), .ref (b + 594), .null, .null, .null, .null, .null, .null, .null, .null, .int 0, .int 0, .null, .int 0, .null]))) 586 10) ((hf_1 (o := m_knownOf) (xsh_a0 (N := 25) (by decide) kd_m_knownOf)).trans (hf_hf (o := 586) (l1 := 9) (l2 := 1))) ?_
  refine xi_putfinal (T := TX8) (i := 12) (ty := tyX8 12) tyX8 hC dX8_init_79 (pc' := 82) rfl xw_f_X8_38 xw_lay_X8 tyX8_ok nmX8 rfl (by decide) ((hf_n (by simp only [oMod]; omega)).trans xup_s) rfl hnm rfl (tyX8_ok 12 (by decide)) rfl rfl (Nat.le_of_ble_eq_true rfl) ?_
  refine xhp (h' := hf D b (xup (hA D b) (b + 585) (.inr (8, [.int 0, .int 0, .int 0, .ref (b + 586), .ref (b + 587), .ref (b + 588), .ref (b + 589), .ref (b + 590), .ref (b + 591), .ref (b + 592), .ref (b + 593), .ref (b + 594), .ref (b + 595), .null, .null, .null, .null, .null, .null, .null, .int 0, .int 0, .null, .int 0, .null]))) 586 10) ((hf_up (by simp only [oMod]; omega)).trans (congrArg (fun z => hf D b z 586 10) xup_up)) ?_
  refine xi_aload_n hC dX8_init_82 (pc' := 83) rfl rfl rfl ?_
  refine xi_iconst (v := nI 5) hC dX8_init_83 (pc' := 84) rfl (by decide +kernel) ?_
  refine xi_newarray (N := 5) (t0 := 0) (cA := D.2 0) (a0 := .inl (fun _ => 0)) hC dX8_init_84 (pc' := 86) rfl rfl xw_ac_int rfl (fun _ _ => rfl) rfl rfl (by decide) (by decide) ⟨Nat.le_of_ble_eq_true rfl, Nat.le_of_ble_eq_true rfl⟩ ?_
  refine xhp (h' := hf D b (xup (hA D b) (b + 585) (.inr (8, [.int 0, .int 0, .int 0, .ref (b + 586), .ref (b + 587), .ref (b + 588), .ref (b + 589), .ref (b + 590), .ref (b + 591), .ref (b + 592), .ref (b + 593), .ref (b + 594), .ref (b + 595), .null, .null, .null, .null, .null, .null, .null, .int 0, .int 0, .null, .int 0, .null]))) 586 11) ((hf_1 (o := m_doneOf) (xsh_a0 (N := 5) (by decide) kd_m_doneOf)).trans (hf_hf (o := 586) (l1 := 10) (l2 := 1))) ?_
  refine xi_putfinal (T := TX8) (i := 13) (ty := tyX8 13) tyX8 hC dX8_init_86 (pc' := 89) rfl xw_f_X8_41 xw_lay_X8 tyX8_ok nmX8 rfl (by decide) ((hf_n (by simp only [oMod]; omega)).trans xup_s) rfl hnm rfl (tyX8_ok 13 (by decide)) rfl rfl (Nat.le_of_ble_eq_true rfl) ?_
  refine xhp (h' := hf D b (xup (hA D b) (b + 585) (.inr (8, [.int 0, .int 0, .int 0, .ref (b + 586), .ref (b + 587), .ref (b + 588), .ref (b + 589), .ref (b + 590), .ref (b + 591), .ref (b + 592), .ref (b + 593), .ref (b + 594), .ref (b + 595), .ref (b + 596), .null, .null, .null, .null, .null, .null, .int 0, .int 0, .null, .int 0, .null]))) 586 11) ((hf_up (by simp only [oMod]; omega)).trans (congrArg (fun z => hf D b z 586 11) xup_up)) ?_
  refine xi_aload_n hC dX8_init_89 (pc' := 90) rfl rfl rfl ?_
  refine xi_iconst (v := nI 5) hC dX8_init_90 (pc' := 91) rfl (by decide +kernel) ?_
  refine xi_newarray (N := 5) (t0 := 0) (cA := D.2 0) (a0 := .inl (fun _ => 0)) hC dX8_init_91 (pc' := 93) rfl rfl xw_ac_int rfl (fun _ _ => rfl) rfl rfl (by decide) (by decide) ⟨Nat.le_of_ble_eq_true rfl, Nat.le_of_ble_eq_true rfl⟩ ?_
  refine xhp (h' := hf D b (xup (hA D b) (b + 585) (.inr (8, [.int 0, .int 0, .int 0, .ref (b + 586), .ref (b + 587), .ref (b + 588), .ref (b + 589), .ref (b + 590), .ref (b + 591), .ref (b + 592), .ref (b + 593), .ref (b + 594), .ref (b + 595), .ref (b + 596), .null, .null, .null, .null, .null, .null, .int 0, .int 0, .null, .int 0, .null]))) 586 12) ((hf_1 (o := m_shownTo) (xsh_a0 (N := 5) (by decide) kd_m_shownTo)).trans (hf_hf (o := 586) (l1 := 11) (l2 := 1))) ?_
  refine xi_putfinal (T := TX8) (i := 14) (ty := tyX8 14) tyX8 hC dX8_init_93 (pc' := 96) rfl xw_f_X8_44 xw_lay_X8 tyX8_ok nmX8 rfl (by decide) ((hf_n (by simp only [oMod]; omega)).trans xup_s) rfl hnm rfl (tyX8_ok 14 (by decide)) rfl rfl (Nat.le_of_ble_eq_true rfl) ?_
  refine xhp (h' := hf D b (xup (hA D b) (b + 585) (.inr (8, [.int 0, .int 0, .int 0, .ref (b + 586), .ref (b + 587), .ref (b + 588), .ref (b + 589), .ref (b + 590), .ref (b + 591), .ref (b + 592), .ref (b + 593), .ref (b + 594), .ref (b + 595), .ref (b + 596), .ref (b + 597), .null, .null, .null, .null, .null, .int 0, .int 0, .null, .int 0, .null]))) 586 12) ((hf_up (by simp only [oMod]; omega)).trans (congrArg (fun z => hf D b z 586 12) xup_up)) ?_
  refine xi_aload_n hC dX8_init_96 (pc' := 97) rfl rfl rfl ?_
  refine xi_iconst (v := nI 5) hC dX8_init_97 (pc' := 98) rfl (by decide +kernel) ?_
  refine xi_newarray (N := 5) (t0 := 0) (cA := D.2 0) (a0 := .inl (fun _ => 0)) hC dX8_init_98 (pc' := 100) rfl rfl xw_ac_int rfl (fun _ _ => rfl) rfl rfl (by decide) (by decide) ⟨Nat.le_of_ble_eq_true rfl, Nat.le_of_ble_eq_true rfl⟩ ?_
  refine xhp (h' := hf D b (xup (hA D b) (b + 585) (.inr (8, [.int 0, .int 0, .int 0, .ref (b + 586), .ref (b + 587), .ref (b + 588), .ref (b + 589), .ref (b + 590), .ref (b + 591), .ref (b + 592), .ref (b + 593), .ref (b + 594), .ref (b + 595), .ref (b + 596), .ref (b + 597), .null, .null, .null, .null, .null, .int 0, .int 0, .null, .int 0, .null]))) 586 13) ((hf_1 (o := m_sentBy) (xsh_a0 (N := 5) (by decide) kd_m_sentBy)).trans (hf_hf (o := 586) (l1 := 12) (l2 := 1))) ?_
  refine xi_putfinal (T := TX8) (i := 15) (ty := tyX8 15) tyX8 hC dX8_init_100 (pc' := 103) rfl xw_f_X8_47 xw_lay_X8 tyX8_ok nmX8 rfl (by decide) ((hf_n (by simp only [oMod]; omega)).trans xup_s) rfl hnm rfl (tyX8_ok 15 (by decide)) rfl rfl (Nat.le_of_ble_eq_true rfl) ?_
  refine xhp (h' := hf D b (xup (hA D b) (b + 585) (.inr (8, [.int 0, .int 0, .int 0, .ref (b + 586), .ref (b + 587), .ref (b + 588), .ref (b + 589), .ref (b + 590), .ref (b + 591), .ref (b + 592), .ref (b + 593), .ref (b + 594), .ref (b + 595), .ref (b + 596), .ref (b + 597), .ref (b + 598), .null, .null, .null, .null, .int 0, .int 0, .null, .int 0, .null]))) 586 13) ((hf_up (by simp only [oMod]; omega)).trans (congrArg (fun z => hf D b z 586 13) xup_up)) ?_
  refine xi_aload_n hC dX8_init_103 (pc' := 104) rfl rfl rfl ?_
  refine xi_iconst (v := nI 5) hC dX8_init_104 (pc' := 105) rfl (by decide +kernel) ?_
  refine xi_newarray (N := 5) (t0 := 1) (cA := D.2 1) (a0 := .inl (fun _ => 0)) hC dX8_init_105 (pc' := 107) rfl rfl xw_ac_boolean rfl (fun _ _ => rfl) rfl rfl (by decide) (by decide) ⟨Nat.le_of_ble_eq_true rfl, Nat.le_of_ble_eq_true rfl⟩ ?_
  refine xhp (h' := hf D b (xup (hA D b) (b + 585) (.inr (8, [.int 0, .int 0, .int 0, .ref (b + 586), .ref (b + 587), .ref (b + 588), .ref (b + 589), .ref (b + 590), .ref (b + 591), .ref (b + 592), .ref (b + 593), .ref (b + 594), .ref (b + 595), .ref (b + 596), .ref (b + 597), .ref (b + 598), .null, .null, .null, .null, .int 0, .int 0, .null, .int 0, .null]))) 586 14) ((hf_1 (o := m_hasRead) (xsh_a1 (N := 5) (by decide) kd_m_hasRead)).trans (hf_hf (o := 586) (l1 := 13) (l2 := 1))) ?_
  refine xi_putfinal (T := TX8) (i := 16) (ty := tyX8 16) tyX8 hC dX8_init_107 (pc' := 110) rfl xw_f_X8_50 xw_lay_X8 tyX8_ok nmX8 rfl (by decide) ((hf_n (by simp only [oMod]; omega)).trans xup_s) rfl hnm rfl (tyX8_ok 16 (by decide)) rfl rfl (Nat.le_of_ble_eq_true rfl) ?_
  refine xhp (h' := hf D b (xup (hA D b) (b + 585) (.inr (8, [.int 0, .int 0, .int 0, .ref (b + 586), .ref (b + 587), .ref (b + 588), .ref (b + 589), .ref (b + 590), .ref (b + 591), .ref (b + 592), .ref (b + 593), .ref (b + 594), .ref (b + 595), .ref (b + 596), .ref (b + 597), .ref (b + 598), .ref (b + 599), .null, .null, .null, .int 0, .int 0, .null, .int 0, .null]))) 586 14) ((hf_up (by simp only [oMod]; omega)).trans (congrArg (fun z => hf D b z 586 14) xup_up)) ?_
  refine xi_aload_n hC dX8_init_110 (pc' := 111) rfl rfl rfl ?_
  refine xi_iconst (v := nI 5) hC dX8_init_111 (pc' := 112) rfl (by decide +kernel) ?_
  refine xi_newarray (N := 5) (t0 := 0) (cA := D.2 0) (a0 := .inl (fun _ => 0)) hC dX8_init_112 (pc' := 114) rfl rfl xw_ac_int rfl (fun _ _ => rfl) rfl rfl (by decide) (by decide) ⟨Nat.le_of_ble_eq_true rfl, Nat.le_of_ble_eq_true rfl⟩ ?_
  refine xhp (h' := hf D b (xup (hA D b) (b + 585) (.inr (8, [.int 0, .int 0, .int 0, .ref (b + 586), .ref (b + 587), .ref (b + 588), .ref (b + 589), .ref (b + 590), .ref (b + 591), .ref (b + 592), .ref (b + 593), .ref (b + 594), .ref (b + 595), .ref (b + 596), .ref (b + 597), .ref (b + 598), .ref (b + 599), .null, .null, .null, .int 0, .int 0, .null, .int 0, .null]))) 586 15) ((hf_1 (o := m_readOf) (xsh_a0 (N := 5) (by decide) kd_m_readOf)).trans (hf_hf (o := 586) (l1 := 14) (l2 := 1))) ?_
  refine xi_putfinal (T := TX8) (i := 17) (ty := tyX8 17) tyX8 hC dX8_init_114 (pc' := 117) rfl xw_f_X8_53 xw_lay_X8 tyX8_ok nmX8 rfl (by decide) ((hf_n (by simp only [oMod]; omega)).trans xup_s) rfl hnm rfl (tyX8_ok 17 (by decide)) rfl rfl (Nat.le_of_ble_eq_true rfl) ?_
  refine xhp (h' := hf D b (xup (hA D b) (b + 585) (.inr (8, [.int 0, .int 0, .int 0, .ref (b + 586), .ref (b + 587), .ref (b + 588), .ref (b + 589), .ref (b + 590), .ref (b + 591), .ref (b + 592), .ref (b + 593), .ref (b + 594), .ref (b + 595), .ref (b + 596), .ref (b + 597), .ref (b + 598), .ref (b + 599), .ref (b + 600), .null, .null, .int 0, .int 0, .null, .int 0, .null]))) 586 15) ((hf_up (by simp only [oMod]; omega)).trans (congrArg (fun z => hf D b z 586 15) xup_up)) ?_
  refine xi_aload_n hC dX8_init_117 (pc' := 118) rfl rfl rfl ?_
  refine xi_iconst (v := nI 5) hC dX8_init_118 (pc' := 119) rfl (by decide +kernel) ?_
  refine xi_newarray (N := 5) (t0 := 0) (cA := D.2 0) (a0 := .inl (fun _ => 0)) hC dX8_init_119 (pc' := 121) rfl rfl xw_ac_int rfl (fun _ _ => rfl) rfl rfl (by decide) (by decide) ⟨Nat.le_of_ble_eq_true rfl, Nat.le_of_ble_eq_true rfl⟩ ?_
  refine xhp (h' := hf D b (xup (hA D b) (b + 585) (.inr (8, [.int 0, .int 0, .int 0, .ref (b + 586), .ref (b + 587), .ref (b + 588), .ref (b + 589), .ref (b + 590), .ref (b + 591), .ref (b + 592), .ref (b + 593), .ref (b + 594), .ref (b + 595), .ref (b + 596), .ref (b + 597), .ref (b + 598), .ref (b + 599), .ref (b + 600), .null, .null, .int 0, .int 0, .null, .int 0, .null]))) 586 16) ((hf_1 (o := m_lettersOf) (xsh_a0 (N := 5) (by decide) kd_m_lettersOf)).trans (hf_hf (o := 586) (l1 := 15) (l2 := 1))) ?_
  refine xi_putfinal (T := TX8) (i := 18) (ty := tyX8 18) tyX8 hC dX8_init_121 (pc' := 124) rfl xw_f_X8_56 xw_lay_X8 tyX8_ok nmX8 rfl (by decide) ((hf_n (by simp only [oMod]; omega)).trans xup_s) rfl hnm rfl (tyX8_ok 18 (by decide)) rfl rfl (Nat.le_of_ble_eq_true rfl) ?_
  refine xhp (h' := hf D b (xup (hA D b) (b + 585) (.inr (8, [.int 0, .int 0, .int 0, .ref (b + 586), .ref (b + 587), .ref (b + 588), .ref (b + 589), .ref (b + 590), .ref (b + 591), .ref (b + 592), .ref (b + 593), .ref (b + 594), .ref (b + 595), .ref (b + 596), .ref (b + 597), .ref (b + 598), .ref (b + 599), .ref (b + 600), .ref (b + 601), .null, .int 0, .int 0, .null, .int 0, .null]))) 586 16) ((hf_up (by simp only [oMod]; omega)).trans (congrArg (fun z => hf D b z 586 16) xup_up)) ?_
  refine xi_aload_n hC dX8_init_124 (pc' := 125) rfl rfl rfl ?_
  refine xi_bipush (v := nI 100) hC dX8_init_125 (pc' := 127) rfl (by decide +kernel) ?_
  refine xi_newarray (N := 100) (t0 := 0) (cA := D.2 0) (a0 := .inl (fun _ => 0)) hC dX8_init_127 (pc' := 129) rfl rfl xw_ac_int rfl (fun _ _ => rfl) rfl rfl (by decide) (by decide) ⟨Nat.le_of_ble_eq_true rfl, Nat.le_of_ble_eq_true rfl⟩ ?_
  refine xhp (h' := hf D b (xup (hA D b) (b + 585) (.inr (8, [.int 0, .int 0, .int 0, .ref (b + 586), .ref (b + 587), .ref (b + 588), .ref (b + 589), .ref (b + 590), .ref (b + 591), .ref (b + 592), .ref (b + 593), .ref (b + 594), .ref (b + 595), .ref (b + 596), .ref (b + 597), .ref (b + 598), .ref (b + 599), .ref (b + 600), .ref (b + 601), .null, .int 0, .int 0, .null, .int 0, .null]))) 586 17) ((hf_1 (o := m_letter) (xsh_a0 (N := 100) (by decide) kd_m_letter)).trans (hf_hf (o := 586) (l1 := 16) (l2 := 1))) ?_
  refine xi_putfinal (T := TX8) (i := 19) (ty := tyX8 19) tyX8 hC dX8_init_129 (pc' := 132) rfl xw_f_X8_59 xw_lay_X8 tyX8_ok nmX8 rfl (by decide) ((hf_n (by simp only [oMod]; omega)).trans xup_s) rfl hnm rfl (tyX8_ok 19 (by decide)) rfl rfl (Nat.le_of_ble_eq_true rfl) ?_
  refine xhp (h' := hf D b (xup (hA D b) (b + 585) (.inr (8, [.int 0, .int 0, .int 0, .ref (b + 586), .ref (b + 587), .ref (b + 588), .ref (b + 589), .ref (b + 590), .ref (b + 591), .ref (b + 592), .ref (b + 593), .ref (b + 594), .ref (b + 595), .ref (b + 596), .ref (b + 597), .ref (b + 598), .ref (b + 599), .ref (b + 600), .ref (b + 601), .ref (b + 602), .int 0, .int 0, .null, .int 0, .null]))) 586 17) ((hf_up (by simp only [oMod]; omega)).trans (congrArg (fun z => hf D b z 586 17) xup_up)) ?_
  refine xi_aload_n hC dX8_init_132 (pc' := 133) rfl rfl rfl ?_
  refine xi_iconst (v := nI 5) hC dX8_init_133 (pc' := 134) rfl (by decide +kernel) ?_
  refine xi_newarray (N := 5) (t0 := 0) (cA := D.2 0) (a0 := .inl (fun _ => 0)) hC dX8_init_134 (pc' := 136) rfl rfl xw_ac_int rfl (fun _ _ => rfl) rfl rfl (by decide) (by decide) ⟨Nat.le_of_ble_eq_true rfl, Nat.le_of_ble_eq_true rfl⟩ ?_
  refine xhp (h' := hf D b (xup (hA D b) (b + 585) (.inr (8, [.int 0, .int 0, .int 0, .ref (b + 586), .ref (b + 587), .ref (b + 588), .ref (b + 589), .ref (b + 590), .ref (b + 591), .ref (b + 592), .ref (b + 593), .ref (b + 594), .ref (b + 595), .ref (b + 596), .ref (b + 597), .ref (b + 598), .ref (b + 599), .ref (b + 600), .ref (b + 601), .ref (b + 602), .int 0, .int 0, .null, .int 0, .null]))) 586 18) ((hf_1 (o := m_hand) (xsh_a0 (N := 5) (by decide) kd_m_hand)).trans (hf_hf (o := 586) (l1 := 17) (l2 := 1))) ?_
  refine xi_putfinal (T := TX8) (i := 22) (ty := tyX8 22) tyX8 hC dX8_init_136 (pc' := 139) rfl xw_f_X8_62 xw_lay_X8 tyX8_ok nmX8 rfl (by decide) ((hf_n (by simp only [oMod]; omega)).trans xup_s) rfl hnm rfl (tyX8_ok 22 (by decide)) rfl rfl (Nat.le_of_ble_eq_true rfl) ?_
  refine xhp (h' := hf D b (xup (hA D b) (b + 585) (.inr (8, [.int 0, .int 0, .int 0, .ref (b + 586), .ref (b + 587), .ref (b + 588), .ref (b + 589), .ref (b + 590), .ref (b + 591), .ref (b + 592), .ref (b + 593), .ref (b + 594), .ref (b + 595), .ref (b + 596), .ref (b + 597), .ref (b + 598), .ref (b + 599), .ref (b + 600), .ref (b + 601), .ref (b + 602), .int 0, .int 0, .ref (b + 603), .int 0, .null]))) 586 18) ((hf_up (by simp only [oMod]; omega)).trans (congrArg (fun z => hf D b z 586 18) xup_up)) ?_
  refine xi_aload_n hC dX8_init_139 (pc' := 140) rfl rfl rfl ?_
  refine xi_bipush (v := nI 60) hC dX8_init_140 (pc' := 142) rfl (by decide +kernel) ?_
  refine xi_newarray (N := 60) (t0 := 2) (cA := D.2 2) (a0 := .inl (fun _ => 0)) hC dX8_init_142 (pc' := 144) rfl rfl xw_ac_char rfl (fun _ _ => rfl) rfl rfl (by decide) (by decide) ⟨Nat.le_of_ble_eq_true rfl, Nat.le_of_ble_eq_true rfl⟩ ?_
  refine xhp (h' := hf D b (xup (hA D b) (b + 585) (.inr (8, [.int 0, .int 0, .int 0, .ref (b + 586), .ref (b + 587), .ref (b + 588), .ref (b + 589), .ref (b + 590), .ref (b + 591), .ref (b + 592), .ref (b + 593), .ref (b + 594), .ref (b + 595), .ref (b + 596), .ref (b + 597), .ref (b + 598), .ref (b + 599), .ref (b + 600), .ref (b + 601), .ref (b + 602), .int 0, .int 0, .ref (b + 603), .int 0, .null]))) 586 19) ((hf_1 (o := m_text) (xsh_a2 (N := 60) (by decide) kd_m_text)).trans (hf_hf (o := 586) (l1 := 18) (l2 := 1))) ?_
  refine xi_putfinal (T := TX8) (i := 24) (ty := tyX8 24) tyX8 hC dX8_init_144 (pc' := 147) rfl xw_f_X8_65 xw_lay_X8 tyX8_ok nmX8 rfl (by decide) ((hf_n (by simp only [oMod]; omega)).trans xup_s) rfl hnm rfl (tyX8_ok 24 (by decide)) rfl rfl (Nat.le_of_ble_eq_true rfl) ?_
  refine xhp (h' := hf D b (xup (hA D b) (b + 585) (.inr (8, [.int 0, .int 0, .int 0, .ref (b + 586), .ref (b + 587), .ref (b + 588), .ref (b + 589), .ref (b + 590), .ref (b + 591), .ref (b + 592), .ref (b + 593), .ref (b + 594), .ref (b + 595), .ref (b + 596), .ref (b + 597), .ref (b + 598), .ref (b + 599), .ref (b + 600), .ref (b + 601), .ref (b + 602), .int 0, .int 0, .ref (b + 603), .int 0, .ref (b + 604)]))) 586 19) ((hf_up (by simp only [oMod]; omega)).trans (congrArg (fun z => hf D b z 586 19) xup_up)) ?_
  refine xhp hA_eq ?_
  refine xi_aload_n hC dX8_init_147 (pc' := 148) rfl rfl rfl ?_
  refine xi_iconst (v := nI 3) hC dX8_init_148 (pc' := 149) rfl (by decide +kernel) ?_
  refine xi_callV (As := [.int (nI 3)]) (rest := []) (c_X8_begin l D b (b + 605) (C := C0) (S := Z0) (z := 3)) hC dX8_init_149 (pc' := 152) rfl xw_m_X8_69 xw_c_X8_begin xw_ins_X8_begin xw_sel_X8_begin xw_ini_X8 xd_X8_begin (xH_at.trans (xsh_8 kd_oMod)) rfl ⟨Nat.le_of_ble_eq_true rfl, Nat.le_of_ble_eq_true rfl⟩ rfl (Nat.le_of_ble_eq_true rfl) ⟨Nat.le_of_ble_eq_true rfl, Nat.le_of_ble_eq_true rfl⟩ ?_
  rintro _ _ ⟨rfl, T, hT, rfl⟩
  refine xi_return hC dX8_init_152 hr rfl ⟨rfl, T, hT, rfl⟩
