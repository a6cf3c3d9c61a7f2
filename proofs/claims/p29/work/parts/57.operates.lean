/-! ===== p29: operates ===== -/
theorem low_inR {j : Nat} (hj : j < 2001) : inR (nI j - nI 1000) := by
  have h := pk_sub_toInt (a := j) (b := 1000) (by omega) (by decide)
  constructor
  · rw [Int32.le_iff_toInt_le, h, show (-1000 : Int32).toInt = -1000 by decide]; omega
  · rw [Int32.le_iff_toInt_le, h, nI_toInt (by decide)]; omega
theorem al_3' (S : XM) (u v i : Nat) : al S u v i ≤ 3 := by
  rcases al_cases S u v i with ⟨e, -⟩ | ⟨-, ⟨e, -⟩ | ⟨-, ⟨e, -⟩ | ⟨e, -⟩⟩⟩ <;> omega
set_option maxRecDepth 100000 in
set_option maxHeartbeats 8000000 in
theorem c_L_operates (l : Launch) (D : XD) (b k : Nat) {σ S : XM} {N u w : Nat} (hS : SI N S u w) (hR : RR σ S u w) (hJ : JJ N S u) (hN : N + 4 < 2 ^ 31) {i : Nat} {g : Int32} (hi : i < u) (hk : 585 ≤ k) : xM l yL_operates cL_operates 22 (some .boolean) 5 116 3 24 D b (b + k) [.ref (b + 0), .int (nI i), .int (nI u), .int g] (xH D b σ) (b + (k + 3)) (fun y' h' => ∃ τ T : XM, y' = some (.int (nI 1)) ∧ SI (N + 1) T u w ∧ RR τ T u w ∧ JJ (N + 1) T u ∧ h' = xH D b τ) := by
  refine xM.of (lv := [some (.ref (b + 0)), some (.int (nI i)), some (.int (nI u)), some (.int g), none, none, none, none, none, none, none, none, none, none, none, none, none, none, none, none, none, none]) (by decide +kernel) rfl (List.forall_mem_cons.mpr ⟨rfl, List.forall_mem_cons.mpr ⟨rfl, List.forall_mem_cons.mpr ⟨rfl, List.forall_mem_cons.mpr ⟨rfl, fun _ h => absurd h List.not_mem_nil⟩⟩⟩⟩) (Nat.le_of_ble_eq_true rfl) rfl ?_
  intro p e s m args below meth c hC hr hnm
  have hu := hS.1.1.2
  have hw := hS.1.2.1.2
  obtain ⟨v, hv, hV⟩ := hS.1.2.2.1 i (by omega)
  obtain ⟨kp, hkp5, hkp⟩ := hS.1.2.2.2.1 v hv
  obtain ⟨a, ha5, hA⟩ := hS.1.2.2.2.2.2.2 i (by omega)
  obtain ⟨x, hx⟩ : ∃ x, al S u v i = x := ⟨_, rfl⟩
  refine xi_bipush (v := nI 8) hC dL_operates_0 (pc' := 2) rfl (by decide +kernel) ?_
  refine xn_L (k0 := k) (N := 8) hC dL_operates_2 (pc' := 4) rfl rfl (by omega) (by decide) rfl ⟨Nat.le_of_ble_eq_true rfl, Nat.le_of_ble_eq_true rfl⟩ ?_
  have hlσ1 : su σ k (zL 8) k 4096 = nI 8 := by rw [su_s]; exact zL_len
  have heσ1 : ∀ o, o ≠ k → su σ k (zL 8) o = σ o := fun o ho => su_n ho
  generalize su σ k (zL 8) = σ1 at hlσ1 heσ1 ⊢
  have hRσ1 := hR.hi (by omega) (fun o ho => heσ1 o (by omega))
  refine xi_astore (lv' := [some (.ref (b + 0)), some (.int (nI i)), some (.int (nI u)), some (.int g), some (.ref (b + k)), none, none, none, none, none, none, none, none, none, none, none, none, none, none, none, none, none]) hC dL_operates_4 (pc' := 6) rfl (by decide) rfl ?_
  refine xi_aload_n hC dL_operates_6 (pc' := 7) rfl rfl rfl ?_
  refine xi_iload_n hC dL_operates_7 (pc' := 8) rfl rfl rfl ?_
  refine xi_iconst (v := nI 1) hC dL_operates_8 (pc' := 9) rfl (by decide +kernel) ?_
  refine xi_callV (As := [.int (nI i), .int (nI 1)]) (rest := []) (c_X7_user l D b (b + (k + 1)) (σ := σ1) (S := S) (N := N) (u := u) (w := w) hS hRσ1 (by omega) (x := (nI i)) (y := (nI 1))) hC dL_operates_9 (pc' := 12) rfl xw_m_L_18 xw_c_X7_user xw_ins_X7_user xw_sel_X7_user xw_ini_X7 xd_X7_user (xH_at.trans (xsh_7 kd_0)) rfl ⟨Nat.le_of_ble_eq_true rfl, Nat.le_of_ble_eq_true rfl⟩ rfl (Nat.le_of_ble_eq_true rfl) ⟨Nat.le_of_ble_eq_true rfl, Nat.le_of_ble_eq_true rfl⟩ ?_
  rintro _ _ ⟨r2, rfl, hO3, rfl⟩
  obtain rfl : r2 = (nI a) := hO3 _ (su_1 (by omega) (by omega) hA)
  show xV _ _ _ _ _ _ _ _ _ _ _ _ _ _ _ _ _ (xH D b σ1) _ _ [.int (nI a)]
  refine xi_istore (lv' := [some (.ref (b + 0)), some (.int (nI i)), some (.int (nI u)), some (.int g), some (.ref (b + k)), some (.int (nI a)), none, none, none, none, none, none, none, none, none, none, none, none, none, none, none, none]) hC dL_operates_12 (pc' := 14) rfl (by decide) rfl ?_
  refine xi_aload_n hC dL_operates_14 (pc' := 15) rfl rfl rfl ?_
  refine xi_iload_n hC dL_operates_15 (pc' := 16) rfl rfl rfl ?_
  refine xi_iload_n hC dL_operates_16 (pc' := 17) rfl rfl rfl ?_
  refine xi_aload hC dL_operates_17 (pc' := 19) rfl rfl ?_
  refine xi_callS (As := [.ref (b + 0), .int (nI i), .int (nI u), .ref (b + k)]) (rest := []) (c_L_alarm l D b (k + 1) (σ := σ1) (S := S) (N := N) (u := u) (w := w) hS hRσ1 (by omega) (i := i) (v := v) (t := k) hi hv hV (by omega) (by omega) (by omega) hlσ1) hC dL_operates_19 (pc' := 22) rfl xw_m_L_32 xw_c_L_alarm xw_sta_L_alarm xw_ini_L xd_L_alarm ⟨Nat.le_of_ble_eq_true rfl, Nat.le_of_ble_eq_true rfl⟩ rfl (Nat.le_of_ble_eq_true rfl) ⟨Nat.le_of_ble_eq_true rfl, Nat.le_of_ble_eq_true rfl⟩ ?_
  rintro _ _ ⟨σ4, rfl, heσ4, hlσ4, hbσ4, rfl⟩
  have hRσ4 := hRσ1.hi (by omega) (fun o ho => heσ4 o (by omega) (by omega))
  show xV _ _ _ _ _ _ _ _ _ _ _ _ _ _ _ _ _ (xH D b σ4) _ _ [.int (nI (al S u v i))]
  refine xtop (y := nI x) (by rw [hx]) ?_
  refine xi_istore (lv' := [some (.ref (b + 0)), some (.int (nI i)), some (.int (nI u)), some (.int g), some (.ref (b + k)), some (.int (nI a)), some (.int (nI x)), none, none, none, none, none, none, none, none, none, none, none, none, none, none, none]) hC dL_operates_22 (pc' := 24) rfl (by decide) rfl ?_
  refine xi_aload_n hC dL_operates_24 (pc' := 25) rfl rfl rfl ?_
  refine xi_iload_n hC dL_operates_25 (pc' := 26) rfl rfl rfl ?_
  refine xi_iconst (v := nI 0) hC dL_operates_26 (pc' := 27) rfl (by decide +kernel) ?_
  refine xi_callV (As := [.int (nI i), .int (nI 0)]) (rest := []) (c_X7_user l D b (b + (k + 3)) (σ := σ4) (S := S) (N := N) (u := u) (w := w) hS hRσ4 (by omega) (x := (nI i)) (y := (nI 0))) hC dL_operates_27 (pc' := 30) rfl xw_m_L_18 xw_c_X7_user xw_ins_X7_user xw_sel_X7_user xw_ini_X7 xd_X7_user (xH_at.trans (xsh_7 kd_0)) rfl ⟨Nat.le_of_ble_eq_true rfl, Nat.le_of_ble_eq_true rfl⟩ rfl (Nat.le_of_ble_eq_true rfl) ⟨Nat.le_of_ble_eq_true rfl, Nat.le_of_ble_eq_true rfl⟩ ?_
  rintro _ _ ⟨r5, rfl, hO6, rfl⟩
  obtain rfl : r5 = (nI v) := hO6 _ (su_0 (by omega) (by omega) hV)
  show xV _ _ _ _ _ _ _ _ _ _ _ _ _ _ _ _ _ (xH D b σ4) _ _ [.int (nI v)]
  refine xi_istore (lv' := [some (.ref (b + 0)), some (.int (nI i)), some (.int (nI u)), some (.int g), some (.ref (b + k)), some (.int (nI a)), some (.int (nI x)), some (.int (nI v)), none, none, none, none, none, none, none, none, none, none, none, none, none, none]) hC dL_operates_30 (pc' := 32) rfl (by decide) rfl ?_
  have hx3 : x ≤ 3 := by rw [← hx]; exact al_3' S u v i
  have hcase : (a = 0 ∧ x = 0) ∨ (a = 0 ∧ x = 1) ∨ (a = 0 ∧ x = 2) ∨ (a = 0 ∧ x = 3) ∨ 0 < a := by omega
  rcases hcase with ⟨rfl, rfl⟩ | ⟨rfl, rfl⟩ | ⟨rfl, rfl⟩ | ⟨rfl, rfl⟩ | h0
  · skip
    refine xi_aload_n hC dL_operates_32 (pc' := 33) rfl rfl rfl ?_
    refine xi_iload_n hC dL_operates_33 (pc' := 34) rfl rfl rfl ?_
    refine xi_callV (As := [.int (nI i)]) (rest := []) (c_X7_check l D b (b + (k + 3)) (σ := σ4) (S := S) (N := N) (u := u) (w := w) hS hRσ4 (by omega) (x := (nI i))) hC dL_operates_34 (pc' := 37) rfl xw_m_L_36 xw_c_X7_check xw_ins_X7_check xw_sel_X7_check xw_ini_X7 xd_X7_check (xH_at.trans (xsh_7 kd_0)) rfl ⟨Nat.le_of_ble_eq_true rfl, Nat.le_of_ble_eq_true rfl⟩ rfl (Nat.le_of_ble_eq_true rfl) ⟨Nat.le_of_ble_eq_true rfl, Nat.le_of_ble_eq_true rfl⟩ ?_
    rintro _ _ ⟨r7, rfl, hO8, rfl⟩
    obtain rfl : r7 = (nI 0) := hO8 _ _ (sk_0 (by omega) (by omega) hA (by omega) hV hx)
    show xV _ _ _ _ _ _ _ _ _ _ _ _ _ _ _ _ _ (xH D b σ4) _ _ [.int (nI 0)]
    refine xi_istore (lv' := [some (.ref (b + 0)), some (.int (nI i)), some (.int (nI u)), some (.int g), some (.ref (b + k)), some (.int (nI 0)), some (.int (nI 0)), some (.int (nI v)), some (.int (nI 0)), none, none, none, none, none, none, none, none, none, none, none, none, none]) hC dL_operates_37 (pc' := 39) rfl (by decide) rfl ?_
    refine xi_aload_n hC dL_operates_39 (pc' := 40) rfl rfl rfl ?_
    refine xi_iload_n hC dL_operates_40 (pc' := 41) rfl rfl rfl ?_
    refine xi_iconst (v := nI 5) hC dL_operates_41 (pc' := 42) rfl (by decide +kernel) ?_
    refine xi_callV (As := [.int (nI i), .int (nI 5)]) (rest := []) (c_X7_user l D b (b + (k + 3)) (σ := σ4) (S := S) (N := N) (u := u) (w := w) hS hRσ4 (by omega) (x := (nI i)) (y := (nI 5))) hC dL_operates_42 (pc' := 45) rfl xw_m_L_18 xw_c_X7_user xw_ins_X7_user xw_sel_X7_user xw_ini_X7 xd_X7_user (xH_at.trans (xsh_7 kd_0)) rfl ⟨Nat.le_of_ble_eq_true rfl, Nat.le_of_ble_eq_true rfl⟩ rfl (Nat.le_of_ble_eq_true rfl) ⟨Nat.le_of_ble_eq_true rfl, Nat.le_of_ble_eq_true rfl⟩ ?_
    rintro _ _ ⟨r9, rfl, hO10, rfl⟩
    obtain rfl : r9 = (S m_shownTo i) := hO10 _ (su_5 (by omega) (by omega))
    show xV _ _ _ _ _ _ _ _ _ _ _ _ _ _ _ _ _ (xH D b σ4) _ _ [.int (S m_shownTo i)]
    refine xi_istore (lv' := [some (.ref (b + 0)), some (.int (nI i)), some (.int (nI u)), some (.int g), some (.ref (b + k)), some (.int (nI 0)), some (.int (nI 0)), some (.int (nI v)), some (.int (nI 0)), some (.int (S m_shownTo i)), none, none, none, none, none, none, none, none, none, none, none, none]) hC dL_operates_45 (pc' := 47) rfl (by decide) rfl ?_
    refine xi_aload_n hC dL_operates_47 (pc' := 48) rfl rfl rfl ?_
    refine xi_iload_n hC dL_operates_48 (pc' := 49) rfl rfl rfl ?_
    refine xi_bipush (v := nI 6) hC dL_operates_49 (pc' := 51) rfl (by decide +kernel) ?_
    refine xi_callV (As := [.int (nI i), .int (nI 6)]) (rest := []) (c_X7_user l D b (b + (k + 3)) (σ := σ4) (S := S) (N := N) (u := u) (w := w) hS hRσ4 (by omega) (x := (nI i)) (y := (nI 6))) hC dL_operates_51 (pc' := 54) rfl xw_m_L_18 xw_c_X7_user xw_ins_X7_user xw_sel_X7_user xw_ini_X7 xd_X7_user (xH_at.trans (xsh_7 kd_0)) rfl ⟨Nat.le_of_ble_eq_true rfl, Nat.le_of_ble_eq_true rfl⟩ rfl (Nat.le_of_ble_eq_true rfl) ⟨Nat.le_of_ble_eq_true rfl, Nat.le_of_ble_eq_true rfl⟩ ?_
    rintro _ _ ⟨r11, rfl, hO12, rfl⟩
    obtain rfl : r11 = (S m_sentBy i) := hO12 _ (su_6 (by omega) (by omega))
    show xV _ _ _ _ _ _ _ _ _ _ _ _ _ _ _ _ _ (xH D b σ4) _ _ [.int (S m_sentBy i)]
    refine xi_istore (lv' := [some (.ref (b + 0)), some (.int (nI i)), some (.int (nI u)), some (.int g), some (.ref (b + k)), some (.int (nI 0)), some (.int (nI 0)), some (.int (nI v)), some (.int (nI 0)), some (.int (S m_shownTo i)), some (.int (S m_sentBy i)), none, none, none, none, none, none, none, none, none, none, none]) hC dL_operates_54 (pc' := 56) rfl (by decide) rfl ?_
    refine xi_aload_n hC dL_operates_56 (pc' := 57) rfl rfl rfl ?_
    refine xi_iload_n hC dL_operates_57 (pc' := 58) rfl rfl rfl ?_
    refine xi_iconst (v := nI 4) hC dL_operates_58 (pc' := 59) rfl (by decide +kernel) ?_
    refine xi_callV (As := [.int (nI i), .int (nI 4)]) (rest := []) (c_X7_user l D b (b + (k + 3)) (σ := σ4) (S := S) (N := N) (u := u) (w := w) hS hRσ4 (by omega) (x := (nI i)) (y := (nI 4))) hC dL_operates_59 (pc' := 62) rfl xw_m_L_18 xw_c_X7_user xw_ins_X7_user xw_sel_X7_user xw_ini_X7 xd_X7_user (xH_at.trans (xsh_7 kd_0)) rfl ⟨Nat.le_of_ble_eq_true rfl, Nat.le_of_ble_eq_true rfl⟩ rfl (Nat.le_of_ble_eq_true rfl) ⟨Nat.le_of_ble_eq_true rfl, Nat.le_of_ble_eq_true rfl⟩ ?_
    rintro _ _ ⟨r13, rfl, hO14, rfl⟩
    obtain rfl : r13 = (S m_doneOf i) := hO14 _ (su_4 (by omega) (by omega))
    show xV _ _ _ _ _ _ _ _ _ _ _ _ _ _ _ _ _ (xH D b σ4) _ _ [.int (S m_doneOf i)]
    refine xi_istore (lv' := [some (.ref (b + 0)), some (.int (nI i)), some (.int (nI u)), some (.int g), some (.ref (b + k)), some (.int (nI 0)), some (.int (nI 0)), some (.int (nI v)), some (.int (nI 0)), some (.int (S m_shownTo i)), some (.int (S m_sentBy i)), some (.int (S m_doneOf i)), none, none, none, none, none, none, none, none, none, none]) hC dL_operates_62 (pc' := 64) rfl (by decide) rfl ?_
    refine xi_aload_n hC dL_operates_64 (pc' := 65) rfl rfl rfl ?_
    refine xi_iconst (v := nI 4) hC dL_operates_65 (pc' := 66) rfl (by decide +kernel) ?_
    refine xi_callV (As := [.int (nI 4)]) (rest := []) (c_X7_count l D b (b + (k + 3)) (σ := σ4) (S := S) (N := N) (u := u) (w := w) hS hRσ4 (by omega) (x := (nI 4))) hC dL_operates_66 (pc' := 69) rfl xw_m_L_40 xw_c_X7_count xw_ins_X7_count xw_sel_X7_count xw_ini_X7 xd_X7_count (xH_at.trans (xsh_7 kd_0)) rfl ⟨Nat.le_of_ble_eq_true rfl, Nat.le_of_ble_eq_true rfl⟩ rfl (Nat.le_of_ble_eq_true rfl) ⟨Nat.le_of_ble_eq_true rfl, Nat.le_of_ble_eq_true rfl⟩ ?_
    rintro _ _ ⟨r15, rfl, hO16, rfl⟩
    obtain rfl : r15 = (S oMod 2) := hO16 _ (sc_4)
    show xV _ _ _ _ _ _ _ _ _ _ _ _ _ _ _ _ _ (xH D b σ4) _ _ [.int (S oMod 2)]
    refine xi_istore (lv' := [some (.ref (b + 0)), some (.int (nI i)), some (.int (nI u)), some (.int g), some (.ref (b + k)), some (.int (nI 0)), some (.int (nI 0)), some (.int (nI v)), some (.int (nI 0)), some (.int (S m_shownTo i)), some (.int (S m_sentBy i)), some (.int (S m_doneOf i)), some (.int (S oMod 2)), none, none, none, none, none, none, none, none, none]) hC dL_operates_69 (pc' := 71) rfl (by decide) rfl ?_
    refine xi_aload_n hC dL_operates_71 (pc' := 72) rfl rfl rfl ?_
    refine xi_iload hC dL_operates_72 (pc' := 74) rfl rfl ?_
    refine xi_iconst (v := nI 1) hC dL_operates_74 (pc' := 75) rfl (by decide +kernel) ?_
    refine xi_callV (As := [.int (nI v), .int (nI 1)]) (rest := []) (c_X7_view l D b (b + (k + 3)) (σ := σ4) (S := S) (N := N) (u := u) (w := w) hS hRσ4 (by omega) (x := (nI v)) (y := (nI 1))) hC dL_operates_75 (pc' := 78) rfl xw_m_L_43 xw_c_X7_view xw_ins_X7_view xw_sel_X7_view xw_ini_X7 xd_X7_view (xH_at.trans (xsh_7 kd_0)) rfl ⟨Nat.le_of_ble_eq_true rfl, Nat.le_of_ble_eq_true rfl⟩ rfl (Nat.le_of_ble_eq_true rfl) ⟨Nat.le_of_ble_eq_true rfl, Nat.le_of_ble_eq_true rfl⟩ ?_
    rintro _ _ ⟨r17, rfl, hO18, rfl⟩
    obtain rfl : r17 = (nI kp) := hO18 _ _ (sw_1 hv (by omega) hkp)
    show xV _ _ _ _ _ _ _ _ _ _ _ _ _ _ _ _ _ (xH D b σ4) _ _ [.int (nI kp)]
    refine xi_istore (lv' := [some (.ref (b + 0)), some (.int (nI i)), some (.int (nI u)), some (.int g), some (.ref (b + k)), some (.int (nI 0)), some (.int (nI 0)), some (.int (nI v)), some (.int (nI 0)), some (.int (S m_shownTo i)), some (.int (S m_sentBy i)), some (.int (S m_doneOf i)), some (.int (S oMod 2)), some (.int (nI kp)), none, none, none, none, none, none, none, none]) hC dL_operates_78 (pc' := 80) rfl (by decide) rfl ?_
    refine xi_iload_n hC dL_operates_80 (pc' := 81) rfl rfl rfl ?_
    refine xi_iconst (v := nI 1) hC dL_operates_81 (pc' := 82) rfl (by decide +kernel) ?_
    refine xi_iand hC dL_operates_82 (pc' := 83) rfl ?_
    refine xi_ifne (tgt := 90) hC dL_operates_83 (pc' := 86) rfl (by decide) (fun zc83 => ?_) (fun zc83 => ?_)
    · skip
      refine xi_iconst (v := nI 0) hC dL_operates_90 (pc' := 91) rfl (by decide +kernel) ?_
      refine xi_istore (lv' := [some (.ref (b + 0)), some (.int (nI i)), some (.int (nI u)), some (.int g), some (.ref (b + k)), some (.int (nI 0)), some (.int (nI 0)), some (.int (nI v)), some (.int (nI 0)), some (.int (S m_shownTo i)), some (.int (S m_sentBy i)), some (.int (S m_doneOf i)), some (.int (S oMod 2)), some (.int (nI kp)), some (.int (nI 0)), none, none, none, none, none, none, none]) hC dL_operates_91 (pc' := 93) rfl (by decide) rfl ?_
      refine xi_iload_n hC dL_operates_93 (pc' := 94) rfl rfl rfl ?_
      refine xi_iconst (v := nI 1) hC dL_operates_94 (pc' := 95) rfl (by decide +kernel) ?_
      refine xi_ishr hC dL_operates_95 (pc' := 96) rfl ?_
      refine xi_iload_n hC dL_operates_96 (pc' := 97) rfl rfl rfl ?_
      refine xi_callS (As := [.int (g >>> ((nI 1) &&& 31)), .int (nI u)]) (rest := []) (c_L_low l D b (b + (k + 3)) (h := (xH D b σ4)) (x := (g >>> ((nI 1) &&& 31))) (k := u) (by omega) (by omega)) hC dL_operates_97 (pc' := 100) rfl xw_m_L_46 xw_c_L_low xw_sta_L_low xw_ini_L xd_L_low ⟨Nat.le_of_ble_eq_true rfl, Nat.le_of_ble_eq_true rfl⟩ rfl (Nat.le_of_ble_eq_true rfl) ⟨Nat.le_of_ble_eq_true rfl, Nat.le_of_ble_eq_true rfl⟩ ?_
      rintro _ _ ⟨⟨j19, hj19, rfl⟩, rfl⟩
      show xV _ _ _ _ _ _ _ _ _ _ _ _ _ _ _ _ _ (xH D b σ4) _ _ [.int (nI j19)]
      refine xi_istore (lv' := [some (.ref (b + 0)), some (.int (nI i)), some (.int (nI u)), some (.int g), some (.ref (b + k)), some (.int (nI 0)), some (.int (nI 0)), some (.int (nI v)), some (.int (nI 0)), some (.int (S m_shownTo i)), some (.int (S m_sentBy i)), some (.int (S m_doneOf i)), some (.int (S oMod 2)), some (.int (nI kp)), some (.int (nI 0)), some (.int (nI j19)), none, none, none, none, none, none]) hC dL_operates_100 (pc' := 102) rfl (by decide) rfl ?_
      refine xi_iload_n hC dL_operates_102 (pc' := 103) rfl rfl rfl ?_
      refine xi_iconst (v := nI 4) hC dL_operates_103 (pc' := 104) rfl (by decide +kernel) ?_
      refine xi_ishr hC dL_operates_104 (pc' := 105) rfl ?_
      refine xi_sipush (v := nI 2001) hC dL_operates_105 (pc' := 108) rfl (by decide +kernel) ?_
      refine xi_callS (As := [.int (g >>> ((nI 4) &&& 31)), .int (nI 2001)]) (rest := []) (c_L_low l D b (b + (k + 3)) (h := (xH D b σ4)) (x := (g >>> ((nI 4) &&& 31))) (k := 2001) (by omega) (by omega)) hC dL_operates_108 (pc' := 111) rfl xw_m_L_46 xw_c_L_low xw_sta_L_low xw_ini_L xd_L_low ⟨Nat.le_of_ble_eq_true rfl, Nat.le_of_ble_eq_true rfl⟩ rfl (Nat.le_of_ble_eq_true rfl) ⟨Nat.le_of_ble_eq_true rfl, Nat.le_of_ble_eq_true rfl⟩ ?_
      rintro _ _ ⟨⟨j20, hj20, rfl⟩, rfl⟩
      show xV _ _ _ _ _ _ _ _ _ _ _ _ _ _ _ _ _ (xH D b σ4) _ _ [.int (nI j20)]
      refine xi_sipush (v := nI 1000) hC dL_operates_111 (pc' := 114) rfl (by decide +kernel) ?_
      refine xi_isub hC dL_operates_114 (pc' := 115) rfl ?_
      refine xi_istore (lv' := [some (.ref (b + 0)), some (.int (nI i)), some (.int (nI u)), some (.int g), some (.ref (b + k)), some (.int (nI 0)), some (.int (nI 0)), some (.int (nI v)), some (.int (nI 0)), some (.int (S m_shownTo i)), some (.int (S m_sentBy i)), some (.int (S m_doneOf i)), some (.int (S oMod 2)), some (.int (nI kp)), some (.int (nI 0)), some (.int (nI j19)), some (.int ((nI j20) - (nI 1000))), none, none, none, none, none]) hC dL_operates_115 (pc' := 117) rfl (by decide) rfl ?_
      refine xi_aload_n hC dL_operates_117 (pc' := 118) rfl rfl rfl ?_
      refine xi_iload hC dL_operates_118 (pc' := 120) rfl rfl ?_
      refine xi_iload hC dL_operates_120 (pc' := 122) rfl rfl ?_
      refine xi_callV (As := [.int (nI v), .int (nI j19)]) (rest := []) (c_X7_content l D b (b + (k + 3)) (σ := σ4) (S := S) (N := N) (u := u) (w := w) hS hRσ4 (by omega) (x := (nI v)) (y := (nI j19))) hC dL_operates_122 (pc' := 125) rfl xw_m_L_49 xw_c_X7_content xw_ins_X7_content xw_sel_X7_content xw_ini_X7 xd_X7_content (xH_at.trans (xsh_7 kd_0)) rfl ⟨Nat.le_of_ble_eq_true rfl, Nat.le_of_ble_eq_true rfl⟩ rfl (Nat.le_of_ble_eq_true rfl) ⟨Nat.le_of_ble_eq_true rfl, Nat.le_of_ble_eq_true rfl⟩ ?_
      rintro _ _ ⟨r21, rfl, hO22, rfl⟩
      obtain rfl : r21 = (cV S v j19) := hO22 _ (so_1 hv (by omega) (by omega) (by omega))
      show xV _ _ _ _ _ _ _ _ _ _ _ _ _ _ _ _ _ (xH D b σ4) _ _ [.int (cV S v j19)]
      refine xi_istore (lv' := [some (.ref (b + 0)), some (.int (nI i)), some (.int (nI u)), some (.int g), some (.ref (b + k)), some (.int (nI 0)), some (.int (nI 0)), some (.int (nI v)), some (.int (nI 0)), some (.int (S m_shownTo i)), some (.int (S m_sentBy i)), some (.int (S m_doneOf i)), some (.int (S oMod 2)), some (.int (nI kp)), some (.int (nI 0)), some (.int (nI j19)), some (.int ((nI j20) - (nI 1000))), some (.int (cV S v j19)), none, none, none, none]) hC dL_operates_125 (pc' := 127) rfl (by decide) rfl ?_
      refine xi_aload_n hC dL_operates_127 (pc' := 128) rfl rfl rfl ?_
      refine xi_iload_n hC dL_operates_128 (pc' := 129) rfl rfl rfl ?_
      refine xi_callV (As := [.int (nI i)]) (rest := []) (c_X7_lastRead l D b (b + (k + 3)) (σ := σ4) (S := S) (N := N) (u := u) (w := w) hS hRσ4 (by omega) (x := (nI i))) hC dL_operates_129 (pc' := 132) rfl xw_m_L_52 xw_c_X7_lastRead xw_ins_X7_lastRead xw_sel_X7_lastRead xw_ini_X7 xd_X7_lastRead (xH_at.trans (xsh_7 kd_0)) rfl ⟨Nat.le_of_ble_eq_true rfl, Nat.le_of_ble_eq_true rfl⟩ rfl (Nat.le_of_ble_eq_true rfl) ⟨Nat.le_of_ble_eq_true rfl, Nat.le_of_ble_eq_true rfl⟩ ?_
      rintro _ _ ⟨r23, rfl, hO24, rfl⟩
      obtain rfl : r23 = (lastV S i) := hO24 _ (sl_1 (by omega) (by omega))
      show xV _ _ _ _ _ _ _ _ _ _ _ _ _ _ _ _ _ (xH D b σ4) _ _ [.int (lastV S i)]
      refine xi_istore (lv' := [some (.ref (b + 0)), some (.int (nI i)), some (.int (nI u)), some (.int g), some (.ref (b + k)), some (.int (nI 0)), some (.int (nI 0)), some (.int (nI v)), some (.int (nI 0)), some (.int (S m_shownTo i)), some (.int (S m_sentBy i)), some (.int (S m_doneOf i)), some (.int (S oMod 2)), some (.int (nI kp)), some (.int (nI 0)), some (.int (nI j19)), some (.int ((nI j20) - (nI 1000))), some (.int (cV S v j19)), some (.int (lastV S i)), none, none, none]) hC dL_operates_132 (pc' := 134) rfl (by decide) rfl ?_
      refine xi_iload hC dL_operates_134 (pc' := 136) rfl rfl ?_
      refine xn_ifeq (tgt := 149) hC dL_operates_136 (pc' := 139) rfl (by decide) (by omega) (fun zc136 => ?_) (fun zc136 => ?_)
      · skip
        refine xi_aload_n hC dL_operates_149 (pc' := 150) rfl rfl rfl ?_
        refine xi_iload_n hC dL_operates_150 (pc' := 151) rfl rfl rfl ?_
        refine xi_iload hC dL_operates_151 (pc' := 153) rfl rfl ?_
        refine xi_callV (As := [.int (nI i), .int (nI j19)]) (rest := []) (c_X7_read l D b (b + (k + 3)) (σ := σ4) (S := S) (N := N) (u := u) (w := w) hS hRσ4 (by omega) (x := (nI i)) (y := (nI j19))) hC dL_operates_153 (pc' := 156) rfl xw_m_L_58 xw_c_X7_read xw_ins_X7_read xw_sel_X7_read xw_ini_X7 xd_X7_read (xH_at.trans (xsh_7 kd_0)) rfl ⟨Nat.le_of_ble_eq_true rfl, Nat.le_of_ble_eq_true rfl⟩ rfl (Nat.le_of_ble_eq_true rfl) ⟨Nat.le_of_ble_eq_true rfl, Nat.le_of_ble_eq_true rfl⟩ ?_
        rintro _ _ ⟨r25, σ26, rfl, hHσ26, hO28, rfl⟩
        obtain ⟨rT27, T27, hZT27⟩ := ex_read (S := S) (u := u) (w := w) (x := nI i) (y := (nI j19)) hS.1
        obtain ⟨eT27, hRσ26⟩ := hO28 rT27 T27 hZT27
        have hST27 := SI_read hS hZT27
        have hJT27 := (JJ_read hS.1 hJ hZT27).up (Nat.le_succ N)
        obtain ⟨e2T27, ⟨f5, f1, f6, f4, fc, fk, f0, fv⟩, hct, hlt⟩ := r_ok hZT27 hi hj19 (by omega) hA (by omega) hV hkp5 hkp hx
        obtain rfl : r25 = nI 0 := eT27.trans e2T27
        have hlσ26_k : σ26 k 4096 = nI 8 := by rw [hHσ26 k (by omega)]; exact hlσ4
        have hfσ26_k : ∀ zz, zz < u → σ26 k zz = (rV S v (bst S u v)) zz := fun q hq => by rw [hHσ26 k (by omega)]; exact (hbσ4 hx) q hq
        show xV _ _ _ _ _ _ _ _ _ _ _ _ _ _ _ _ _ (xH D b σ26) _ _ [.int (nI 0)]
        refine xi_istore (lv' := [some (.ref (b + 0)), some (.int (nI i)), some (.int (nI u)), some (.int g), some (.ref (b + k)), some (.int (nI 0)), some (.int (nI 0)), some (.int (nI v)), some (.int (nI 0)), some (.int (S m_shownTo i)), some (.int (S m_sentBy i)), some (.int (S m_doneOf i)), some (.int (S oMod 2)), some (.int (nI kp)), some (.int (nI 0)), some (.int (nI j19)), some (.int ((nI j20) - (nI 1000))), some (.int (cV S v j19)), some (.int (lastV S i)), some (.int (nI 0)), none, none]) hC dL_operates_156 (pc' := 158) rfl (by decide) rfl ?_
        refine xi_iload hC dL_operates_158 (pc' := 160) rfl rfl ?_
        refine xn_ifle (tgt := 207) hC dL_operates_160 (pc' := 163) rfl (by decide) (by omega) (fun zc160 => ?_) (fun zc160 => ?_)
        · skip
          refine xi_iload hC dL_operates_207 (pc' := 209) rfl rfl ?_
          refine xi_iload hC dL_operates_209 (pc' := 211) rfl rfl ?_
          refine xn_icmpne (tgt := 247) hC dL_operates_211 (pc' := 214) rfl (by decide) (by omega) (by omega) (fun zc211 => ?_) (fun zc211 => ?_)
          · exact absurd zc211 (by decide)
          · skip
            refine xi_iload hC dL_operates_214 (pc' := 216) rfl rfl ?_
            refine xi_iload hC dL_operates_216 (pc' := 218) rfl rfl ?_
            refine xn_icmpne (tgt := 247) hC dL_operates_218 (pc' := 221) rfl (by decide) (by omega) (by omega) (fun zc218 => ?_) (fun zc218 => ?_)
            · exact absurd zc218 (by decide)
            · skip
              refine xi_aload_n hC dL_operates_221 (pc' := 222) rfl rfl rfl ?_
              refine xi_iload_n hC dL_operates_222 (pc' := 223) rfl rfl rfl ?_
              refine xi_iconst (v := nI 5) hC dL_operates_223 (pc' := 224) rfl (by decide +kernel) ?_
              refine xi_callV (As := [.int (nI i), .int (nI 5)]) (rest := []) (c_X7_user l D b (b + (k + 3)) (σ := σ26) (S := T27) (N := (N + 1)) (u := u) (w := w) hST27 hRσ26 (by omega) (x := (nI i)) (y := (nI 5))) hC dL_operates_224 (pc' := 227) rfl xw_m_L_18 xw_c_X7_user xw_ins_X7_user xw_sel_X7_user xw_ini_X7 xd_X7_user (xH_at.trans (xsh_7 kd_0)) rfl ⟨Nat.le_of_ble_eq_true rfl, Nat.le_of_ble_eq_true rfl⟩ rfl (Nat.le_of_ble_eq_true rfl) ⟨Nat.le_of_ble_eq_true rfl, Nat.le_of_ble_eq_true rfl⟩ ?_
              rintro _ _ ⟨r29, rfl, hO30, rfl⟩
              obtain rfl : r29 = ((S m_shownTo i) + (nI (u * u))) := (hO30 _ (su_5 (by omega) (by omega))).trans (f5)
              show xV _ _ _ _ _ _ _ _ _ _ _ _ _ _ _ _ _ (xH D b σ26) _ _ [.int ((S m_shownTo i) + (nI (u * u)))]
              refine xi_iload hC dL_operates_227 (pc' := 229) rfl rfl ?_
              refine xi_iload_n hC dL_operates_229 (pc' := 230) rfl rfl rfl ?_
              refine xi_iload_n hC dL_operates_230 (pc' := 231) rfl rfl rfl ?_
              refine xn_imul hC dL_operates_231 (pc' := 232) rfl ?_
              refine xi_iadd hC dL_operates_232 (pc' := 233) rfl ?_
              refine xi_icmpne (tgt := 247) hC dL_operates_233 (pc' := 236) rfl (by decide) (fun zc233 => ?_) (fun zc233 => ?_)
              · exact absurd rfl zc233
              · skip
                refine xi_aload_n hC dL_operates_236 (pc' := 237) rfl rfl rfl ?_
                refine xi_iload_n hC dL_operates_237 (pc' := 238) rfl rfl rfl ?_
                refine xi_iconst (v := nI 1) hC dL_operates_238 (pc' := 239) rfl (by decide +kernel) ?_
                refine xi_callV (As := [.int (nI i), .int (nI 1)]) (rest := []) (c_X7_user l D b (b + (k + 3)) (σ := σ26) (S := T27) (N := (N + 1)) (u := u) (w := w) hST27 hRσ26 (by omega) (x := (nI i)) (y := (nI 1))) hC dL_operates_239 (pc' := 242) rfl xw_m_L_18 xw_c_X7_user xw_ins_X7_user xw_sel_X7_user xw_ini_X7 xd_X7_user (xH_at.trans (xsh_7 kd_0)) rfl ⟨Nat.le_of_ble_eq_true rfl, Nat.le_of_ble_eq_true rfl⟩ rfl (Nat.le_of_ble_eq_true rfl) ⟨Nat.le_of_ble_eq_true rfl, Nat.le_of_ble_eq_true rfl⟩ ?_
                rintro _ _ ⟨r31, rfl, hO32, rfl⟩
                obtain rfl : r31 = (nI 0) := hO32 _ (su_1 (by omega) (by omega) f1)
                show xV _ _ _ _ _ _ _ _ _ _ _ _ _ _ _ _ _ (xH D b σ26) _ _ [.int (nI 0)]
                refine xi_iload hC dL_operates_242 (pc' := 244) rfl rfl ?_
                refine xn_icmpeq (tgt := 249) hC dL_operates_244 (pc' := 247) rfl (by decide) (by omega) (by omega) (fun zc244 => ?_) (fun zc244 => ?_)
                · skip
                  refine xi_iload hC dL_operates_249 (pc' := 251) rfl rfl ?_
                  refine xn_ifle (tgt := 354) hC dL_operates_251 (pc' := 254) rfl (by decide) (by omega) (fun zc251 => ?_) (fun zc251 => ?_)
                  · skip
                    refine xi_iconst (v := nI 0) hC dL_operates_354 (pc' := 355) rfl (by decide +kernel) ?_
                    refine xi_istore (lv' := [some (.ref (b + 0)), some (.int (nI i)), some (.int (nI u)), some (.int g), some (.ref (b + k)), some (.int (nI 0)), some (.int (nI 0)), some (.int (nI v)), some (.int (nI 0)), some (.int (S m_shownTo i)), some (.int (S m_sentBy i)), some (.int (S m_doneOf i)), some (.int (S oMod 2)), some (.int (nI kp)), some (.int (nI 0)), some (.int (nI j19)), some (.int ((nI j20) - (nI 1000))), some (.int (cV S v j19)), some (.int (lastV S i)), some (.int (nI 0)), some (.int (nI 0)), none]) hC dL_operates_355 (pc' := 357) rfl (by decide) rfl ?_
                    have L357 : ∀ (d : Nat) (j : Nat) (o21 : Option Value), u - j < d → (j ≤ u) → xV p l e (xR 5 116 3 24) s m args below meth c D b 22 3 24 (MQ below (xQ D b (b + (k + 3)) (fun y' h' => ∃ τ T : XM, y' = some (.int (nI 1)) ∧ SI (N + 1) T u w ∧ RR τ T u w ∧ JJ (N + 1) T u ∧ h' = xH D b τ)) args s 3 24 (fun q => b ≤ q)) (b + (k + 3)) (xH D b σ26) 357 [some (.ref (b + 0)), some (.int (nI i)), some (.int (nI u)), some (.int g), some (.ref (b + k)), some (.int (nI 0)), some (.int (nI 0)), some (.int (nI v)), some (.int (nI 0)), some (.int (S m_shownTo i)), some (.int (S m_sentBy i)), some (.int (S m_doneOf i)), some (.int (S oMod 2)), some (.int (nI kp)), some (.int (nI 0)), some (.int (nI j19)), some (.int ((nI j20) - (nI 1000))), some (.int (cV S v j19)), some (.int (lastV S i)), some (.int (nI 0)), some (.int (nI j)), o21] [] := by
                      intro d
                      induction d with
                      | zero => intro j o21 h; exact absurd h (Nat.not_lt_zero _)
                      | succ d ih357 =>
                        intro j o21 hd357 hj1
                        refine xi_iload hC dL_operates_357 (pc' := 359) rfl rfl ?_
                        refine xi_iload_n hC dL_operates_359 (pc' := 360) rfl rfl rfl ?_
                        refine xn_icmpge (tgt := 430) hC dL_operates_360 (pc' := 363) rfl (by decide) (by omega) (by omega) (fun zc360 => ?_) (fun zc360 => ?_)
                        · skip
                          refine xi_iload hC dL_operates_430 (pc' := 432) rfl rfl ?_
                          refine xn_ifeq (tgt := 465) hC dL_operates_432 (pc' := 435) rfl (by decide) (by omega) (fun zc432 => ?_) (fun zc432 => ?_)
                          · skip
                            refine xi_aload_n hC dL_operates_465 (pc' := 466) rfl rfl rfl ?_
                            refine xi_iload_n hC dL_operates_466 (pc' := 467) rfl rfl rfl ?_
                            refine xi_callV (As := [.int (nI i)]) (rest := []) (c_X7_lastRead l D b (b + (k + 3)) (σ := σ26) (S := T27) (N := (N + 1)) (u := u) (w := w) hST27 hRσ26 (by omega) (x := (nI i))) hC dL_operates_467 (pc' := 470) rfl xw_m_L_52 xw_c_X7_lastRead xw_ins_X7_lastRead xw_sel_X7_lastRead xw_ini_X7 xd_X7_lastRead (xH_at.trans (xsh_7 kd_0)) rfl ⟨Nat.le_of_ble_eq_true rfl, Nat.le_of_ble_eq_true rfl⟩ rfl (Nat.le_of_ble_eq_true rfl) ⟨Nat.le_of_ble_eq_true rfl, Nat.le_of_ble_eq_true rfl⟩ ?_
                            rintro _ _ ⟨r33, rfl, hO34, rfl⟩
                            obtain rfl : r33 = (cV S v j19) := (hO34 _ (sl_1 (by omega) (by omega))).trans (hlt)
                            show xV _ _ _ _ _ _ _ _ _ _ _ _ _ _ _ _ _ (xH D b σ26) _ _ [.int (cV S v j19)]
                            refine xi_iload hC dL_operates_470 (pc' := 472) rfl rfl ?_
                            refine xi_icmpne (tgt := 492) hC dL_operates_472 (pc' := 475) rfl (by decide) (fun zc472 => ?_) (fun zc472 => ?_)
                            · exact absurd rfl zc472
                            · skip
                              refine xi_aload_n hC dL_operates_475 (pc' := 476) rfl rfl rfl ?_
                              refine xi_iload hC dL_operates_476 (pc' := 478) rfl rfl ?_
                              refine xi_iload hC dL_operates_478 (pc' := 480) rfl rfl ?_
                              refine xi_callV (As := [.int (nI v), .int (nI j19)]) (rest := []) (c_X7_content l D b (b + (k + 3)) (σ := σ26) (S := T27) (N := (N + 1)) (u := u) (w := w) hST27 hRσ26 (by omega) (x := (nI v)) (y := (nI j19))) hC dL_operates_480 (pc' := 483) rfl xw_m_L_49 xw_c_X7_content xw_ins_X7_content xw_sel_X7_content xw_ini_X7 xd_X7_content (xH_at.trans (xsh_7 kd_0)) rfl ⟨Nat.le_of_ble_eq_true rfl, Nat.le_of_ble_eq_true rfl⟩ rfl (Nat.le_of_ble_eq_true rfl) ⟨Nat.le_of_ble_eq_true rfl, Nat.le_of_ble_eq_true rfl⟩ ?_
                              rintro _ _ ⟨r35, rfl, hO36, rfl⟩
                              obtain rfl : r35 = (cV S v j19) := (hO36 _ (so_1 hv (by omega) (by omega) (by omega))).trans (hct)
                              show xV _ _ _ _ _ _ _ _ _ _ _ _ _ _ _ _ _ (xH D b σ26) _ _ [.int (cV S v j19)]
                              refine xi_iload hC dL_operates_483 (pc' := 485) rfl rfl ?_
                              refine xi_icmpne (tgt := 492) hC dL_operates_485 (pc' := 488) rfl (by decide) (fun zc485 => ?_) (fun zc485 => ?_)
                              · exact absurd rfl zc485
                              · skip
                                refine xi_iconst (v := nI 1) hC dL_operates_488 (pc' := 489) rfl (by decide +kernel) ?_
                                refine xi_goto (tgt := 493) hC dL_operates_489 (by decide) ?_
                                refine xi_istore (lv' := [some (.ref (b + 0)), some (.int (nI i)), some (.int (nI u)), some (.int g), some (.ref (b + k)), some (.int (nI 0)), some (.int (nI 0)), some (.int (nI v)), some (.int (nI 0)), some (.int (S m_shownTo i)), some (.int (S m_sentBy i)), some (.int (S m_doneOf i)), some (.int (S oMod 2)), some (.int (nI kp)), some (.int (nI 0)), some (.int (nI j19)), some (.int ((nI j20) - (nI 1000))), some (.int (cV S v j19)), some (.int (lastV S i)), some (.int (nI 0)), some (.int (nI 1)), o21]) hC dL_operates_493 (pc' := 495) rfl (by decide) rfl ?_
                                refine xi_iload hC dL_operates_495 (pc' := 497) rfl rfl ?_
                                refine xn_ifeq (tgt := 567) hC dL_operates_497 (pc' := 500) rfl (by decide) (by omega) (fun zc497 => ?_) (fun zc497 => ?_)
                                · exact absurd zc497 (by decide)
                                · skip
                                  refine xi_aload_n hC dL_operates_500 (pc' := 501) rfl rfl rfl ?_
                                  refine xi_iload_n hC dL_operates_501 (pc' := 502) rfl rfl rfl ?_
                                  refine xi_bipush (v := nI 6) hC dL_operates_502 (pc' := 504) rfl (by decide +kernel) ?_
                                  refine xi_callV (As := [.int (nI i), .int (nI 6)]) (rest := []) (c_X7_user l D b (b + (k + 3)) (σ := σ26) (S := T27) (N := (N + 1)) (u := u) (w := w) hST27 hRσ26 (by omega) (x := (nI i)) (y := (nI 6))) hC dL_operates_504 (pc' := 507) rfl xw_m_L_18 xw_c_X7_user xw_ins_X7_user xw_sel_X7_user xw_ini_X7 xd_X7_user (xH_at.trans (xsh_7 kd_0)) rfl ⟨Nat.le_of_ble_eq_true rfl, Nat.le_of_ble_eq_true rfl⟩ rfl (Nat.le_of_ble_eq_true rfl) ⟨Nat.le_of_ble_eq_true rfl, Nat.le_of_ble_eq_true rfl⟩ ?_
                                  rintro _ _ ⟨r37, rfl, hO38, rfl⟩
                                  obtain rfl : r37 = ((S m_sentBy i) + (nI u)) := (hO38 _ (su_6 (by omega) (by omega))).trans (f6)
                                  show xV _ _ _ _ _ _ _ _ _ _ _ _ _ _ _ _ _ (xH D b σ26) _ _ [.int ((S m_sentBy i) + (nI u))]
                                  refine xi_iload hC dL_operates_507 (pc' := 509) rfl rfl ?_
                                  refine xi_iload_n hC dL_operates_509 (pc' := 510) rfl rfl rfl ?_
                                  refine xi_iadd hC dL_operates_510 (pc' := 511) rfl ?_
                                  refine xi_icmpne (tgt := 567) hC dL_operates_511 (pc' := 514) rfl (by decide) (fun zc511 => ?_) (fun zc511 => ?_)
                                  · exact absurd rfl zc511
                                  · skip
                                    refine xi_aload_n hC dL_operates_514 (pc' := 515) rfl rfl rfl ?_
                                    refine xi_iload_n hC dL_operates_515 (pc' := 516) rfl rfl rfl ?_
                                    refine xi_iconst (v := nI 4) hC dL_operates_516 (pc' := 517) rfl (by decide +kernel) ?_
                                    refine xi_callV (As := [.int (nI i), .int (nI 4)]) (rest := []) (c_X7_user l D b (b + (k + 3)) (σ := σ26) (S := T27) (N := (N + 1)) (u := u) (w := w) hST27 hRσ26 (by omega) (x := (nI i)) (y := (nI 4))) hC dL_operates_517 (pc' := 520) rfl xw_m_L_18 xw_c_X7_user xw_ins_X7_user xw_sel_X7_user xw_ini_X7 xd_X7_user (xH_at.trans (xsh_7 kd_0)) rfl ⟨Nat.le_of_ble_eq_true rfl, Nat.le_of_ble_eq_true rfl⟩ rfl (Nat.le_of_ble_eq_true rfl) ⟨Nat.le_of_ble_eq_true rfl, Nat.le_of_ble_eq_true rfl⟩ ?_
                                    rintro _ _ ⟨r39, rfl, hO40, rfl⟩
                                    obtain rfl : r39 = ((S m_doneOf i) + (nI 1)) := (hO40 _ (su_4 (by omega) (by omega))).trans (f4)
                                    show xV _ _ _ _ _ _ _ _ _ _ _ _ _ _ _ _ _ (xH D b σ26) _ _ [.int ((S m_doneOf i) + (nI 1))]
                                    refine xi_iload hC dL_operates_520 (pc' := 522) rfl rfl ?_
                                    refine xi_iconst (v := nI 1) hC dL_operates_522 (pc' := 523) rfl (by decide +kernel) ?_
                                    refine xi_iadd hC dL_operates_523 (pc' := 524) rfl ?_
                                    refine xi_icmpne (tgt := 567) hC dL_operates_524 (pc' := 527) rfl (by decide) (fun zc524 => ?_) (fun zc524 => ?_)
                                    · exact absurd rfl zc524
                                    · skip
                                      refine xi_aload_n hC dL_operates_527 (pc' := 528) rfl rfl rfl ?_
                                      refine xi_iconst (v := nI 4) hC dL_operates_528 (pc' := 529) rfl (by decide +kernel) ?_
                                      refine xi_callV (As := [.int (nI 4)]) (rest := []) (c_X7_count l D b (b + (k + 3)) (σ := σ26) (S := T27) (N := (N + 1)) (u := u) (w := w) hST27 hRσ26 (by omega) (x := (nI 4))) hC dL_operates_529 (pc' := 532) rfl xw_m_L_40 xw_c_X7_count xw_ins_X7_count xw_sel_X7_count xw_ini_X7 xd_X7_count (xH_at.trans (xsh_7 kd_0)) rfl ⟨Nat.le_of_ble_eq_true rfl, Nat.le_of_ble_eq_true rfl⟩ rfl (Nat.le_of_ble_eq_true rfl) ⟨Nat.le_of_ble_eq_true rfl, Nat.le_of_ble_eq_true rfl⟩ ?_
                                      rintro _ _ ⟨r41, rfl, hO42, rfl⟩
                                      obtain rfl : r41 = ((S oMod 2) + (nI 1)) := (hO42 _ (sc_4)).trans (fc)
                                      show xV _ _ _ _ _ _ _ _ _ _ _ _ _ _ _ _ _ (xH D b σ26) _ _ [.int ((S oMod 2) + (nI 1))]
                                      refine xi_iload hC dL_operates_532 (pc' := 534) rfl rfl ?_
                                      refine xi_iconst (v := nI 1) hC dL_operates_534 (pc' := 535) rfl (by decide +kernel) ?_
                                      refine xi_iadd hC dL_operates_535 (pc' := 536) rfl ?_
                                      refine xi_icmpne (tgt := 567) hC dL_operates_536 (pc' := 539) rfl (by decide) (fun zc536 => ?_) (fun zc536 => ?_)
                                      · exact absurd rfl zc536
                                      · skip
                                        refine xi_aload_n hC dL_operates_539 (pc' := 540) rfl rfl rfl ?_
                                        refine xi_iload hC dL_operates_540 (pc' := 542) rfl rfl ?_
                                        refine xi_iconst (v := nI 1) hC dL_operates_542 (pc' := 543) rfl (by decide +kernel) ?_
                                        refine xi_callV (As := [.int (nI v), .int (nI 1)]) (rest := []) (c_X7_view l D b (b + (k + 3)) (σ := σ26) (S := T27) (N := (N + 1)) (u := u) (w := w) hST27 hRσ26 (by omega) (x := (nI v)) (y := (nI 1))) hC dL_operates_543 (pc' := 546) rfl xw_m_L_43 xw_c_X7_view xw_ins_X7_view xw_sel_X7_view xw_ini_X7 xd_X7_view (xH_at.trans (xsh_7 kd_0)) rfl ⟨Nat.le_of_ble_eq_true rfl, Nat.le_of_ble_eq_true rfl⟩ rfl (Nat.le_of_ble_eq_true rfl) ⟨Nat.le_of_ble_eq_true rfl, Nat.le_of_ble_eq_true rfl⟩ ?_
                                        rintro _ _ ⟨r43, rfl, hO44, rfl⟩
                                        obtain rfl : r43 = (nI (min (kp + 1) 5)) := hO44 _ _ (sw_1 hv (by omega) fk)
                                        show xV _ _ _ _ _ _ _ _ _ _ _ _ _ _ _ _ _ (xH D b σ26) _ _ [.int (nI (min (kp + 1) 5))]
                                        refine xi_iload hC dL_operates_546 (pc' := 548) rfl rfl ?_
                                        refine xi_iconst (v := nI 5) hC dL_operates_548 (pc' := 549) rfl (by decide +kernel) ?_
                                        refine xn_icmpge (tgt := 559) hC dL_operates_549 (pc' := 552) rfl (by decide) (by omega) (by omega) (fun zc549 => ?_) (fun zc549 => ?_)
                                        · skip
                                          refine xi_iconst (v := nI 5) hC dL_operates_559 (pc' := 560) rfl (by decide +kernel) ?_
                                          refine xn_icmpne (tgt := 567) hC dL_operates_560 (pc' := 563) rfl (by decide) (by omega) (by omega) (fun zc560 => ?_) (fun zc560 => ?_)
                                          · exact absurd (by omega) zc560
                                          · skip
                                            refine xi_iconst (v := nI 1) hC dL_operates_563 (pc' := 564) rfl (by decide +kernel) ?_
                                            refine xi_goto (tgt := 568) hC dL_operates_564 (by decide) ?_
                                            refine xb_ireturn hC dL_operates_568 hr (by decide) rfl ?_
                                            exact ⟨σ26, T27, rfl, hST27, hRσ26, hJT27, rfl⟩
                                        · skip
                                          refine xi_iload hC dL_operates_552 (pc' := 554) rfl rfl ?_
                                          refine xi_iconst (v := nI 1) hC dL_operates_554 (pc' := 555) rfl (by decide +kernel) ?_
                                          refine xn_iadd hC dL_operates_555 (pc' := 556) rfl ?_
                                          refine xi_goto (tgt := 560) hC dL_operates_556 (by decide) ?_
                                          refine xn_icmpne (tgt := 567) hC dL_operates_560 (pc' := 563) rfl (by decide) (by omega) (by omega) (fun zc560 => ?_) (fun zc560 => ?_)
                                          · exact absurd (by omega) zc560
                                          · skip
                                            refine xi_iconst (v := nI 1) hC dL_operates_563 (pc' := 564) rfl (by decide +kernel) ?_
                                            refine xi_goto (tgt := 568) hC dL_operates_564 (by decide) ?_
                                            refine xb_ireturn hC dL_operates_568 hr (by decide) rfl ?_
                                            exact ⟨σ26, T27, rfl, hST27, hRσ26, hJT27, rfl⟩
                          · exact absurd zc432 (by decide)
                        · skip
                          refine xi_aload hC dL_operates_363 (pc' := 365) rfl rfl ?_
                          refine xi_iload hC dL_operates_365 (pc' := 367) rfl rfl ?_
                          refine xl_L hC dL_operates_367 (pc' := 368) rfl (by omega) (by decide : (8 : Nat) = 8 ∨ (8 : Nat) = 36) hlσ26_k rfl (by omega) ?_
                          refine xtop (y := (rV S v (bst S u v) j)) (hfσ26_k j (by omega)) ?_
                          refine xi_iload hC dL_operates_368 (pc' := 370) rfl rfl ?_
                          refine xi_iload_n hC dL_operates_370 (pc' := 371) rfl rfl rfl ?_
                          refine xn_icmpne (tgt := 378) hC dL_operates_371 (pc' := 374) rfl (by decide) (by omega) (by omega) (fun zc371 => ?_) (fun zc371 => ?_)
                          · skip
                            refine xi_iconst (v := nI 0) hC dL_operates_378 (pc' := 379) rfl (by decide +kernel) ?_
                            refine xi_iadd hC dL_operates_379 (pc' := 380) rfl ?_
                            refine xi_istore (lv' := [some (.ref (b + 0)), some (.int (nI i)), some (.int (nI u)), some (.int g), some (.ref (b + k)), some (.int (nI 0)), some (.int (nI 0)), some (.int (nI v)), some (.int (nI 0)), some (.int (S m_shownTo i)), some (.int (S m_sentBy i)), some (.int (S m_doneOf i)), some (.int (S oMod 2)), some (.int (nI kp)), some (.int (nI 0)), some (.int (nI j19)), some (.int ((nI j20) - (nI 1000))), some (.int (cV S v j19)), some (.int (lastV S i)), some (.int (nI 0)), some (.int (nI j)), some (.int ((rV S v (bst S u v) j) + (nI 0)))]) hC dL_operates_380 (pc' := 382) rfl (by decide) rfl ?_
                            refine xi_aload_n hC dL_operates_382 (pc' := 383) rfl rfl rfl ?_
                            refine xi_iload_n hC dL_operates_383 (pc' := 384) rfl rfl rfl ?_
                            refine xi_iconst (v := nI 0) hC dL_operates_384 (pc' := 385) rfl (by decide +kernel) ?_
                            refine xi_iload hC dL_operates_385 (pc' := 387) rfl rfl ?_
                            refine xi_callV (As := [.int (nI i), .int (nI 0), .int (nI j)]) (rest := []) (c_X7_vector l D b (b + (k + 3)) (σ := σ26) (S := T27) (N := (N + 1)) (u := u) (w := w) hST27 hRσ26 (by omega) (x := (nI i)) (y := (nI 0)) (z := (nI j))) hC dL_operates_387 (pc' := 390) rfl xw_m_L_9 xw_c_X7_vector xw_ins_X7_vector xw_sel_X7_vector xw_ini_X7 xd_X7_vector (xH_at.trans (xsh_7 kd_0)) rfl ⟨Nat.le_of_ble_eq_true rfl, Nat.le_of_ble_eq_true rfl⟩ rfl (Nat.le_of_ble_eq_true rfl) ⟨Nat.le_of_ble_eq_true rfl, Nat.le_of_ble_eq_true rfl⟩ ?_
                            rintro _ _ ⟨r45, rfl, hO46, rfl⟩
                            obtain rfl : r45 = ((rV S v (bst S u v) j) + (nI 0)) := (hO46 _ (sv_0 (by omega) (by omega) (by omega))).trans ((fv j (by omega)).1.trans (oU_row.trans (by rw [if_neg zc371])))
                            show xV _ _ _ _ _ _ _ _ _ _ _ _ _ _ _ _ _ (xH D b σ26) _ _ [.int ((rV S v (bst S u v) j) + (nI 0))]
                            refine xi_iload hC dL_operates_390 (pc' := 392) rfl rfl ?_
                            refine xi_icmpne (tgt := 422) hC dL_operates_392 (pc' := 395) rfl (by decide) (fun zc392 => ?_) (fun zc392 => ?_)
                            · exact absurd rfl zc392
                            · skip
                              refine xi_aload_n hC dL_operates_395 (pc' := 396) rfl rfl rfl ?_
                              refine xi_iload_n hC dL_operates_396 (pc' := 397) rfl rfl rfl ?_
                              refine xi_iconst (v := nI 1) hC dL_operates_397 (pc' := 398) rfl (by decide +kernel) ?_
                              refine xi_iload hC dL_operates_398 (pc' := 400) rfl rfl ?_
                              refine xi_callV (As := [.int (nI i), .int (nI 1), .int (nI j)]) (rest := []) (c_X7_vector l D b (b + (k + 3)) (σ := σ26) (S := T27) (N := (N + 1)) (u := u) (w := w) hST27 hRσ26 (by omega) (x := (nI i)) (y := (nI 1)) (z := (nI j))) hC dL_operates_400 (pc' := 403) rfl xw_m_L_9 xw_c_X7_vector xw_ins_X7_vector xw_sel_X7_vector xw_ini_X7 xd_X7_vector (xH_at.trans (xsh_7 kd_0)) rfl ⟨Nat.le_of_ble_eq_true rfl, Nat.le_of_ble_eq_true rfl⟩ rfl (Nat.le_of_ble_eq_true rfl) ⟨Nat.le_of_ble_eq_true rfl, Nat.le_of_ble_eq_true rfl⟩ ?_
                              rintro _ _ ⟨r47, rfl, hO48, rfl⟩
                              obtain rfl : r47 = ((rV S v (bst S u v) j) + (nI 0)) := (hO48 _ (sv_1 (by omega) (by omega) (by omega))).trans ((fv j (by omega)).2.1.trans (oU_row.trans (by rw [if_neg zc371])))
                              show xV _ _ _ _ _ _ _ _ _ _ _ _ _ _ _ _ _ (xH D b σ26) _ _ [.int ((rV S v (bst S u v) j) + (nI 0))]
                              refine xi_iload hC dL_operates_403 (pc' := 405) rfl rfl ?_
                              refine xi_icmpne (tgt := 422) hC dL_operates_405 (pc' := 408) rfl (by decide) (fun zc405 => ?_) (fun zc405 => ?_)
                              · exact absurd rfl zc405
                              · skip
                                refine xi_aload_n hC dL_operates_408 (pc' := 409) rfl rfl rfl ?_
                                refine xi_iload hC dL_operates_409 (pc' := 411) rfl rfl ?_
                                refine xi_iload_n hC dL_operates_411 (pc' := 412) rfl rfl rfl ?_
                                refine xi_iload hC dL_operates_412 (pc' := 414) rfl rfl ?_
                                refine xi_callV (As := [.int (nI v), .int (nI i), .int (nI j)]) (rest := []) (c_X7_entry l D b (b + (k + 3)) (σ := σ26) (S := T27) (N := (N + 1)) (u := u) (w := w) hST27 hRσ26 (by omega) (x := (nI v)) (y := (nI i)) (z := (nI j))) hC dL_operates_414 (pc' := 417) rfl xw_m_L_15 xw_c_X7_entry xw_ins_X7_entry xw_sel_X7_entry xw_ini_X7 xd_X7_entry (xH_at.trans (xsh_7 kd_0)) rfl ⟨Nat.le_of_ble_eq_true rfl, Nat.le_of_ble_eq_true rfl⟩ rfl (Nat.le_of_ble_eq_true rfl) ⟨Nat.le_of_ble_eq_true rfl, Nat.le_of_ble_eq_true rfl⟩ ?_
                                rintro _ _ ⟨r49, rfl, hO50, rfl⟩
                                obtain rfl : r49 = ((rV S v (bst S u v) j) + (nI 0)) := (hO50 _ (se_1 hv (by omega) (by omega) (by omega) (by omega))).trans ((fv j (by omega)).2.2.trans (oU_row.trans (by rw [if_neg zc371])))
                                show xV _ _ _ _ _ _ _ _ _ _ _ _ _ _ _ _ _ (xH D b σ26) _ _ [.int ((rV S v (bst S u v) j) + (nI 0))]
                                refine xi_iload hC dL_operates_417 (pc' := 419) rfl rfl ?_
                                refine xi_icmpeq (tgt := 424) hC dL_operates_419 (pc' := 422) rfl (by decide) (fun zc419 => ?_) (fun zc419 => ?_)
                                · skip
                                  refine xn_iinc (lv' := [some (.ref (b + 0)), some (.int (nI i)), some (.int (nI u)), some (.int g), some (.ref (b + k)), some (.int (nI 0)), some (.int (nI 0)), some (.int (nI v)), some (.int (nI 0)), some (.int (S m_shownTo i)), some (.int (S m_sentBy i)), some (.int (S m_doneOf i)), some (.int (S oMod 2)), some (.int (nI kp)), some (.int (nI 0)), some (.int (nI j19)), some (.int ((nI j20) - (nI 1000))), some (.int (cV S v j19)), some (.int (lastV S i)), some (.int (nI 0)), some (.int (nI (j + 1))), some (.int ((rV S v (bst S u v) j) + (nI 0)))]) hC dL_operates_424 (pc' := 427) rfl rfl (by decide) rfl ?_
                                  refine xi_goto (tgt := 357) hC dL_operates_427 (by decide) ?_
                                  refine ih357 _ _ (by omega) ?_
                                  · omega
                                · exact absurd rfl zc419
                          · skip
                            refine xi_iconst (v := nI 1) hC dL_operates_374 (pc' := 375) rfl (by decide +kernel) ?_
                            refine xi_goto (tgt := 379) hC dL_operates_375 (by decide) ?_
                            refine xi_iadd hC dL_operates_379 (pc' := 380) rfl ?_
                            refine xi_istore (lv' := [some (.ref (b + 0)), some (.int (nI i)), some (.int (nI u)), some (.int g), some (.ref (b + k)), some (.int (nI 0)), some (.int (nI 0)), some (.int (nI v)), some (.int (nI 0)), some (.int (S m_shownTo i)), some (.int (S m_sentBy i)), some (.int (S m_doneOf i)), some (.int (S oMod 2)), some (.int (nI kp)), some (.int (nI 0)), some (.int (nI j19)), some (.int ((nI j20) - (nI 1000))), some (.int (cV S v j19)), some (.int (lastV S i)), some (.int (nI 0)), some (.int (nI j)), some (.int ((rV S v (bst S u v) j) + (nI 1)))]) hC dL_operates_380 (pc' := 382) rfl (by decide) rfl ?_
                            refine xi_aload_n hC dL_operates_382 (pc' := 383) rfl rfl rfl ?_
                            refine xi_iload_n hC dL_operates_383 (pc' := 384) rfl rfl rfl ?_
                            refine xi_iconst (v := nI 0) hC dL_operates_384 (pc' := 385) rfl (by decide +kernel) ?_
                            refine xi_iload hC dL_operates_385 (pc' := 387) rfl rfl ?_
                            refine xi_callV (As := [.int (nI i), .int (nI 0), .int (nI j)]) (rest := []) (c_X7_vector l D b (b + (k + 3)) (σ := σ26) (S := T27) (N := (N + 1)) (u := u) (w := w) hST27 hRσ26 (by omega) (x := (nI i)) (y := (nI 0)) (z := (nI j))) hC dL_operates_387 (pc' := 390) rfl xw_m_L_9 xw_c_X7_vector xw_ins_X7_vector xw_sel_X7_vector xw_ini_X7 xd_X7_vector (xH_at.trans (xsh_7 kd_0)) rfl ⟨Nat.le_of_ble_eq_true rfl, Nat.le_of_ble_eq_true rfl⟩ rfl (Nat.le_of_ble_eq_true rfl) ⟨Nat.le_of_ble_eq_true rfl, Nat.le_of_ble_eq_true rfl⟩ ?_
                            rintro _ _ ⟨r51, rfl, hO52, rfl⟩
                            obtain rfl : r51 = ((rV S v (bst S u v) j) + (nI 1)) := (hO52 _ (sv_0 (by omega) (by omega) (by omega))).trans ((fv j (by omega)).1.trans (oU_row.trans (by rw [if_pos zc371])))
                            show xV _ _ _ _ _ _ _ _ _ _ _ _ _ _ _ _ _ (xH D b σ26) _ _ [.int ((rV S v (bst S u v) j) + (nI 1))]
                            refine xi_iload hC dL_operates_390 (pc' := 392) rfl rfl ?_
                            refine xi_icmpne (tgt := 422) hC dL_operates_392 (pc' := 395) rfl (by decide) (fun zc392 => ?_) (fun zc392 => ?_)
                            · exact absurd rfl zc392
                            · skip
                              refine xi_aload_n hC dL_operates_395 (pc' := 396) rfl rfl rfl ?_
                              refine xi_iload_n hC dL_operates_396 (pc' := 397) rfl rfl rfl ?_
                              refine xi_iconst (v := nI 1) hC dL_operates_397 (pc' := 398) rfl (by decide +kernel) ?_
                              refine xi_iload hC dL_operates_398 (pc' := 400) rfl rfl ?_
                              refine xi_callV (As := [.int (nI i), .int (nI 1), .int (nI j)]) (rest := []) (c_X7_vector l D b (b + (k + 3)) (σ := σ26) (S := T27) (N := (N + 1)) (u := u) (w := w) hST27 hRσ26 (by omega) (x := (nI i)) (y := (nI 1)) (z := (nI j))) hC dL_operates_400 (pc' := 403) rfl xw_m_L_9 xw_c_X7_vector xw_ins_X7_vector xw_sel_X7_vector xw_ini_X7 xd_X7_vector (xH_at.trans (xsh_7 kd_0)) rfl ⟨Nat.le_of_ble_eq_true rfl, Nat.le_of_ble_eq_true rfl⟩ rfl (Nat.le_of_ble_eq_true rfl) ⟨Nat.le_of_ble_eq_true rfl, Nat.le_of_ble_eq_true rfl⟩ ?_
                              rintro _ _ ⟨r53, rfl, hO54, rfl⟩
                              obtain rfl : r53 = ((rV S v (bst S u v) j) + (nI 1)) := (hO54 _ (sv_1 (by omega) (by omega) (by omega))).trans ((fv j (by omega)).2.1.trans (oU_row.trans (by rw [if_pos zc371])))
                              show xV _ _ _ _ _ _ _ _ _ _ _ _ _ _ _ _ _ (xH D b σ26) _ _ [.int ((rV S v (bst S u v) j) + (nI 1))]
                              refine xi_iload hC dL_operates_403 (pc' := 405) rfl rfl ?_
                              refine xi_icmpne (tgt := 422) hC dL_operates_405 (pc' := 408) rfl (by decide) (fun zc405 => ?_) (fun zc405 => ?_)
                              · exact absurd rfl zc405
                              · skip
                                refine xi_aload_n hC dL_operates_408 (pc' := 409) rfl rfl rfl ?_
                                refine xi_iload hC dL_operates_409 (pc' := 411) rfl rfl ?_
                                refine xi_iload_n hC dL_operates_411 (pc' := 412) rfl rfl rfl ?_
                                refine xi_iload hC dL_operates_412 (pc' := 414) rfl rfl ?_
                                refine xi_callV (As := [.int (nI v), .int (nI i), .int (nI j)]) (rest := []) (c_X7_entry l D b (b + (k + 3)) (σ := σ26) (S := T27) (N := (N + 1)) (u := u) (w := w) hST27 hRσ26 (by omega) (x := (nI v)) (y := (nI i)) (z := (nI j))) hC dL_operates_414 (pc' := 417) rfl xw_m_L_15 xw_c_X7_entry xw_ins_X7_entry xw_sel_X7_entry xw_ini_X7 xd_X7_entry (xH_at.trans (xsh_7 kd_0)) rfl ⟨Nat.le_of_ble_eq_true rfl, Nat.le_of_ble_eq_true rfl⟩ rfl (Nat.le_of_ble_eq_true rfl) ⟨Nat.le_of_ble_eq_true rfl, Nat.le_of_ble_eq_true rfl⟩ ?_
                                rintro _ _ ⟨r55, rfl, hO56, rfl⟩
                                obtain rfl : r55 = ((rV S v (bst S u v) j) + (nI 1)) := (hO56 _ (se_1 hv (by omega) (by omega) (by omega) (by omega))).trans ((fv j (by omega)).2.2.trans (oU_row.trans (by rw [if_pos zc371])))
                                show xV _ _ _ _ _ _ _ _ _ _ _ _ _ _ _ _ _ (xH D b σ26) _ _ [.int ((rV S v (bst S u v) j) + (nI 1))]
                                refine xi_iload hC dL_operates_417 (pc' := 419) rfl rfl ?_
                                refine xi_icmpeq (tgt := 424) hC dL_operates_419 (pc' := 422) rfl (by decide) (fun zc419 => ?_) (fun zc419 => ?_)
                                · skip
                                  refine xn_iinc (lv' := [some (.ref (b + 0)), some (.int (nI i)), some (.int (nI u)), some (.int g), some (.ref (b + k)), some (.int (nI 0)), some (.int (nI 0)), some (.int (nI v)), some (.int (nI 0)), some (.int (S m_shownTo i)), some (.int (S m_sentBy i)), some (.int (S m_doneOf i)), some (.int (S oMod 2)), some (.int (nI kp)), some (.int (nI 0)), some (.int (nI j19)), some (.int ((nI j20) - (nI 1000))), some (.int (cV S v j19)), some (.int (lastV S i)), some (.int (nI 0)), some (.int (nI (j + 1))), some (.int ((rV S v (bst S u v) j) + (nI 1)))]) hC dL_operates_424 (pc' := 427) rfl rfl (by decide) rfl ?_
                                  refine xi_goto (tgt := 357) hC dL_operates_427 (by decide) ?_
                                  refine ih357 _ _ (by omega) ?_
                                  · omega
                                · exact absurd rfl zc419
                    refine L357 _ _ _ (Nat.lt_succ_self _) ?_
                    · omega
                  · first | exact zc251.elim | exact absurd zc251 (by decide)
                · exact absurd zc244 (by decide)
        · first | exact zc160.elim | exact absurd zc160 (by decide)
      · exact absurd zc136 (by decide)
    · skip
      refine xi_iconst (v := nI 1) hC dL_operates_86 (pc' := 87) rfl (by decide +kernel) ?_
      refine xi_goto (tgt := 91) hC dL_operates_87 (by decide) ?_
      refine xi_istore (lv' := [some (.ref (b + 0)), some (.int (nI i)), some (.int (nI u)), some (.int g), some (.ref (b + k)), some (.int (nI 0)), some (.int (nI 0)), some (.int (nI v)), some (.int (nI 0)), some (.int (S m_shownTo i)), some (.int (S m_sentBy i)), some (.int (S m_doneOf i)), some (.int (S oMod 2)), some (.int (nI kp)), some (.int (nI 1)), none, none, none, none, none, none, none]) hC dL_operates_91 (pc' := 93) rfl (by decide) rfl ?_
      refine xi_iload_n hC dL_operates_93 (pc' := 94) rfl rfl rfl ?_
      refine xi_iconst (v := nI 1) hC dL_operates_94 (pc' := 95) rfl (by decide +kernel) ?_
      refine xi_ishr hC dL_operates_95 (pc' := 96) rfl ?_
      refine xi_iload_n hC dL_operates_96 (pc' := 97) rfl rfl rfl ?_
      refine xi_callS (As := [.int (g >>> ((nI 1) &&& 31)), .int (nI u)]) (rest := []) (c_L_low l D b (b + (k + 3)) (h := (xH D b σ4)) (x := (g >>> ((nI 1) &&& 31))) (k := u) (by omega) (by omega)) hC dL_operates_97 (pc' := 100) rfl xw_m_L_46 xw_c_L_low xw_sta_L_low xw_ini_L xd_L_low ⟨Nat.le_of_ble_eq_true rfl, Nat.le_of_ble_eq_true rfl⟩ rfl (Nat.le_of_ble_eq_true rfl) ⟨Nat.le_of_ble_eq_true rfl, Nat.le_of_ble_eq_true rfl⟩ ?_
      rintro _ _ ⟨⟨j57, hj57, rfl⟩, rfl⟩
      show xV _ _ _ _ _ _ _ _ _ _ _ _ _ _ _ _ _ (xH D b σ4) _ _ [.int (nI j57)]
      refine xi_istore (lv' := [some (.ref (b + 0)), some (.int (nI i)), some (.int (nI u)), some (.int g), some (.ref (b + k)), some (.int (nI 0)), some (.int (nI 0)), some (.int (nI v)), some (.int (nI 0)), some (.int (S m_shownTo i)), some (.int (S m_sentBy i)), some (.int (S m_doneOf i)), some (.int (S oMod 2)), some (.int (nI kp)), some (.int (nI 1)), some (.int (nI j57)), none, none, none, none, none, none]) hC dL_operates_100 (pc' := 102) rfl (by decide) rfl ?_
      refine xi_iload_n hC dL_operates_102 (pc' := 103) rfl rfl rfl ?_
      refine xi_iconst (v := nI 4) hC dL_operates_103 (pc' := 104) rfl (by decide +kernel) ?_
      refine xi_ishr hC dL_operates_104 (pc' := 105) rfl ?_
      refine xi_sipush (v := nI 2001) hC dL_operates_105 (pc' := 108) rfl (by decide +kernel) ?_
      refine xi_callS (As := [.int (g >>> ((nI 4) &&& 31)), .int (nI 2001)]) (rest := []) (c_L_low l D b (b + (k + 3)) (h := (xH D b σ4)) (x := (g >>> ((nI 4) &&& 31))) (k := 2001) (by omega) (by omega)) hC dL_operates_108 (pc' := 111) rfl xw_m_L_46 xw_c_L_low xw_sta_L_low xw_ini_L xd_L_low ⟨Nat.le_of_ble_eq_true rfl, Nat.le_of_ble_eq_true rfl⟩ rfl (Nat.le_of_ble_eq_true rfl) ⟨Nat.le_of_ble_eq_true rfl, Nat.le_of_ble_eq_true rfl⟩ ?_
      rintro _ _ ⟨⟨j58, hj58, rfl⟩, rfl⟩
      show xV _ _ _ _ _ _ _ _ _ _ _ _ _ _ _ _ _ (xH D b σ4) _ _ [.int (nI j58)]
      refine xi_sipush (v := nI 1000) hC dL_operates_111 (pc' := 114) rfl (by decide +kernel) ?_
      refine xi_isub hC dL_operates_114 (pc' := 115) rfl ?_
      refine xi_istore (lv' := [some (.ref (b + 0)), some (.int (nI i)), some (.int (nI u)), some (.int g), some (.ref (b + k)), some (.int (nI 0)), some (.int (nI 0)), some (.int (nI v)), some (.int (nI 0)), some (.int (S m_shownTo i)), some (.int (S m_sentBy i)), some (.int (S m_doneOf i)), some (.int (S oMod 2)), some (.int (nI kp)), some (.int (nI 1)), some (.int (nI j57)), some (.int ((nI j58) - (nI 1000))), none, none, none, none, none]) hC dL_operates_115 (pc' := 117) rfl (by decide) rfl ?_
      refine xi_aload_n hC dL_operates_117 (pc' := 118) rfl rfl rfl ?_
      refine xi_iload hC dL_operates_118 (pc' := 120) rfl rfl ?_
      refine xi_iload hC dL_operates_120 (pc' := 122) rfl rfl ?_
      refine xi_callV (As := [.int (nI v), .int (nI j57)]) (rest := []) (c_X7_content l D b (b + (k + 3)) (σ := σ4) (S := S) (N := N) (u := u) (w := w) hS hRσ4 (by omega) (x := (nI v)) (y := (nI j57))) hC dL_operates_122 (pc' := 125) rfl xw_m_L_49 xw_c_X7_content xw_ins_X7_content xw_sel_X7_content xw_ini_X7 xd_X7_content (xH_at.trans (xsh_7 kd_0)) rfl ⟨Nat.le_of_ble_eq_true rfl, Nat.le_of_ble_eq_true rfl⟩ rfl (Nat.le_of_ble_eq_true rfl) ⟨Nat.le_of_ble_eq_true rfl, Nat.le_of_ble_eq_true rfl⟩ ?_
      rintro _ _ ⟨r59, rfl, hO60, rfl⟩
      obtain rfl : r59 = (cV S v j57) := hO60 _ (so_1 hv (by omega) (by omega) (by omega))
      show xV _ _ _ _ _ _ _ _ _ _ _ _ _ _ _ _ _ (xH D b σ4) _ _ [.int (cV S v j57)]
      refine xi_istore (lv' := [some (.ref (b + 0)), some (.int (nI i)), some (.int (nI u)), some (.int g), some (.ref (b + k)), some (.int (nI 0)), some (.int (nI 0)), some (.int (nI v)), some (.int (nI 0)), some (.int (S m_shownTo i)), some (.int (S m_sentBy i)), some (.int (S m_doneOf i)), some (.int (S oMod 2)), some (.int (nI kp)), some (.int (nI 1)), some (.int (nI j57)), some (.int ((nI j58) - (nI 1000))), some (.int (cV S v j57)), none, none, none, none]) hC dL_operates_125 (pc' := 127) rfl (by decide) rfl ?_
      refine xi_aload_n hC dL_operates_127 (pc' := 128) rfl rfl rfl ?_
      refine xi_iload_n hC dL_operates_128 (pc' := 129) rfl rfl rfl ?_
      refine xi_callV (As := [.int (nI i)]) (rest := []) (c_X7_lastRead l D b (b + (k + 3)) (σ := σ4) (S := S) (N := N) (u := u) (w := w) hS hRσ4 (by omega) (x := (nI i))) hC dL_operates_129 (pc' := 132) rfl xw_m_L_52 xw_c_X7_lastRead xw_ins_X7_lastRead xw_sel_X7_lastRead xw_ini_X7 xd_X7_lastRead (xH_at.trans (xsh_7 kd_0)) rfl ⟨Nat.le_of_ble_eq_true rfl, Nat.le_of_ble_eq_true rfl⟩ rfl (Nat.le_of_ble_eq_true rfl) ⟨Nat.le_of_ble_eq_true rfl, Nat.le_of_ble_eq_true rfl⟩ ?_
      rintro _ _ ⟨r61, rfl, hO62, rfl⟩
      obtain rfl : r61 = (lastV S i) := hO62 _ (sl_1 (by omega) (by omega))
      show xV _ _ _ _ _ _ _ _ _ _ _ _ _ _ _ _ _ (xH D b σ4) _ _ [.int (lastV S i)]
      refine xi_istore (lv' := [some (.ref (b + 0)), some (.int (nI i)), some (.int (nI u)), some (.int g), some (.ref (b + k)), some (.int (nI 0)), some (.int (nI 0)), some (.int (nI v)), some (.int (nI 0)), some (.int (S m_shownTo i)), some (.int (S m_sentBy i)), some (.int (S m_doneOf i)), some (.int (S oMod 2)), some (.int (nI kp)), some (.int (nI 1)), some (.int (nI j57)), some (.int ((nI j58) - (nI 1000))), some (.int (cV S v j57)), some (.int (lastV S i)), none, none, none]) hC dL_operates_132 (pc' := 134) rfl (by decide) rfl ?_
      refine xi_iload hC dL_operates_134 (pc' := 136) rfl rfl ?_
      refine xn_ifeq (tgt := 149) hC dL_operates_136 (pc' := 139) rfl (by decide) (by omega) (fun zc136 => ?_) (fun zc136 => ?_)
      · exact absurd zc136 (by decide)
      · skip
        refine xi_aload_n hC dL_operates_139 (pc' := 140) rfl rfl rfl ?_
        refine xi_iload_n hC dL_operates_140 (pc' := 141) rfl rfl rfl ?_
        refine xi_iload hC dL_operates_141 (pc' := 143) rfl rfl ?_
        refine xi_callV (As := [.int (nI i), .int ((nI j58) - (nI 1000))]) (rest := []) (c_X7_write l D b (b + (k + 3)) (σ := σ4) (S := S) (N := N) (u := u) (w := w) hS hRσ4 (by omega) (x := (nI i)) (y := ((nI j58) - (nI 1000)))) hC dL_operates_143 (pc' := 146) rfl xw_m_L_55 xw_c_X7_write xw_ins_X7_write xw_sel_X7_write xw_ini_X7 xd_X7_write (xH_at.trans (xsh_7 kd_0)) rfl ⟨Nat.le_of_ble_eq_true rfl, Nat.le_of_ble_eq_true rfl⟩ rfl (Nat.le_of_ble_eq_true rfl) ⟨Nat.le_of_ble_eq_true rfl, Nat.le_of_ble_eq_true rfl⟩ ?_
        rintro _ _ ⟨r63, σ64, rfl, hHσ64, hO66, rfl⟩
        obtain ⟨rT65, T65, hZT65⟩ := ex_write (S := S) (u := u) (w := w) (x := nI i) (y := ((nI j58) - (nI 1000))) hS.1
        obtain ⟨eT65, hRσ64⟩ := hO66 rT65 T65 hZT65
        have hST65 := SI_write hS hZT65
        have hJT65 := (JJ_write hS.1 hJ hZT65).up (Nat.le_succ N)
        obtain ⟨e2T65, ⟨f5, f1, f6, f4, fc, fk, f0, fv⟩, hct, hlt⟩ := w_ok hZT65 hi (by omega) (low_inR hj58) hA (by omega) hV hkp5 hkp hx
        obtain rfl : r63 = nI 0 := eT65.trans e2T65
        have hlσ64_k : σ64 k 4096 = nI 8 := by rw [hHσ64 k (by omega)]; exact hlσ4
        have hfσ64_k : ∀ zz, zz < u → σ64 k zz = (rV S v (bst S u v)) zz := fun q hq => by rw [hHσ64 k (by omega)]; exact (hbσ4 hx) q hq
        show xV _ _ _ _ _ _ _ _ _ _ _ _ _ _ _ _ _ (xH D b σ64) _ _ [.int (nI 0)]
        refine xi_goto (tgt := 156) hC dL_operates_146 (by decide) ?_
        refine xi_istore (lv' := [some (.ref (b + 0)), some (.int (nI i)), some (.int (nI u)), some (.int g), some (.ref (b + k)), some (.int (nI 0)), some (.int (nI 0)), some (.int (nI v)), some (.int (nI 0)), some (.int (S m_shownTo i)), some (.int (S m_sentBy i)), some (.int (S m_doneOf i)), some (.int (S oMod 2)), some (.int (nI kp)), some (.int (nI 1)), some (.int (nI j57)), some (.int ((nI j58) - (nI 1000))), some (.int (cV S v j57)), some (.int (lastV S i)), some (.int (nI 0)), none, none]) hC dL_operates_156 (pc' := 158) rfl (by decide) rfl ?_
        refine xi_iload hC dL_operates_158 (pc' := 160) rfl rfl ?_
        refine xn_ifle (tgt := 207) hC dL_operates_160 (pc' := 163) rfl (by decide) (by omega) (fun zc160 => ?_) (fun zc160 => ?_)
        · skip
          refine xi_iload hC dL_operates_207 (pc' := 209) rfl rfl ?_
          refine xi_iload hC dL_operates_209 (pc' := 211) rfl rfl ?_
          refine xn_icmpne (tgt := 247) hC dL_operates_211 (pc' := 214) rfl (by decide) (by omega) (by omega) (fun zc211 => ?_) (fun zc211 => ?_)
          · exact absurd zc211 (by decide)
          · skip
            refine xi_iload hC dL_operates_214 (pc' := 216) rfl rfl ?_
            refine xi_iload hC dL_operates_216 (pc' := 218) rfl rfl ?_
            refine xn_icmpne (tgt := 247) hC dL_operates_218 (pc' := 221) rfl (by decide) (by omega) (by omega) (fun zc218 => ?_) (fun zc218 => ?_)
            · exact absurd zc218 (by decide)
            · skip
              refine xi_aload_n hC dL_operates_221 (pc' := 222) rfl rfl rfl ?_
              refine xi_iload_n hC dL_operates_222 (pc' := 223) rfl rfl rfl ?_
              refine xi_iconst (v := nI 5) hC dL_operates_223 (pc' := 224) rfl (by decide +kernel) ?_
              refine xi_callV (As := [.int (nI i), .int (nI 5)]) (rest := []) (c_X7_user l D b (b + (k + 3)) (σ := σ64) (S := T65) (N := (N + 1)) (u := u) (w := w) hST65 hRσ64 (by omega) (x := (nI i)) (y := (nI 5))) hC dL_operates_224 (pc' := 227) rfl xw_m_L_18 xw_c_X7_user xw_ins_X7_user xw_sel_X7_user xw_ini_X7 xd_X7_user (xH_at.trans (xsh_7 kd_0)) rfl ⟨Nat.le_of_ble_eq_true rfl, Nat.le_of_ble_eq_true rfl⟩ rfl (Nat.le_of_ble_eq_true rfl) ⟨Nat.le_of_ble_eq_true rfl, Nat.le_of_ble_eq_true rfl⟩ ?_
              rintro _ _ ⟨r67, rfl, hO68, rfl⟩
              obtain rfl : r67 = ((S m_shownTo i) + (nI (u * u))) := (hO68 _ (su_5 (by omega) (by omega))).trans (f5)
              show xV _ _ _ _ _ _ _ _ _ _ _ _ _ _ _ _ _ (xH D b σ64) _ _ [.int ((S m_shownTo i) + (nI (u * u)))]
              refine xi_iload hC dL_operates_227 (pc' := 229) rfl rfl ?_
              refine xi_iload_n hC dL_operates_229 (pc' := 230) rfl rfl rfl ?_
              refine xi_iload_n hC dL_operates_230 (pc' := 231) rfl rfl rfl ?_
              refine xn_imul hC dL_operates_231 (pc' := 232) rfl ?_
              refine xi_iadd hC dL_operates_232 (pc' := 233) rfl ?_
              refine xi_icmpne (tgt := 247) hC dL_operates_233 (pc' := 236) rfl (by decide) (fun zc233 => ?_) (fun zc233 => ?_)
              · exact absurd rfl zc233
              · skip
                refine xi_aload_n hC dL_operates_236 (pc' := 237) rfl rfl rfl ?_
                refine xi_iload_n hC dL_operates_237 (pc' := 238) rfl rfl rfl ?_
                refine xi_iconst (v := nI 1) hC dL_operates_238 (pc' := 239) rfl (by decide +kernel) ?_
                refine xi_callV (As := [.int (nI i), .int (nI 1)]) (rest := []) (c_X7_user l D b (b + (k + 3)) (σ := σ64) (S := T65) (N := (N + 1)) (u := u) (w := w) hST65 hRσ64 (by omega) (x := (nI i)) (y := (nI 1))) hC dL_operates_239 (pc' := 242) rfl xw_m_L_18 xw_c_X7_user xw_ins_X7_user xw_sel_X7_user xw_ini_X7 xd_X7_user (xH_at.trans (xsh_7 kd_0)) rfl ⟨Nat.le_of_ble_eq_true rfl, Nat.le_of_ble_eq_true rfl⟩ rfl (Nat.le_of_ble_eq_true rfl) ⟨Nat.le_of_ble_eq_true rfl, Nat.le_of_ble_eq_true rfl⟩ ?_
                rintro _ _ ⟨r69, rfl, hO70, rfl⟩
                obtain rfl : r69 = (nI 0) := hO70 _ (su_1 (by omega) (by omega) f1)
                show xV _ _ _ _ _ _ _ _ _ _ _ _ _ _ _ _ _ (xH D b σ64) _ _ [.int (nI 0)]
                refine xi_iload hC dL_operates_242 (pc' := 244) rfl rfl ?_
                refine xn_icmpeq (tgt := 249) hC dL_operates_244 (pc' := 247) rfl (by decide) (by omega) (by omega) (fun zc244 => ?_) (fun zc244 => ?_)
                · skip
                  refine xi_iload hC dL_operates_249 (pc' := 251) rfl rfl ?_
                  refine xn_ifle (tgt := 354) hC dL_operates_251 (pc' := 254) rfl (by decide) (by omega) (fun zc251 => ?_) (fun zc251 => ?_)
                  · skip
                    refine xi_iconst (v := nI 0) hC dL_operates_354 (pc' := 355) rfl (by decide +kernel) ?_
                    refine xi_istore (lv' := [some (.ref (b + 0)), some (.int (nI i)), some (.int (nI u)), some (.int g), some (.ref (b + k)), some (.int (nI 0)), some (.int (nI 0)), some (.int (nI v)), some (.int (nI 0)), some (.int (S m_shownTo i)), some (.int (S m_sentBy i)), some (.int (S m_doneOf i)), some (.int (S oMod 2)), some (.int (nI kp)), some (.int (nI 1)), some (.int (nI j57)), some (.int ((nI j58) - (nI 1000))), some (.int (cV S v j57)), some (.int (lastV S i)), some (.int (nI 0)), some (.int (nI 0)), none]) hC dL_operates_355 (pc' := 357) rfl (by decide) rfl ?_
                    have L357 : ∀ (d : Nat) (j : Nat) (o21 : Option Value), u - j < d → (j ≤ u) → xV p l e (xR 5 116 3 24) s m args below meth c D b 22 3 24 (MQ below (xQ D b (b + (k + 3)) (fun y' h' => ∃ τ T : XM, y' = some (.int (nI 1)) ∧ SI (N + 1) T u w ∧ RR τ T u w ∧ JJ (N + 1) T u ∧ h' = xH D b τ)) args s 3 24 (fun q => b ≤ q)) (b + (k + 3)) (xH D b σ64) 357 [some (.ref (b + 0)), some (.int (nI i)), some (.int (nI u)), some (.int g), some (.ref (b + k)), some (.int (nI 0)), some (.int (nI 0)), some (.int (nI v)), some (.int (nI 0)), some (.int (S m_shownTo i)), some (.int (S m_sentBy i)), some (.int (S m_doneOf i)), some (.int (S oMod 2)), some (.int (nI kp)), some (.int (nI 1)), some (.int (nI j57)), some (.int ((nI j58) - (nI 1000))), some (.int (cV S v j57)), some (.int (lastV S i)), some (.int (nI 0)), some (.int (nI j)), o21] [] := by
                      intro d
                      induction d with
                      | zero => intro j o21 h; exact absurd h (Nat.not_lt_zero _)
                      | succ d ih357 =>
                        intro j o21 hd357 hj1
                        refine xi_iload hC dL_operates_357 (pc' := 359) rfl rfl ?_
                        refine xi_iload_n hC dL_operates_359 (pc' := 360) rfl rfl rfl ?_
                        refine xn_icmpge (tgt := 430) hC dL_operates_360 (pc' := 363) rfl (by decide) (by omega) (by omega) (fun zc360 => ?_) (fun zc360 => ?_)
                        · skip
                          refine xi_iload hC dL_operates_430 (pc' := 432) rfl rfl ?_
                          refine xn_ifeq (tgt := 465) hC dL_operates_432 (pc' := 435) rfl (by decide) (by omega) (fun zc432 => ?_) (fun zc432 => ?_)
                          · exact absurd zc432 (by decide)
                          · skip
                            refine xi_aload_n hC dL_operates_435 (pc' := 436) rfl rfl rfl ?_
                            refine xi_iload hC dL_operates_436 (pc' := 438) rfl rfl ?_
                            refine xi_iload_n hC dL_operates_438 (pc' := 439) rfl rfl rfl ?_
                            refine xi_callV (As := [.int (nI v), .int (nI i)]) (rest := []) (c_X7_content l D b (b + (k + 3)) (σ := σ64) (S := T65) (N := (N + 1)) (u := u) (w := w) hST65 hRσ64 (by omega) (x := (nI v)) (y := (nI i))) hC dL_operates_439 (pc' := 442) rfl xw_m_L_49 xw_c_X7_content xw_ins_X7_content xw_sel_X7_content xw_ini_X7 xd_X7_content (xH_at.trans (xsh_7 kd_0)) rfl ⟨Nat.le_of_ble_eq_true rfl, Nat.le_of_ble_eq_true rfl⟩ rfl (Nat.le_of_ble_eq_true rfl) ⟨Nat.le_of_ble_eq_true rfl, Nat.le_of_ble_eq_true rfl⟩ ?_
                            rintro _ _ ⟨r71, rfl, hO72, rfl⟩
                            obtain rfl : r71 = ((nI j58) - (nI 1000)) := (hO72 _ (so_1 hv (by omega) (by omega) (by omega))).trans (hct)
                            show xV _ _ _ _ _ _ _ _ _ _ _ _ _ _ _ _ _ (xH D b σ64) _ _ [.int ((nI j58) - (nI 1000))]
                            refine xi_iload hC dL_operates_442 (pc' := 444) rfl rfl ?_
                            refine xi_icmpne (tgt := 461) hC dL_operates_444 (pc' := 447) rfl (by decide) (fun zc444 => ?_) (fun zc444 => ?_)
                            · exact absurd rfl zc444
                            · skip
                              refine xi_aload_n hC dL_operates_447 (pc' := 448) rfl rfl rfl ?_
                              refine xi_iload_n hC dL_operates_448 (pc' := 449) rfl rfl rfl ?_
                              refine xi_callV (As := [.int (nI i)]) (rest := []) (c_X7_lastRead l D b (b + (k + 3)) (σ := σ64) (S := T65) (N := (N + 1)) (u := u) (w := w) hST65 hRσ64 (by omega) (x := (nI i))) hC dL_operates_449 (pc' := 452) rfl xw_m_L_52 xw_c_X7_lastRead xw_ins_X7_lastRead xw_sel_X7_lastRead xw_ini_X7 xd_X7_lastRead (xH_at.trans (xsh_7 kd_0)) rfl ⟨Nat.le_of_ble_eq_true rfl, Nat.le_of_ble_eq_true rfl⟩ rfl (Nat.le_of_ble_eq_true rfl) ⟨Nat.le_of_ble_eq_true rfl, Nat.le_of_ble_eq_true rfl⟩ ?_
                              rintro _ _ ⟨r73, rfl, hO74, rfl⟩
                              obtain rfl : r73 = (lastV S i) := (hO74 _ (sl_1 (by omega) (by omega))).trans (hlt)
                              show xV _ _ _ _ _ _ _ _ _ _ _ _ _ _ _ _ _ (xH D b σ64) _ _ [.int (lastV S i)]
                              refine xi_iload hC dL_operates_452 (pc' := 454) rfl rfl ?_
                              refine xi_icmpne (tgt := 461) hC dL_operates_454 (pc' := 457) rfl (by decide) (fun zc454 => ?_) (fun zc454 => ?_)
                              · exact absurd rfl zc454
                              · skip
                                refine xi_iconst (v := nI 1) hC dL_operates_457 (pc' := 458) rfl (by decide +kernel) ?_
                                refine xi_goto (tgt := 493) hC dL_operates_458 (by decide) ?_
                                refine xi_istore (lv' := [some (.ref (b + 0)), some (.int (nI i)), some (.int (nI u)), some (.int g), some (.ref (b + k)), some (.int (nI 0)), some (.int (nI 0)), some (.int (nI v)), some (.int (nI 0)), some (.int (S m_shownTo i)), some (.int (S m_sentBy i)), some (.int (S m_doneOf i)), some (.int (S oMod 2)), some (.int (nI kp)), some (.int (nI 1)), some (.int (nI j57)), some (.int ((nI j58) - (nI 1000))), some (.int (cV S v j57)), some (.int (lastV S i)), some (.int (nI 0)), some (.int (nI 1)), o21]) hC dL_operates_493 (pc' := 495) rfl (by decide) rfl ?_
                                refine xi_iload hC dL_operates_495 (pc' := 497) rfl rfl ?_
                                refine xn_ifeq (tgt := 567) hC dL_operates_497 (pc' := 500) rfl (by decide) (by omega) (fun zc497 => ?_) (fun zc497 => ?_)
                                · exact absurd zc497 (by decide)
                                · skip
                                  refine xi_aload_n hC dL_operates_500 (pc' := 501) rfl rfl rfl ?_
                                  refine xi_iload_n hC dL_operates_501 (pc' := 502) rfl rfl rfl ?_
                                  refine xi_bipush (v := nI 6) hC dL_operates_502 (pc' := 504) rfl (by decide +kernel) ?_
                                  refine xi_callV (As := [.int (nI i), .int (nI 6)]) (rest := []) (c_X7_user l D b (b + (k + 3)) (σ := σ64) (S := T65) (N := (N + 1)) (u := u) (w := w) hST65 hRσ64 (by omega) (x := (nI i)) (y := (nI 6))) hC dL_operates_504 (pc' := 507) rfl xw_m_L_18 xw_c_X7_user xw_ins_X7_user xw_sel_X7_user xw_ini_X7 xd_X7_user (xH_at.trans (xsh_7 kd_0)) rfl ⟨Nat.le_of_ble_eq_true rfl, Nat.le_of_ble_eq_true rfl⟩ rfl (Nat.le_of_ble_eq_true rfl) ⟨Nat.le_of_ble_eq_true rfl, Nat.le_of_ble_eq_true rfl⟩ ?_
                                  rintro _ _ ⟨r75, rfl, hO76, rfl⟩
                                  obtain rfl : r75 = ((S m_sentBy i) + (nI u)) := (hO76 _ (su_6 (by omega) (by omega))).trans (f6)
                                  show xV _ _ _ _ _ _ _ _ _ _ _ _ _ _ _ _ _ (xH D b σ64) _ _ [.int ((S m_sentBy i) + (nI u))]
                                  refine xi_iload hC dL_operates_507 (pc' := 509) rfl rfl ?_
                                  refine xi_iload_n hC dL_operates_509 (pc' := 510) rfl rfl rfl ?_
                                  refine xi_iadd hC dL_operates_510 (pc' := 511) rfl ?_
                                  refine xi_icmpne (tgt := 567) hC dL_operates_511 (pc' := 514) rfl (by decide) (fun zc511 => ?_) (fun zc511 => ?_)
                                  · exact absurd rfl zc511
                                  · skip
                                    refine xi_aload_n hC dL_operates_514 (pc' := 515) rfl rfl rfl ?_
                                    refine xi_iload_n hC dL_operates_515 (pc' := 516) rfl rfl rfl ?_
                                    refine xi_iconst (v := nI 4) hC dL_operates_516 (pc' := 517) rfl (by decide +kernel) ?_
                                    refine xi_callV (As := [.int (nI i), .int (nI 4)]) (rest := []) (c_X7_user l D b (b + (k + 3)) (σ := σ64) (S := T65) (N := (N + 1)) (u := u) (w := w) hST65 hRσ64 (by omega) (x := (nI i)) (y := (nI 4))) hC dL_operates_517 (pc' := 520) rfl xw_m_L_18 xw_c_X7_user xw_ins_X7_user xw_sel_X7_user xw_ini_X7 xd_X7_user (xH_at.trans (xsh_7 kd_0)) rfl ⟨Nat.le_of_ble_eq_true rfl, Nat.le_of_ble_eq_true rfl⟩ rfl (Nat.le_of_ble_eq_true rfl) ⟨Nat.le_of_ble_eq_true rfl, Nat.le_of_ble_eq_true rfl⟩ ?_
                                    rintro _ _ ⟨r77, rfl, hO78, rfl⟩
                                    obtain rfl : r77 = ((S m_doneOf i) + (nI 1)) := (hO78 _ (su_4 (by omega) (by omega))).trans (f4)
                                    show xV _ _ _ _ _ _ _ _ _ _ _ _ _ _ _ _ _ (xH D b σ64) _ _ [.int ((S m_doneOf i) + (nI 1))]
                                    refine xi_iload hC dL_operates_520 (pc' := 522) rfl rfl ?_
                                    refine xi_iconst (v := nI 1) hC dL_operates_522 (pc' := 523) rfl (by decide +kernel) ?_
                                    refine xi_iadd hC dL_operates_523 (pc' := 524) rfl ?_
                                    refine xi_icmpne (tgt := 567) hC dL_operates_524 (pc' := 527) rfl (by decide) (fun zc524 => ?_) (fun zc524 => ?_)
                                    · exact absurd rfl zc524
                                    · skip
                                      refine xi_aload_n hC dL_operates_527 (pc' := 528) rfl rfl rfl ?_
                                      refine xi_iconst (v := nI 4) hC dL_operates_528 (pc' := 529) rfl (by decide +kernel) ?_
                                      refine xi_callV (As := [.int (nI 4)]) (rest := []) (c_X7_count l D b (b + (k + 3)) (σ := σ64) (S := T65) (N := (N + 1)) (u := u) (w := w) hST65 hRσ64 (by omega) (x := (nI 4))) hC dL_operates_529 (pc' := 532) rfl xw_m_L_40 xw_c_X7_count xw_ins_X7_count xw_sel_X7_count xw_ini_X7 xd_X7_count (xH_at.trans (xsh_7 kd_0)) rfl ⟨Nat.le_of_ble_eq_true rfl, Nat.le_of_ble_eq_true rfl⟩ rfl (Nat.le_of_ble_eq_true rfl) ⟨Nat.le_of_ble_eq_true rfl, Nat.le_of_ble_eq_true rfl⟩ ?_
                                      rintro _ _ ⟨r79, rfl, hO80, rfl⟩
                                      obtain rfl : r79 = ((S oMod 2) + (nI 1)) := (hO80 _ (sc_4)).trans (fc)
                                      show xV _ _ _ _ _ _ _ _ _ _ _ _ _ _ _ _ _ (xH D b σ64) _ _ [.int ((S oMod 2) + (nI 1))]
                                      refine xi_iload hC dL_operates_532 (pc' := 534) rfl rfl ?_
                                      refine xi_iconst (v := nI 1) hC dL_operates_534 (pc' := 535) rfl (by decide +kernel) ?_
                                      refine xi_iadd hC dL_operates_535 (pc' := 536) rfl ?_
                                      refine xi_icmpne (tgt := 567) hC dL_operates_536 (pc' := 539) rfl (by decide) (fun zc536 => ?_) (fun zc536 => ?_)
                                      · exact absurd rfl zc536
                                      · skip
                                        refine xi_aload_n hC dL_operates_539 (pc' := 540) rfl rfl rfl ?_
                                        refine xi_iload hC dL_operates_540 (pc' := 542) rfl rfl ?_
                                        refine xi_iconst (v := nI 1) hC dL_operates_542 (pc' := 543) rfl (by decide +kernel) ?_
                                        refine xi_callV (As := [.int (nI v), .int (nI 1)]) (rest := []) (c_X7_view l D b (b + (k + 3)) (σ := σ64) (S := T65) (N := (N + 1)) (u := u) (w := w) hST65 hRσ64 (by omega) (x := (nI v)) (y := (nI 1))) hC dL_operates_543 (pc' := 546) rfl xw_m_L_43 xw_c_X7_view xw_ins_X7_view xw_sel_X7_view xw_ini_X7 xd_X7_view (xH_at.trans (xsh_7 kd_0)) rfl ⟨Nat.le_of_ble_eq_true rfl, Nat.le_of_ble_eq_true rfl⟩ rfl (Nat.le_of_ble_eq_true rfl) ⟨Nat.le_of_ble_eq_true rfl, Nat.le_of_ble_eq_true rfl⟩ ?_
                                        rintro _ _ ⟨r81, rfl, hO82, rfl⟩
                                        obtain rfl : r81 = (nI (min (kp + 1) 5)) := hO82 _ _ (sw_1 hv (by omega) fk)
                                        show xV _ _ _ _ _ _ _ _ _ _ _ _ _ _ _ _ _ (xH D b σ64) _ _ [.int (nI (min (kp + 1) 5))]
                                        refine xi_iload hC dL_operates_546 (pc' := 548) rfl rfl ?_
                                        refine xi_iconst (v := nI 5) hC dL_operates_548 (pc' := 549) rfl (by decide +kernel) ?_
                                        refine xn_icmpge (tgt := 559) hC dL_operates_549 (pc' := 552) rfl (by decide) (by omega) (by omega) (fun zc549 => ?_) (fun zc549 => ?_)
                                        · skip
                                          refine xi_iconst (v := nI 5) hC dL_operates_559 (pc' := 560) rfl (by decide +kernel) ?_
                                          refine xn_icmpne (tgt := 567) hC dL_operates_560 (pc' := 563) rfl (by decide) (by omega) (by omega) (fun zc560 => ?_) (fun zc560 => ?_)
                                          · exact absurd (by omega) zc560
                                          · skip
                                            refine xi_iconst (v := nI 1) hC dL_operates_563 (pc' := 564) rfl (by decide +kernel) ?_
                                            refine xi_goto (tgt := 568) hC dL_operates_564 (by decide) ?_
                                            refine xb_ireturn hC dL_operates_568 hr (by decide) rfl ?_
                                            exact ⟨σ64, T65, rfl, hST65, hRσ64, hJT65, rfl⟩
                                        · skip
                                          refine xi_iload hC dL_operates_552 (pc' := 554) rfl rfl ?_
                                          refine xi_iconst (v := nI 1) hC dL_operates_554 (pc' := 555) rfl (by decide +kernel) ?_
                                          refine xn_iadd hC dL_operates_555 (pc' := 556) rfl ?_
                                          refine xi_goto (tgt := 560) hC dL_operates_556 (by decide) ?_
                                          refine xn_icmpne (tgt := 567) hC dL_operates_560 (pc' := 563) rfl (by decide) (by omega) (by omega) (fun zc560 => ?_) (fun zc560 => ?_)
                                          · exact absurd (by omega) zc560
                                          · skip
                                            refine xi_iconst (v := nI 1) hC dL_operates_563 (pc' := 564) rfl (by decide +kernel) ?_
                                            refine xi_goto (tgt := 568) hC dL_operates_564 (by decide) ?_
                                            refine xb_ireturn hC dL_operates_568 hr (by decide) rfl ?_
                                            exact ⟨σ64, T65, rfl, hST65, hRσ64, hJT65, rfl⟩
                        · skip
                          refine xi_aload hC dL_operates_363 (pc' := 365) rfl rfl ?_
                          refine xi_iload hC dL_operates_365 (pc' := 367) rfl rfl ?_
                          refine xl_L hC dL_operates_367 (pc' := 368) rfl (by omega) (by decide : (8 : Nat) = 8 ∨ (8 : Nat) = 36) hlσ64_k rfl (by omega) ?_
                          refine xtop (y := (rV S v (bst S u v) j)) (hfσ64_k j (by omega)) ?_
                          refine xi_iload hC dL_operates_368 (pc' := 370) rfl rfl ?_
                          refine xi_iload_n hC dL_operates_370 (pc' := 371) rfl rfl rfl ?_
                          refine xn_icmpne (tgt := 378) hC dL_operates_371 (pc' := 374) rfl (by decide) (by omega) (by omega) (fun zc371 => ?_) (fun zc371 => ?_)
                          · skip
                            refine xi_iconst (v := nI 0) hC dL_operates_378 (pc' := 379) rfl (by decide +kernel) ?_
                            refine xi_iadd hC dL_operates_379 (pc' := 380) rfl ?_
                            refine xi_istore (lv' := [some (.ref (b + 0)), some (.int (nI i)), some (.int (nI u)), some (.int g), some (.ref (b + k)), some (.int (nI 0)), some (.int (nI 0)), some (.int (nI v)), some (.int (nI 0)), some (.int (S m_shownTo i)), some (.int (S m_sentBy i)), some (.int (S m_doneOf i)), some (.int (S oMod 2)), some (.int (nI kp)), some (.int (nI 1)), some (.int (nI j57)), some (.int ((nI j58) - (nI 1000))), some (.int (cV S v j57)), some (.int (lastV S i)), some (.int (nI 0)), some (.int (nI j)), some (.int ((rV S v (bst S u v) j) + (nI 0)))]) hC dL_operates_380 (pc' := 382) rfl (by decide) rfl ?_
                            refine xi_aload_n hC dL_operates_382 (pc' := 383) rfl rfl rfl ?_
                            refine xi_iload_n hC dL_operates_383 (pc' := 384) rfl rfl rfl ?_
                            refine xi_iconst (v := nI 0) hC dL_operates_384 (pc' := 385) rfl (by decide +kernel) ?_
                            refine xi_iload hC dL_operates_385 (pc' := 387) rfl rfl ?_
                            refine xi_callV (As := [.int (nI i), .int (nI 0), .int (nI j)]) (rest := []) (c_X7_vector l D b (b + (k + 3)) (σ := σ64) (S := T65) (N := (N + 1)) (u := u) (w := w) hST65 hRσ64 (by omega) (x := (nI i)) (y := (nI 0)) (z := (nI j))) hC dL_operates_387 (pc' := 390) rfl xw_m_L_9 xw_c_X7_vector xw_ins_X7_vector xw_sel_X7_vector xw_ini_X7 xd_X7_vector (xH_at.trans (xsh_7 kd_0)) rfl ⟨Nat.le_of_ble_eq_true rfl, Nat.le_of_ble_eq_true rfl⟩ rfl (Nat.le_of_ble_eq_true rfl) ⟨Nat.le_of_ble_eq_true rfl, Nat.le_of_ble_eq_true rfl⟩ ?_
                            rintro _ _ ⟨r83, rfl, hO84, rfl⟩
                            obtain rfl : r83 = ((rV S v (bst S u v) j) + (nI 0)) := (hO84 _ (sv_0 (by omega) (by omega) (by omega))).trans ((fv j (by omega)).1.trans (oU_row.trans (by rw [if_neg zc371])))
                            show xV _ _ _ _ _ _ _ _ _ _ _ _ _ _ _ _ _ (xH D b σ64) _ _ [.int ((rV S v (bst S u v) j) + (nI 0))]
                            refine xi_iload hC dL_operates_390 (pc' := 392) rfl rfl ?_
                            refine xi_icmpne (tgt := 422) hC dL_operates_392 (pc' := 395) rfl (by decide) (fun zc392 => ?_) (fun zc392 => ?_)
                            · exact absurd rfl zc392
                            · skip
                              refine xi_aload_n hC dL_operates_395 (pc' := 396) rfl rfl rfl ?_
                              refine xi_iload_n hC dL_operates_396 (pc' := 397) rfl rfl rfl ?_
                              refine xi_iconst (v := nI 1) hC dL_operates_397 (pc' := 398) rfl (by decide +kernel) ?_
                              refine xi_iload hC dL_operates_398 (pc' := 400) rfl rfl ?_
                              refine xi_callV (As := [.int (nI i), .int (nI 1), .int (nI j)]) (rest := []) (c_X7_vector l D b (b + (k + 3)) (σ := σ64) (S := T65) (N := (N + 1)) (u := u) (w := w) hST65 hRσ64 (by omega) (x := (nI i)) (y := (nI 1)) (z := (nI j))) hC dL_operates_400 (pc' := 403) rfl xw_m_L_9 xw_c_X7_vector xw_ins_X7_vector xw_sel_X7_vector xw_ini_X7 xd_X7_vector (xH_at.trans (xsh_7 kd_0)) rfl ⟨Nat.le_of_ble_eq_true rfl, Nat.le_of_ble_eq_true rfl⟩ rfl (Nat.le_of_ble_eq_true rfl) ⟨Nat.le_of_ble_eq_true rfl, Nat.le_of_ble_eq_true rfl⟩ ?_
                              rintro _ _ ⟨r85, rfl, hO86, rfl⟩
                              obtain rfl : r85 = ((rV S v (bst S u v) j) + (nI 0)) := (hO86 _ (sv_1 (by omega) (by omega) (by omega))).trans ((fv j (by omega)).2.1.trans (oU_row.trans (by rw [if_neg zc371])))
                              show xV _ _ _ _ _ _ _ _ _ _ _ _ _ _ _ _ _ (xH D b σ64) _ _ [.int ((rV S v (bst S u v) j) + (nI 0))]
                              refine xi_iload hC dL_operates_403 (pc' := 405) rfl rfl ?_
                              refine xi_icmpne (tgt := 422) hC dL_operates_405 (pc' := 408) rfl (by decide) (fun zc405 => ?_) (fun zc405 => ?_)
                              · exact absurd rfl zc405
                              · skip
                                refine xi_aload_n hC dL_operates_408 (pc' := 409) rfl rfl rfl ?_
                                refine xi_iload hC dL_operates_409 (pc' := 411) rfl rfl ?_
                                refine xi_iload_n hC dL_operates_411 (pc' := 412) rfl rfl rfl ?_
                                refine xi_iload hC dL_operates_412 (pc' := 414) rfl rfl ?_
                                refine xi_callV (As := [.int (nI v), .int (nI i), .int (nI j)]) (rest := []) (c_X7_entry l D b (b + (k + 3)) (σ := σ64) (S := T65) (N := (N + 1)) (u := u) (w := w) hST65 hRσ64 (by omega) (x := (nI v)) (y := (nI i)) (z := (nI j))) hC dL_operates_414 (pc' := 417) rfl xw_m_L_15 xw_c_X7_entry xw_ins_X7_entry xw_sel_X7_entry xw_ini_X7 xd_X7_entry (xH_at.trans (xsh_7 kd_0)) rfl ⟨Nat.le_of_ble_eq_true rfl, Nat.le_of_ble_eq_true rfl⟩ rfl (Nat.le_of_ble_eq_true rfl) ⟨Nat.le_of_ble_eq_true rfl, Nat.le_of_ble_eq_true rfl⟩ ?_
                                rintro _ _ ⟨r87, rfl, hO88, rfl⟩
                                obtain rfl : r87 = ((rV S v (bst S u v) j) + (nI 0)) := (hO88 _ (se_1 hv (by omega) (by omega) (by omega) (by omega))).trans ((fv j (by omega)).2.2.trans (oU_row.trans (by rw [if_neg zc371])))
                                show xV _ _ _ _ _ _ _ _ _ _ _ _ _ _ _ _ _ (xH D b σ64) _ _ [.int ((rV S v (bst S u v) j) + (nI 0))]
                                refine xi_iload hC dL_operates_417 (pc' := 419) rfl rfl ?_
                                refine xi_icmpeq (tgt := 424) hC dL_operates_419 (pc' := 422) rfl (by decide) (fun zc419 => ?_) (fun zc419 => ?_)
                                · skip
                                  refine xn_iinc (lv' := [some (.ref (b + 0)), some (.int (nI i)), some (.int (nI u)), some (.int g), some (.ref (b + k)), some (.int (nI 0)), some (.int (nI 0)), some (.int (nI v)), some (.int (nI 0)), some (.int (S m_shownTo i)), some (.int (S m_sentBy i)), some (.int (S m_doneOf i)), some (.int (S oMod 2)), some (.int (nI kp)), some (.int (nI 1)), some (.int (nI j57)), some (.int ((nI j58) - (nI 1000))), some (.int (cV S v j57)), some (.int (lastV S i)), some (.int (nI 0)), some (.int (nI (j + 1))), some (.int ((rV S v (bst S u v) j) + (nI 0)))]) hC dL_operates_424 (pc' := 427) rfl rfl (by decide) rfl ?_
                                  refine xi_goto (tgt := 357) hC dL_operates_427 (by decide) ?_
                                  refine ih357 _ _ (by omega) ?_
                                  · omega
                                · exact absurd rfl zc419
                          · skip
                            refine xi_iconst (v := nI 1) hC dL_operates_374 (pc' := 375) rfl (by decide +kernel) ?_
                            refine xi_goto (tgt := 379) hC dL_operates_375 (by decide) ?_
                            refine xi_iadd hC dL_operates_379 (pc' := 380) rfl ?_
                            refine xi_istore (lv' := [some (.ref (b + 0)), some (.int (nI i)), some (.int (nI u)), some (.int g), some (.ref (b + k)), some (.int (nI 0)), some (.int (nI 0)), some (.int (nI v)), some (.int (nI 0)), some (.int (S m_shownTo i)), some (.int (S m_sentBy i)), some (.int (S m_doneOf i)), some (.int (S oMod 2)), some (.int (nI kp)), some (.int (nI 1)), some (.int (nI j57)), some (.int ((nI j58) - (nI 1000))), some (.int (cV S v j57)), some (.int (lastV S i)), some (.int (nI 0)), some (.int (nI j)), some (.int ((rV S v (bst S u v) j) + (nI 1)))]) hC dL_operates_380 (pc' := 382) rfl (by decide) rfl ?_
                            refine xi_aload_n hC dL_operates_382 (pc' := 383) rfl rfl rfl ?_
                            refine xi_iload_n hC dL_operates_383 (pc' := 384) rfl rfl rfl ?_
                            refine xi_iconst (v := nI 0) hC dL_operates_384 (pc' := 385) rfl (by decide +kernel) ?_
                            refine xi_iload hC dL_operates_385 (pc' := 387) rfl rfl ?_
                            refine xi_callV (As := [.int (nI i), .int (nI 0), .int (nI j)]) (rest := []) (c_X7_vector l D b (b + (k + 3)) (σ := σ64) (S := T65) (N := (N + 1)) (u := u) (w := w) hST65 hRσ64 (by omega) (x := (nI i)) (y := (nI 0)) (z := (nI j))) hC dL_operates_387 (pc' := 390) rfl xw_m_L_9 xw_c_X7_vector xw_ins_X7_vector xw_sel_X7_vector xw_ini_X7 xd_X7_vector (xH_at.trans (xsh_7 kd_0)) rfl ⟨Nat.le_of_ble_eq_true rfl, Nat.le_of_ble_eq_true rfl⟩ rfl (Nat.le_of_ble_eq_true rfl) ⟨Nat.le_of_ble_eq_true rfl, Nat.le_of_ble_eq_true rfl⟩ ?_
                            rintro _ _ ⟨r89, rfl, hO90, rfl⟩
                            obtain rfl : r89 = ((rV S v (bst S u v) j) + (nI 1)) := (hO90 _ (sv_0 (by omega) (by omega) (by omega))).trans ((fv j (by omega)).1.trans (oU_row.trans (by rw [if_pos zc371])))
                            show xV _ _ _ _ _ _ _ _ _ _ _ _ _ _ _ _ _ (xH D b σ64) _ _ [.int ((rV S v (bst S u v) j) + (nI 1))]
                            refine xi_iload hC dL_operates_390 (pc' := 392) rfl rfl ?_
                            refine xi_icmpne (tgt := 422) hC dL_operates_392 (pc' := 395) rfl (by decide) (fun zc392 => ?_) (fun zc392 => ?_)
                            · exact absurd rfl zc392
                            · skip
                              refine xi_aload_n hC dL_operates_395 (pc' := 396) rfl rfl rfl ?_
                              refine xi_iload_n hC dL_operates_396 (pc' := 397) rfl rfl rfl ?_
                              refine xi_iconst (v := nI 1) hC dL_operates_397 (pc' := 398) rfl (by decide +kernel) ?_
                              refine xi_iload hC dL_operates_398 (pc' := 400) rfl rfl ?_
                              refine xi_callV (As := [.int (nI i), .int (nI 1), .int (nI j)]) (rest := []) (c_X7_vector l D b (b + (k + 3)) (σ := σ64) (S := T65) (N := (N + 1)) (u := u) (w := w) hST65 hRσ64 (by omega) (x := (nI i)) (y := (nI 1)) (z := (nI j))) hC dL_operates_400 (pc' := 403) rfl xw_m_L_9 xw_c_X7_vector xw_ins_X7_vector xw_sel_X7_vector xw_ini_X7 xd_X7_vector (xH_at.trans (xsh_7 kd_0)) rfl ⟨Nat.le_of_ble_eq_true rfl, Nat.le_of_ble_eq_true rfl⟩ rfl (Nat.le_of_ble_eq_true rfl) ⟨Nat.le_of_ble_eq_true rfl, Nat.le_of_ble_eq_true rfl⟩ ?_
                              rintro _ _ ⟨r91, rfl, hO92, rfl⟩
                              obtain rfl : r91 = ((rV S v (bst S u v) j) + (nI 1)) := (hO92 _ (sv_1 (by omega) (by omega) (by omega))).trans ((fv j (by omega)).2.1.trans (oU_row.trans (by rw [if_pos zc371])))
                              show xV _ _ _ _ _ _ _ _ _ _ _ _ _ _ _ _ _ (xH D b σ64) _ _ [.int ((rV S v (bst S u v) j) + (nI 1))]
                              refine xi_iload hC dL_operates_403 (pc' := 405) rfl rfl ?_
                              refine xi_icmpne (tgt := 422) hC dL_operates_405 (pc' := 408) rfl (by decide) (fun zc405 => ?_) (fun zc405 => ?_)
                              · exact absurd rfl zc405
                              · skip
                                refine xi_aload_n hC dL_operates_408 (pc' := 409) rfl rfl rfl ?_
                                refine xi_iload hC dL_operates_409 (pc' := 411) rfl rfl ?_
                                refine xi_iload_n hC dL_operates_411 (pc' := 412) rfl rfl rfl ?_
                                refine xi_iload hC dL_operates_412 (pc' := 414) rfl rfl ?_
                                refine xi_callV (As := [.int (nI v), .int (nI i), .int (nI j)]) (rest := []) (c_X7_entry l D b (b + (k + 3)) (σ := σ64) (S := T65) (N := (N + 1)) (u := u) (w := w) hST65 hRσ64 (by omega) (x := (nI v)) (y := (nI i)) (z := (nI j))) hC dL_operates_414 (pc' := 417) rfl xw_m_L_15 xw_c_X7_entry xw_ins_X7_entry xw_sel_X7_entry xw_ini_X7 xd_X7_entry (xH_at.trans (xsh_7 kd_0)) rfl ⟨Nat.le_of_ble_eq_true rfl, Nat.le_of_ble_eq_true rfl⟩ rfl (Nat.le_of_ble_eq_true rfl) ⟨Nat.le_of_ble_eq_true rfl, Nat.le_of_ble_eq_true rfl⟩ ?_
                                rintro _ _ ⟨r93, rfl, hO94, rfl⟩
                                obtain rfl : r93 = ((rV S v (bst S u v) j) + (nI 1)) := (hO94 _ (se_1 hv (by omega) (by omega) (by omega) (by omega))).trans ((fv j (by omega)).2.2.trans (oU_row.trans (by rw [if_pos zc371])))
                                show xV _ _ _ _ _ _ _ _ _ _ _ _ _ _ _ _ _ (xH D b σ64) _ _ [.int ((rV S v (bst S u v) j) + (nI 1))]
                                refine xi_iload hC dL_operates_417 (pc' := 419) rfl rfl ?_
                                refine xi_icmpeq (tgt := 424) hC dL_operates_419 (pc' := 422) rfl (by decide) (fun zc419 => ?_) (fun zc419 => ?_)
                                · skip
                                  refine xn_iinc (lv' := [some (.ref (b + 0)), some (.int (nI i)), some (.int (nI u)), some (.int g), some (.ref (b + k)), some (.int (nI 0)), some (.int (nI 0)), some (.int (nI v)), some (.int (nI 0)), some (.int (S m_shownTo i)), some (.int (S m_sentBy i)), some (.int (S m_doneOf i)), some (.int (S oMod 2)), some (.int (nI kp)), some (.int (nI 1)), some (.int (nI j57)), some (.int ((nI j58) - (nI 1000))), some (.int (cV S v j57)), some (.int (lastV S i)), some (.int (nI 0)), some (.int (nI (j + 1))), some (.int ((rV S v (bst S u v) j) + (nI 1)))]) hC dL_operates_424 (pc' := 427) rfl rfl (by decide) rfl ?_
                                  refine xi_goto (tgt := 357) hC dL_operates_427 (by decide) ?_
                                  refine ih357 _ _ (by omega) ?_
                                  · omega
                                · exact absurd rfl zc419
                    refine L357 _ _ _ (Nat.lt_succ_self _) ?_
                    · omega
                  · first | exact zc251.elim | exact absurd zc251 (by decide)
                · exact absurd zc244 (by decide)
        · first | exact zc160.elim | exact absurd zc160 (by decide)
  · skip
    refine xi_aload_n hC dL_operates_32 (pc' := 33) rfl rfl rfl ?_
    refine xi_iload_n hC dL_operates_33 (pc' := 34) rfl rfl rfl ?_
    refine xi_callV (As := [.int (nI i)]) (rest := []) (c_X7_check l D b (b + (k + 3)) (σ := σ4) (S := S) (N := N) (u := u) (w := w) hS hRσ4 (by omega) (x := (nI i))) hC dL_operates_34 (pc' := 37) rfl xw_m_L_36 xw_c_X7_check xw_ins_X7_check xw_sel_X7_check xw_ini_X7 xd_X7_check (xH_at.trans (xsh_7 kd_0)) rfl ⟨Nat.le_of_ble_eq_true rfl, Nat.le_of_ble_eq_true rfl⟩ rfl (Nat.le_of_ble_eq_true rfl) ⟨Nat.le_of_ble_eq_true rfl, Nat.le_of_ble_eq_true rfl⟩ ?_
    rintro _ _ ⟨r95, rfl, hO96, rfl⟩
    obtain rfl : r95 = (nI 1) := hO96 _ _ (sk_0 (by omega) (by omega) hA (by omega) hV hx)
    show xV _ _ _ _ _ _ _ _ _ _ _ _ _ _ _ _ _ (xH D b σ4) _ _ [.int (nI 1)]
    refine xi_istore (lv' := [some (.ref (b + 0)), some (.int (nI i)), some (.int (nI u)), some (.int g), some (.ref (b + k)), some (.int (nI 0)), some (.int (nI 1)), some (.int (nI v)), some (.int (nI 1)), none, none, none, none, none, none, none, none, none, none, none, none, none]) hC dL_operates_37 (pc' := 39) rfl (by decide) rfl ?_
    refine xi_aload_n hC dL_operates_39 (pc' := 40) rfl rfl rfl ?_
    refine xi_iload_n hC dL_operates_40 (pc' := 41) rfl rfl rfl ?_
    refine xi_iconst (v := nI 5) hC dL_operates_41 (pc' := 42) rfl (by decide +kernel) ?_
    refine xi_callV (As := [.int (nI i), .int (nI 5)]) (rest := []) (c_X7_user l D b (b + (k + 3)) (σ := σ4) (S := S) (N := N) (u := u) (w := w) hS hRσ4 (by omega) (x := (nI i)) (y := (nI 5))) hC dL_operates_42 (pc' := 45) rfl xw_m_L_18 xw_c_X7_user xw_ins_X7_user xw_sel_X7_user xw_ini_X7 xd_X7_user (xH_at.trans (xsh_7 kd_0)) rfl ⟨Nat.le_of_ble_eq_true rfl, Nat.le_of_ble_eq_true rfl⟩ rfl (Nat.le_of_ble_eq_true rfl) ⟨Nat.le_of_ble_eq_true rfl, Nat.le_of_ble_eq_true rfl⟩ ?_
    rintro _ _ ⟨r97, rfl, hO98, rfl⟩
    obtain rfl : r97 = (S m_shownTo i) := hO98 _ (su_5 (by omega) (by omega))
    show xV _ _ _ _ _ _ _ _ _ _ _ _ _ _ _ _ _ (xH D b σ4) _ _ [.int (S m_shownTo i)]
    refine xi_istore (lv' := [some (.ref (b + 0)), some (.int (nI i)), some (.int (nI u)), some (.int g), some (.ref (b + k)), some (.int (nI 0)), some (.int (nI 1)), some (.int (nI v)), some (.int (nI 1)), some (.int (S m_shownTo i)), none, none, none, none, none, none, none, none, none, none, none, none]) hC dL_operates_45 (pc' := 47) rfl (by decide) rfl ?_
    refine xi_aload_n hC dL_operates_47 (pc' := 48) rfl rfl rfl ?_
    refine xi_iload_n hC dL_operates_48 (pc' := 49) rfl rfl rfl ?_
    refine xi_bipush (v := nI 6) hC dL_operates_49 (pc' := 51) rfl (by decide +kernel) ?_
    refine xi_callV (As := [.int (nI i), .int (nI 6)]) (rest := []) (c_X7_user l D b (b + (k + 3)) (σ := σ4) (S := S) (N := N) (u := u) (w := w) hS hRσ4 (by omega) (x := (nI i)) (y := (nI 6))) hC dL_operates_51 (pc' := 54) rfl xw_m_L_18 xw_c_X7_user xw_ins_X7_user xw_sel_X7_user xw_ini_X7 xd_X7_user (xH_at.trans (xsh_7 kd_0)) rfl ⟨Nat.le_of_ble_eq_true rfl, Nat.le_of_ble_eq_true rfl⟩ rfl (Nat.le_of_ble_eq_true rfl) ⟨Nat.le_of_ble_eq_true rfl, Nat.le_of_ble_eq_true rfl⟩ ?_
    rintro _ _ ⟨r99, rfl, hO100, rfl⟩
    obtain rfl : r99 = (S m_sentBy i) := hO100 _ (su_6 (by omega) (by omega))
    show xV _ _ _ _ _ _ _ _ _ _ _ _ _ _ _ _ _ (xH D b σ4) _ _ [.int (S m_sentBy i)]
    refine xi_istore (lv' := [some (.ref (b + 0)), some (.int (nI i)), some (.int (nI u)), some (.int g), some (.ref (b + k)), some (.int (nI 0)), some (.int (nI 1)), some (.int (nI v)), some (.int (nI 1)), some (.int (S m_shownTo i)), some (.int (S m_sentBy i)), none, none, none, none, none, none, none, none, none, none, none]) hC dL_operates_54 (pc' := 56) rfl (by decide) rfl ?_
    refine xi_aload_n hC dL_operates_56 (pc' := 57) rfl rfl rfl ?_
    refine xi_iload_n hC dL_operates_57 (pc' := 58) rfl rfl rfl ?_
    refine xi_iconst (v := nI 4) hC dL_operates_58 (pc' := 59) rfl (by decide +kernel) ?_
    refine xi_callV (As := [.int (nI i), .int (nI 4)]) (rest := []) (c_X7_user l D b (b + (k + 3)) (σ := σ4) (S := S) (N := N) (u := u) (w := w) hS hRσ4 (by omega) (x := (nI i)) (y := (nI 4))) hC dL_operates_59 (pc' := 62) rfl xw_m_L_18 xw_c_X7_user xw_ins_X7_user xw_sel_X7_user xw_ini_X7 xd_X7_user (xH_at.trans (xsh_7 kd_0)) rfl ⟨Nat.le_of_ble_eq_true rfl, Nat.le_of_ble_eq_true rfl⟩ rfl (Nat.le_of_ble_eq_true rfl) ⟨Nat.le_of_ble_eq_true rfl, Nat.le_of_ble_eq_true rfl⟩ ?_
    rintro _ _ ⟨r101, rfl, hO102, rfl⟩
    obtain rfl : r101 = (S m_doneOf i) := hO102 _ (su_4 (by omega) (by omega))
    show xV _ _ _ _ _ _ _ _ _ _ _ _ _ _ _ _ _ (xH D b σ4) _ _ [.int (S m_doneOf i)]
    refine xi_istore (lv' := [some (.ref (b + 0)), some (.int (nI i)), some (.int (nI u)), some (.int g), some (.ref (b + k)), some (.int (nI 0)), some (.int (nI 1)), some (.int (nI v)), some (.int (nI 1)), some (.int (S m_shownTo i)), some (.int (S m_sentBy i)), some (.int (S m_doneOf i)), none, none, none, none, none, none, none, none, none, none]) hC dL_operates_62 (pc' := 64) rfl (by decide) rfl ?_
    refine xi_aload_n hC dL_operates_64 (pc' := 65) rfl rfl rfl ?_
    refine xi_iconst (v := nI 4) hC dL_operates_65 (pc' := 66) rfl (by decide +kernel) ?_
    refine xi_callV (As := [.int (nI 4)]) (rest := []) (c_X7_count l D b (b + (k + 3)) (σ := σ4) (S := S) (N := N) (u := u) (w := w) hS hRσ4 (by omega) (x := (nI 4))) hC dL_operates_66 (pc' := 69) rfl xw_m_L_40 xw_c_X7_count xw_ins_X7_count xw_sel_X7_count xw_ini_X7 xd_X7_count (xH_at.trans (xsh_7 kd_0)) rfl ⟨Nat.le_of_ble_eq_true rfl, Nat.le_of_ble_eq_true rfl⟩ rfl (Nat.le_of_ble_eq_true rfl) ⟨Nat.le_of_ble_eq_true rfl, Nat.le_of_ble_eq_true rfl⟩ ?_
    rintro _ _ ⟨r103, rfl, hO104, rfl⟩
    obtain rfl : r103 = (S oMod 2) := hO104 _ (sc_4)
    show xV _ _ _ _ _ _ _ _ _ _ _ _ _ _ _ _ _ (xH D b σ4) _ _ [.int (S oMod 2)]
    refine xi_istore (lv' := [some (.ref (b + 0)), some (.int (nI i)), some (.int (nI u)), some (.int g), some (.ref (b + k)), some (.int (nI 0)), some (.int (nI 1)), some (.int (nI v)), some (.int (nI 1)), some (.int (S m_shownTo i)), some (.int (S m_sentBy i)), some (.int (S m_doneOf i)), some (.int (S oMod 2)), none, none, none, none, none, none, none, none, none]) hC dL_operates_69 (pc' := 71) rfl (by decide) rfl ?_
    refine xi_aload_n hC dL_operates_71 (pc' := 72) rfl rfl rfl ?_
    refine xi_iload hC dL_operates_72 (pc' := 74) rfl rfl ?_
    refine xi_iconst (v := nI 1) hC dL_operates_74 (pc' := 75) rfl (by decide +kernel) ?_
    refine xi_callV (As := [.int (nI v), .int (nI 1)]) (rest := []) (c_X7_view l D b (b + (k + 3)) (σ := σ4) (S := S) (N := N) (u := u) (w := w) hS hRσ4 (by omega) (x := (nI v)) (y := (nI 1))) hC dL_operates_75 (pc' := 78) rfl xw_m_L_43 xw_c_X7_view xw_ins_X7_view xw_sel_X7_view xw_ini_X7 xd_X7_view (xH_at.trans (xsh_7 kd_0)) rfl ⟨Nat.le_of_ble_eq_true rfl, Nat.le_of_ble_eq_true rfl⟩ rfl (Nat.le_of_ble_eq_true rfl) ⟨Nat.le_of_ble_eq_true rfl, Nat.le_of_ble_eq_true rfl⟩ ?_
    rintro _ _ ⟨r105, rfl, hO106, rfl⟩
    obtain rfl : r105 = (nI kp) := hO106 _ _ (sw_1 hv (by omega) hkp)
    show xV _ _ _ _ _ _ _ _ _ _ _ _ _ _ _ _ _ (xH D b σ4) _ _ [.int (nI kp)]
    refine xi_istore (lv' := [some (.ref (b + 0)), some (.int (nI i)), some (.int (nI u)), some (.int g), some (.ref (b + k)), some (.int (nI 0)), some (.int (nI 1)), some (.int (nI v)), some (.int (nI 1)), some (.int (S m_shownTo i)), some (.int (S m_sentBy i)), some (.int (S m_doneOf i)), some (.int (S oMod 2)), some (.int (nI kp)), none, none, none, none, none, none, none, none]) hC dL_operates_78 (pc' := 80) rfl (by decide) rfl ?_
    refine xi_iload_n hC dL_operates_80 (pc' := 81) rfl rfl rfl ?_
    refine xi_iconst (v := nI 1) hC dL_operates_81 (pc' := 82) rfl (by decide +kernel) ?_
    refine xi_iand hC dL_operates_82 (pc' := 83) rfl ?_
    refine xi_ifne (tgt := 90) hC dL_operates_83 (pc' := 86) rfl (by decide) (fun zc83 => ?_) (fun zc83 => ?_)
    · skip
      refine xi_iconst (v := nI 0) hC dL_operates_90 (pc' := 91) rfl (by decide +kernel) ?_
      refine xi_istore (lv' := [some (.ref (b + 0)), some (.int (nI i)), some (.int (nI u)), some (.int g), some (.ref (b + k)), some (.int (nI 0)), some (.int (nI 1)), some (.int (nI v)), some (.int (nI 1)), some (.int (S m_shownTo i)), some (.int (S m_sentBy i)), some (.int (S m_doneOf i)), some (.int (S oMod 2)), some (.int (nI kp)), some (.int (nI 0)), none, none, none, none, none, none, none]) hC dL_operates_91 (pc' := 93) rfl (by decide) rfl ?_
      refine xi_iload_n hC dL_operates_93 (pc' := 94) rfl rfl rfl ?_
      refine xi_iconst (v := nI 1) hC dL_operates_94 (pc' := 95) rfl (by decide +kernel) ?_
      refine xi_ishr hC dL_operates_95 (pc' := 96) rfl ?_
      refine xi_iload_n hC dL_operates_96 (pc' := 97) rfl rfl rfl ?_
      refine xi_callS (As := [.int (g >>> ((nI 1) &&& 31)), .int (nI u)]) (rest := []) (c_L_low l D b (b + (k + 3)) (h := (xH D b σ4)) (x := (g >>> ((nI 1) &&& 31))) (k := u) (by omega) (by omega)) hC dL_operates_97 (pc' := 100) rfl xw_m_L_46 xw_c_L_low xw_sta_L_low xw_ini_L xd_L_low ⟨Nat.le_of_ble_eq_true rfl, Nat.le_of_ble_eq_true rfl⟩ rfl (Nat.le_of_ble_eq_true rfl) ⟨Nat.le_of_ble_eq_true rfl, Nat.le_of_ble_eq_true rfl⟩ ?_
      rintro _ _ ⟨⟨j107, hj107, rfl⟩, rfl⟩
      show xV _ _ _ _ _ _ _ _ _ _ _ _ _ _ _ _ _ (xH D b σ4) _ _ [.int (nI j107)]
      refine xi_istore (lv' := [some (.ref (b + 0)), some (.int (nI i)), some (.int (nI u)), some (.int g), some (.ref (b + k)), some (.int (nI 0)), some (.int (nI 1)), some (.int (nI v)), some (.int (nI 1)), some (.int (S m_shownTo i)), some (.int (S m_sentBy i)), some (.int (S m_doneOf i)), some (.int (S oMod 2)), some (.int (nI kp)), some (.int (nI 0)), some (.int (nI j107)), none, none, none, none, none, none]) hC dL_operates_100 (pc' := 102) rfl (by decide) rfl ?_
      refine xi_iload_n hC dL_operates_102 (pc' := 103) rfl rfl rfl ?_
      refine xi_iconst (v := nI 4) hC dL_operates_103 (pc' := 104) rfl (by decide +kernel) ?_
      refine xi_ishr hC dL_operates_104 (pc' := 105) rfl ?_
      refine xi_sipush (v := nI 2001) hC dL_operates_105 (pc' := 108) rfl (by decide +kernel) ?_
      refine xi_callS (As := [.int (g >>> ((nI 4) &&& 31)), .int (nI 2001)]) (rest := []) (c_L_low l D b (b + (k + 3)) (h := (xH D b σ4)) (x := (g >>> ((nI 4) &&& 31))) (k := 2001) (by omega) (by omega)) hC dL_operates_108 (pc' := 111) rfl xw_m_L_46 xw_c_L_low xw_sta_L_low xw_ini_L xd_L_low ⟨Nat.le_of_ble_eq_true rfl, Nat.le_of_ble_eq_true rfl⟩ rfl (Nat.le_of_ble_eq_true rfl) ⟨Nat.le_of_ble_eq_true rfl, Nat.le_of_ble_eq_true rfl⟩ ?_
      rintro _ _ ⟨⟨j108, hj108, rfl⟩, rfl⟩
      show xV _ _ _ _ _ _ _ _ _ _ _ _ _ _ _ _ _ (xH D b σ4) _ _ [.int (nI j108)]
      refine xi_sipush (v := nI 1000) hC dL_operates_111 (pc' := 114) rfl (by decide +kernel) ?_
      refine xi_isub hC dL_operates_114 (pc' := 115) rfl ?_
      refine xi_istore (lv' := [some (.ref (b + 0)), some (.int (nI i)), some (.int (nI u)), some (.int g), some (.ref (b + k)), some (.int (nI 0)), some (.int (nI 1)), some (.int (nI v)), some (.int (nI 1)), some (.int (S m_shownTo i)), some (.int (S m_sentBy i)), some (.int (S m_doneOf i)), some (.int (S oMod 2)), some (.int (nI kp)), some (.int (nI 0)), some (.int (nI j107)), some (.int ((nI j108) - (nI 1000))), none, none, none, none, none]) hC dL_operates_115 (pc' := 117) rfl (by decide) rfl ?_
      refine xi_aload_n hC dL_operates_117 (pc' := 118) rfl rfl rfl ?_
      refine xi_iload hC dL_operates_118 (pc' := 120) rfl rfl ?_
      refine xi_iload hC dL_operates_120 (pc' := 122) rfl rfl ?_
      refine xi_callV (As := [.int (nI v), .int (nI j107)]) (rest := []) (c_X7_content l D b (b + (k + 3)) (σ := σ4) (S := S) (N := N) (u := u) (w := w) hS hRσ4 (by omega) (x := (nI v)) (y := (nI j107))) hC dL_operates_122 (pc' := 125) rfl xw_m_L_49 xw_c_X7_content xw_ins_X7_content xw_sel_X7_content xw_ini_X7 xd_X7_content (xH_at.trans (xsh_7 kd_0)) rfl ⟨Nat.le_of_ble_eq_true rfl, Nat.le_of_ble_eq_true rfl⟩ rfl (Nat.le_of_ble_eq_true rfl) ⟨Nat.le_of_ble_eq_true rfl, Nat.le_of_ble_eq_true rfl⟩ ?_
      rintro _ _ ⟨r109, rfl, hO110, rfl⟩
      obtain rfl : r109 = (cV S v j107) := hO110 _ (so_1 hv (by omega) (by omega) (by omega))
      show xV _ _ _ _ _ _ _ _ _ _ _ _ _ _ _ _ _ (xH D b σ4) _ _ [.int (cV S v j107)]
      refine xi_istore (lv' := [some (.ref (b + 0)), some (.int (nI i)), some (.int (nI u)), some (.int g), some (.ref (b + k)), some (.int (nI 0)), some (.int (nI 1)), some (.int (nI v)), some (.int (nI 1)), some (.int (S m_shownTo i)), some (.int (S m_sentBy i)), some (.int (S m_doneOf i)), some (.int (S oMod 2)), some (.int (nI kp)), some (.int (nI 0)), some (.int (nI j107)), some (.int ((nI j108) - (nI 1000))), some (.int (cV S v j107)), none, none, none, none]) hC dL_operates_125 (pc' := 127) rfl (by decide) rfl ?_
      refine xi_aload_n hC dL_operates_127 (pc' := 128) rfl rfl rfl ?_
      refine xi_iload_n hC dL_operates_128 (pc' := 129) rfl rfl rfl ?_
      refine xi_callV (As := [.int (nI i)]) (rest := []) (c_X7_lastRead l D b (b + (k + 3)) (σ := σ4) (S := S) (N := N) (u := u) (w := w) hS hRσ4 (by omega) (x := (nI i))) hC dL_operates_129 (pc' := 132) rfl xw_m_L_52 xw_c_X7_lastRead xw_ins_X7_lastRead xw_sel_X7_lastRead xw_ini_X7 xd_X7_lastRead (xH_at.trans (xsh_7 kd_0)) rfl ⟨Nat.le_of_ble_eq_true rfl, Nat.le_of_ble_eq_true rfl⟩ rfl (Nat.le_of_ble_eq_true rfl) ⟨Nat.le_of_ble_eq_true rfl, Nat.le_of_ble_eq_true rfl⟩ ?_
      rintro _ _ ⟨r111, rfl, hO112, rfl⟩
      obtain rfl : r111 = (lastV S i) := hO112 _ (sl_1 (by omega) (by omega))
      show xV _ _ _ _ _ _ _ _ _ _ _ _ _ _ _ _ _ (xH D b σ4) _ _ [.int (lastV S i)]
      refine xi_istore (lv' := [some (.ref (b + 0)), some (.int (nI i)), some (.int (nI u)), some (.int g), some (.ref (b + k)), some (.int (nI 0)), some (.int (nI 1)), some (.int (nI v)), some (.int (nI 1)), some (.int (S m_shownTo i)), some (.int (S m_sentBy i)), some (.int (S m_doneOf i)), some (.int (S oMod 2)), some (.int (nI kp)), some (.int (nI 0)), some (.int (nI j107)), some (.int ((nI j108) - (nI 1000))), some (.int (cV S v j107)), some (.int (lastV S i)), none, none, none]) hC dL_operates_132 (pc' := 134) rfl (by decide) rfl ?_
      refine xi_iload hC dL_operates_134 (pc' := 136) rfl rfl ?_
      refine xn_ifeq (tgt := 149) hC dL_operates_136 (pc' := 139) rfl (by decide) (by omega) (fun zc136 => ?_) (fun zc136 => ?_)
      · skip
        refine xi_aload_n hC dL_operates_149 (pc' := 150) rfl rfl rfl ?_
        refine xi_iload_n hC dL_operates_150 (pc' := 151) rfl rfl rfl ?_
        refine xi_iload hC dL_operates_151 (pc' := 153) rfl rfl ?_
        refine xi_callV (As := [.int (nI i), .int (nI j107)]) (rest := []) (c_X7_read l D b (b + (k + 3)) (σ := σ4) (S := S) (N := N) (u := u) (w := w) hS hRσ4 (by omega) (x := (nI i)) (y := (nI j107))) hC dL_operates_153 (pc' := 156) rfl xw_m_L_58 xw_c_X7_read xw_ins_X7_read xw_sel_X7_read xw_ini_X7 xd_X7_read (xH_at.trans (xsh_7 kd_0)) rfl ⟨Nat.le_of_ble_eq_true rfl, Nat.le_of_ble_eq_true rfl⟩ rfl (Nat.le_of_ble_eq_true rfl) ⟨Nat.le_of_ble_eq_true rfl, Nat.le_of_ble_eq_true rfl⟩ ?_
        rintro _ _ ⟨r113, σ114, rfl, hHσ114, hO116, rfl⟩
        obtain ⟨rT115, T115, hZT115⟩ := ex_read (S := S) (u := u) (w := w) (x := nI i) (y := (nI j107)) hS.1
        obtain ⟨eT115, hRσ114⟩ := hO116 rT115 T115 hZT115
        have hST115 := SI_read hS hZT115
        have hJT115 := (JJ_read hS.1 hJ hZT115).up (Nat.le_succ N)
        have hP0 : S m_hasProof i = 0 := Classical.not_not.mp (fun q => al_no hA ((hJ i hi).2.1 q))
        obtain ⟨e2T115, f5, f1, f6, f4, fc, fk, f0, fl, fp2, fp1⟩ := r_al hZT115 hi hj107 hA (by omega) hV hkp5 hkp hP0 hx (by decide)
        obtain rfl : r113 = nI 1 := eT115.trans e2T115
        have hlσ114_k : σ114 k 4096 = nI 8 := by rw [hHσ114 k (by omega)]; exact hlσ4
        show xV _ _ _ _ _ _ _ _ _ _ _ _ _ _ _ _ _ (xH D b σ114) _ _ [.int (nI 1)]
        refine xi_istore (lv' := [some (.ref (b + 0)), some (.int (nI i)), some (.int (nI u)), some (.int g), some (.ref (b + k)), some (.int (nI 0)), some (.int (nI 1)), some (.int (nI v)), some (.int (nI 1)), some (.int (S m_shownTo i)), some (.int (S m_sentBy i)), some (.int (S m_doneOf i)), some (.int (S oMod 2)), some (.int (nI kp)), some (.int (nI 0)), some (.int (nI j107)), some (.int ((nI j108) - (nI 1000))), some (.int (cV S v j107)), some (.int (lastV S i)), some (.int (nI 1)), none, none]) hC dL_operates_156 (pc' := 158) rfl (by decide) rfl ?_
        refine xi_iload hC dL_operates_158 (pc' := 160) rfl rfl ?_
        refine xn_ifle (tgt := 207) hC dL_operates_160 (pc' := 163) rfl (by decide) (by omega) (fun zc160 => ?_) (fun zc160 => ?_)
        · skip
          refine xi_iload hC dL_operates_207 (pc' := 209) rfl rfl ?_
          refine xi_iload hC dL_operates_209 (pc' := 211) rfl rfl ?_
          refine xn_icmpne (tgt := 247) hC dL_operates_211 (pc' := 214) rfl (by decide) (by omega) (by omega) (fun zc211 => ?_) (fun zc211 => ?_)
          · exact absurd zc211 (by decide)
          · skip
            refine xi_iload hC dL_operates_214 (pc' := 216) rfl rfl ?_
            refine xi_iload hC dL_operates_216 (pc' := 218) rfl rfl ?_
            refine xn_icmpne (tgt := 247) hC dL_operates_218 (pc' := 221) rfl (by decide) (by omega) (by omega) (fun zc218 => ?_) (fun zc218 => ?_)
            · exact absurd zc218 (by decide)
            · skip
              refine xi_aload_n hC dL_operates_221 (pc' := 222) rfl rfl rfl ?_
              refine xi_iload_n hC dL_operates_222 (pc' := 223) rfl rfl rfl ?_
              refine xi_iconst (v := nI 5) hC dL_operates_223 (pc' := 224) rfl (by decide +kernel) ?_
              refine xi_callV (As := [.int (nI i), .int (nI 5)]) (rest := []) (c_X7_user l D b (b + (k + 3)) (σ := σ114) (S := T115) (N := (N + 1)) (u := u) (w := w) hST115 hRσ114 (by omega) (x := (nI i)) (y := (nI 5))) hC dL_operates_224 (pc' := 227) rfl xw_m_L_18 xw_c_X7_user xw_ins_X7_user xw_sel_X7_user xw_ini_X7 xd_X7_user (xH_at.trans (xsh_7 kd_0)) rfl ⟨Nat.le_of_ble_eq_true rfl, Nat.le_of_ble_eq_true rfl⟩ rfl (Nat.le_of_ble_eq_true rfl) ⟨Nat.le_of_ble_eq_true rfl, Nat.le_of_ble_eq_true rfl⟩ ?_
              rintro _ _ ⟨r117, rfl, hO118, rfl⟩
              obtain rfl : r117 = ((S m_shownTo i) + (nI (u * u))) := (hO118 _ (su_5 (by omega) (by omega))).trans (f5)
              show xV _ _ _ _ _ _ _ _ _ _ _ _ _ _ _ _ _ (xH D b σ114) _ _ [.int ((S m_shownTo i) + (nI (u * u)))]
              refine xi_iload hC dL_operates_227 (pc' := 229) rfl rfl ?_
              refine xi_iload_n hC dL_operates_229 (pc' := 230) rfl rfl rfl ?_
              refine xi_iload_n hC dL_operates_230 (pc' := 231) rfl rfl rfl ?_
              refine xn_imul hC dL_operates_231 (pc' := 232) rfl ?_
              refine xi_iadd hC dL_operates_232 (pc' := 233) rfl ?_
              refine xi_icmpne (tgt := 247) hC dL_operates_233 (pc' := 236) rfl (by decide) (fun zc233 => ?_) (fun zc233 => ?_)
              · exact absurd rfl zc233
              · skip
                refine xi_aload_n hC dL_operates_236 (pc' := 237) rfl rfl rfl ?_
                refine xi_iload_n hC dL_operates_237 (pc' := 238) rfl rfl rfl ?_
                refine xi_iconst (v := nI 1) hC dL_operates_238 (pc' := 239) rfl (by decide +kernel) ?_
                refine xi_callV (As := [.int (nI i), .int (nI 1)]) (rest := []) (c_X7_user l D b (b + (k + 3)) (σ := σ114) (S := T115) (N := (N + 1)) (u := u) (w := w) hST115 hRσ114 (by omega) (x := (nI i)) (y := (nI 1))) hC dL_operates_239 (pc' := 242) rfl xw_m_L_18 xw_c_X7_user xw_ins_X7_user xw_sel_X7_user xw_ini_X7 xd_X7_user (xH_at.trans (xsh_7 kd_0)) rfl ⟨Nat.le_of_ble_eq_true rfl, Nat.le_of_ble_eq_true rfl⟩ rfl (Nat.le_of_ble_eq_true rfl) ⟨Nat.le_of_ble_eq_true rfl, Nat.le_of_ble_eq_true rfl⟩ ?_
                rintro _ _ ⟨r119, rfl, hO120, rfl⟩
                obtain rfl : r119 = (nI 1) := hO120 _ (su_1 (by omega) (by omega) f1)
                show xV _ _ _ _ _ _ _ _ _ _ _ _ _ _ _ _ _ (xH D b σ114) _ _ [.int (nI 1)]
                refine xi_iload hC dL_operates_242 (pc' := 244) rfl rfl ?_
                refine xn_icmpeq (tgt := 249) hC dL_operates_244 (pc' := 247) rfl (by decide) (by omega) (by omega) (fun zc244 => ?_) (fun zc244 => ?_)
                · skip
                  refine xi_iload hC dL_operates_249 (pc' := 251) rfl rfl ?_
                  refine xn_ifle (tgt := 354) hC dL_operates_251 (pc' := 254) rfl (by decide) (by omega) (fun zc251 => ?_) (fun zc251 => ?_)
                  · first | exact zc251.elim | exact absurd zc251 (by decide)
                  · skip
                    refine xi_aload_n hC dL_operates_254 (pc' := 255) rfl rfl rfl ?_
                    refine xi_iload_n hC dL_operates_255 (pc' := 256) rfl rfl rfl ?_
                    refine xi_iconst (v := nI 2) hC dL_operates_256 (pc' := 257) rfl (by decide +kernel) ?_
                    refine xi_callV (As := [.int (nI i), .int (nI 2)]) (rest := []) (c_X7_user l D b (b + (k + 3)) (σ := σ114) (S := T115) (N := (N + 1)) (u := u) (w := w) hST115 hRσ114 (by omega) (x := (nI i)) (y := (nI 2))) hC dL_operates_257 (pc' := 260) rfl xw_m_L_18 xw_c_X7_user xw_ins_X7_user xw_sel_X7_user xw_ini_X7 xd_X7_user (xH_at.trans (xsh_7 kd_0)) rfl ⟨Nat.le_of_ble_eq_true rfl, Nat.le_of_ble_eq_true rfl⟩ rfl (Nat.le_of_ble_eq_true rfl) ⟨Nat.le_of_ble_eq_true rfl, Nat.le_of_ble_eq_true rfl⟩ ?_
                    rintro _ _ ⟨r121, rfl, hO122, rfl⟩
                    obtain rfl : r121 = (nI 0) := hO122 _ (su_2f (by omega) (by omega) (fp1 rfl))
                    show xV _ _ _ _ _ _ _ _ _ _ _ _ _ _ _ _ _ (xH D b σ114) _ _ [.int (nI 0)]
                    refine xi_iconst (v := nI 1) hC dL_operates_260 (pc' := 261) rfl (by decide +kernel) ?_
                    refine xn_icmpne (tgt := 268) hC dL_operates_261 (pc' := 264) rfl (by decide) (by omega) (by omega) (fun zc261 => ?_) (fun zc261 => ?_)
                    · skip
                      refine xi_iconst (v := nI 0) hC dL_operates_268 (pc' := 269) rfl (by decide +kernel) ?_
                      refine xi_istore (lv' := [some (.ref (b + 0)), some (.int (nI i)), some (.int (nI u)), some (.int g), some (.ref (b + k)), some (.int (nI 0)), some (.int (nI 1)), some (.int (nI v)), some (.int (nI 1)), some (.int (S m_shownTo i)), some (.int (S m_sentBy i)), some (.int (S m_doneOf i)), some (.int (S oMod 2)), some (.int (nI kp)), some (.int (nI 0)), some (.int (nI j107)), some (.int ((nI j108) - (nI 1000))), some (.int (cV S v j107)), some (.int (lastV S i)), some (.int (nI 1)), some (.int (nI 0)), none]) hC dL_operates_269 (pc' := 271) rfl (by decide) rfl ?_
                      refine xi_aload_n hC dL_operates_271 (pc' := 272) rfl rfl rfl ?_
                      refine xi_iload_n hC dL_operates_272 (pc' := 273) rfl rfl rfl ?_
                      refine xi_bipush (v := nI 6) hC dL_operates_273 (pc' := 275) rfl (by decide +kernel) ?_
                      refine xi_callV (As := [.int (nI i), .int (nI 6)]) (rest := []) (c_X7_user l D b (b + (k + 3)) (σ := σ114) (S := T115) (N := (N + 1)) (u := u) (w := w) hST115 hRσ114 (by omega) (x := (nI i)) (y := (nI 6))) hC dL_operates_275 (pc' := 278) rfl xw_m_L_18 xw_c_X7_user xw_ins_X7_user xw_sel_X7_user xw_ini_X7 xd_X7_user (xH_at.trans (xsh_7 kd_0)) rfl ⟨Nat.le_of_ble_eq_true rfl, Nat.le_of_ble_eq_true rfl⟩ rfl (Nat.le_of_ble_eq_true rfl) ⟨Nat.le_of_ble_eq_true rfl, Nat.le_of_ble_eq_true rfl⟩ ?_
                      rintro _ _ ⟨r123, rfl, hO124, rfl⟩
                      obtain rfl : r123 = (S m_sentBy i) := (hO124 _ (su_6 (by omega) (by omega))).trans (f6)
                      show xV _ _ _ _ _ _ _ _ _ _ _ _ _ _ _ _ _ (xH D b σ114) _ _ [.int (S m_sentBy i)]
                      refine xi_iload hC dL_operates_278 (pc' := 280) rfl rfl ?_
                      refine xi_icmpne (tgt := 352) hC dL_operates_280 (pc' := 283) rfl (by decide) (fun zc280 => ?_) (fun zc280 => ?_)
                      · exact absurd rfl zc280
                      · skip
                        refine xi_aload_n hC dL_operates_283 (pc' := 284) rfl rfl rfl ?_
                        refine xi_iload_n hC dL_operates_284 (pc' := 285) rfl rfl rfl ?_
                        refine xi_iconst (v := nI 4) hC dL_operates_285 (pc' := 286) rfl (by decide +kernel) ?_
                        refine xi_callV (As := [.int (nI i), .int (nI 4)]) (rest := []) (c_X7_user l D b (b + (k + 3)) (σ := σ114) (S := T115) (N := (N + 1)) (u := u) (w := w) hST115 hRσ114 (by omega) (x := (nI i)) (y := (nI 4))) hC dL_operates_286 (pc' := 289) rfl xw_m_L_18 xw_c_X7_user xw_ins_X7_user xw_sel_X7_user xw_ini_X7 xd_X7_user (xH_at.trans (xsh_7 kd_0)) rfl ⟨Nat.le_of_ble_eq_true rfl, Nat.le_of_ble_eq_true rfl⟩ rfl (Nat.le_of_ble_eq_true rfl) ⟨Nat.le_of_ble_eq_true rfl, Nat.le_of_ble_eq_true rfl⟩ ?_
                        rintro _ _ ⟨r125, rfl, hO126, rfl⟩
                        obtain rfl : r125 = (S m_doneOf i) := (hO126 _ (su_4 (by omega) (by omega))).trans (f4)
                        show xV _ _ _ _ _ _ _ _ _ _ _ _ _ _ _ _ _ (xH D b σ114) _ _ [.int (S m_doneOf i)]
                        refine xi_iload hC dL_operates_289 (pc' := 291) rfl rfl ?_
                        refine xi_icmpne (tgt := 352) hC dL_operates_291 (pc' := 294) rfl (by decide) (fun zc291 => ?_) (fun zc291 => ?_)
                        · exact absurd rfl zc291
                        · skip
                          refine xi_aload_n hC dL_operates_294 (pc' := 295) rfl rfl rfl ?_
                          refine xi_iconst (v := nI 4) hC dL_operates_295 (pc' := 296) rfl (by decide +kernel) ?_
                          refine xi_callV (As := [.int (nI 4)]) (rest := []) (c_X7_count l D b (b + (k + 3)) (σ := σ114) (S := T115) (N := (N + 1)) (u := u) (w := w) hST115 hRσ114 (by omega) (x := (nI 4))) hC dL_operates_296 (pc' := 299) rfl xw_m_L_40 xw_c_X7_count xw_ins_X7_count xw_sel_X7_count xw_ini_X7 xd_X7_count (xH_at.trans (xsh_7 kd_0)) rfl ⟨Nat.le_of_ble_eq_true rfl, Nat.le_of_ble_eq_true rfl⟩ rfl (Nat.le_of_ble_eq_true rfl) ⟨Nat.le_of_ble_eq_true rfl, Nat.le_of_ble_eq_true rfl⟩ ?_
                          rintro _ _ ⟨r127, rfl, hO128, rfl⟩
                          obtain rfl : r127 = (S oMod 2) := (hO128 _ (sc_4)).trans (fc)
                          show xV _ _ _ _ _ _ _ _ _ _ _ _ _ _ _ _ _ (xH D b σ114) _ _ [.int (S oMod 2)]
                          refine xi_iload hC dL_operates_299 (pc' := 301) rfl rfl ?_
                          refine xi_icmpne (tgt := 352) hC dL_operates_301 (pc' := 304) rfl (by decide) (fun zc301 => ?_) (fun zc301 => ?_)
                          · exact absurd rfl zc301
                          · skip
                            refine xi_aload_n hC dL_operates_304 (pc' := 305) rfl rfl rfl ?_
                            refine xi_iload hC dL_operates_305 (pc' := 307) rfl rfl ?_
                            refine xi_iconst (v := nI 1) hC dL_operates_307 (pc' := 308) rfl (by decide +kernel) ?_
                            refine xi_callV (As := [.int (nI v), .int (nI 1)]) (rest := []) (c_X7_view l D b (b + (k + 3)) (σ := σ114) (S := T115) (N := (N + 1)) (u := u) (w := w) hST115 hRσ114 (by omega) (x := (nI v)) (y := (nI 1))) hC dL_operates_308 (pc' := 311) rfl xw_m_L_43 xw_c_X7_view xw_ins_X7_view xw_sel_X7_view xw_ini_X7 xd_X7_view (xH_at.trans (xsh_7 kd_0)) rfl ⟨Nat.le_of_ble_eq_true rfl, Nat.le_of_ble_eq_true rfl⟩ rfl (Nat.le_of_ble_eq_true rfl) ⟨Nat.le_of_ble_eq_true rfl, Nat.le_of_ble_eq_true rfl⟩ ?_
                            rintro _ _ ⟨r129, rfl, hO130, rfl⟩
                            obtain rfl : r129 = (nI kp) := hO130 _ _ (sw_1 hv (by omega) fk)
                            show xV _ _ _ _ _ _ _ _ _ _ _ _ _ _ _ _ _ (xH D b σ114) _ _ [.int (nI kp)]
                            refine xi_iload hC dL_operates_311 (pc' := 313) rfl rfl ?_
                            refine xi_icmpne (tgt := 352) hC dL_operates_313 (pc' := 316) rfl (by decide) (fun zc313 => ?_) (fun zc313 => ?_)
                            · exact absurd rfl zc313
                            · skip
                              refine xi_iload hC dL_operates_316 (pc' := 318) rfl rfl ?_
                              refine xi_iconst (v := nI 2) hC dL_operates_318 (pc' := 319) rfl (by decide +kernel) ?_
                              refine xn_icmpne (tgt := 327) hC dL_operates_319 (pc' := 322) rfl (by decide) (by omega) (by omega) (fun zc319 => ?_) (fun zc319 => ?_)
                              · skip
                                refine xi_iload hC dL_operates_327 (pc' := 329) rfl rfl ?_
                                refine xi_iconst (v := nI 1) hC dL_operates_329 (pc' := 330) rfl (by decide +kernel) ?_
                                refine xn_icmpne (tgt := 338) hC dL_operates_330 (pc' := 333) rfl (by decide) (by omega) (by omega) (fun zc330 => ?_) (fun zc330 => ?_)
                                · exact absurd zc330 (by decide)
                                · skip
                                  refine xi_iload hC dL_operates_333 (pc' := 335) rfl rfl ?_
                                  refine xn_ifne (tgt := 352) hC dL_operates_335 (pc' := 338) rfl (by decide) (by omega) (fun zc335 => ?_) (fun zc335 => ?_)
                                  · exact absurd zc335 (by decide)
                                  · skip
                                    refine xi_aload_n hC dL_operates_338 (pc' := 339) rfl rfl rfl ?_
                                    refine xi_iload_n hC dL_operates_339 (pc' := 340) rfl rfl rfl ?_
                                    refine xi_callV (As := [.int (nI i)]) (rest := []) (c_X7_lastRead l D b (b + (k + 3)) (σ := σ114) (S := T115) (N := (N + 1)) (u := u) (w := w) hST115 hRσ114 (by omega) (x := (nI i))) hC dL_operates_340 (pc' := 343) rfl xw_m_L_52 xw_c_X7_lastRead xw_ins_X7_lastRead xw_sel_X7_lastRead xw_ini_X7 xd_X7_lastRead (xH_at.trans (xsh_7 kd_0)) rfl ⟨Nat.le_of_ble_eq_true rfl, Nat.le_of_ble_eq_true rfl⟩ rfl (Nat.le_of_ble_eq_true rfl) ⟨Nat.le_of_ble_eq_true rfl, Nat.le_of_ble_eq_true rfl⟩ ?_
                                    rintro _ _ ⟨r131, rfl, hO132, rfl⟩
                                    obtain rfl : r131 = (lastV S i) := (hO132 _ (sl_1 (by omega) (by omega))).trans (fl)
                                    show xV _ _ _ _ _ _ _ _ _ _ _ _ _ _ _ _ _ (xH D b σ114) _ _ [.int (lastV S i)]
                                    refine xi_iload hC dL_operates_343 (pc' := 345) rfl rfl ?_
                                    refine xi_icmpne (tgt := 352) hC dL_operates_345 (pc' := 348) rfl (by decide) (fun zc345 => ?_) (fun zc345 => ?_)
                                    · exact absurd rfl zc345
                                    · skip
                                      refine xi_iconst (v := nI 1) hC dL_operates_348 (pc' := 349) rfl (by decide +kernel) ?_
                                      refine xi_goto (tgt := 353) hC dL_operates_349 (by decide) ?_
                                      refine xb_ireturn hC dL_operates_353 hr (by decide) rfl ?_
                                      exact ⟨σ114, T115, rfl, hST115, hRσ114, hJT115, rfl⟩
                              · exact absurd zc319 (by decide)
                    · exact absurd zc261 (by decide)
                · exact absurd zc244 (by decide)
        · first | exact zc160.elim | exact absurd zc160 (by decide)
      · exact absurd zc136 (by decide)
    · skip
      refine xi_iconst (v := nI 1) hC dL_operates_86 (pc' := 87) rfl (by decide +kernel) ?_
      refine xi_goto (tgt := 91) hC dL_operates_87 (by decide) ?_
      refine xi_istore (lv' := [some (.ref (b + 0)), some (.int (nI i)), some (.int (nI u)), some (.int g), some (.ref (b + k)), some (.int (nI 0)), some (.int (nI 1)), some (.int (nI v)), some (.int (nI 1)), some (.int (S m_shownTo i)), some (.int (S m_sentBy i)), some (.int (S m_doneOf i)), some (.int (S oMod 2)), some (.int (nI kp)), some (.int (nI 1)), none, none, none, none, none, none, none]) hC dL_operates_91 (pc' := 93) rfl (by decide) rfl ?_
      refine xi_iload_n hC dL_operates_93 (pc' := 94) rfl rfl rfl ?_
      refine xi_iconst (v := nI 1) hC dL_operates_94 (pc' := 95) rfl (by decide +kernel) ?_
      refine xi_ishr hC dL_operates_95 (pc' := 96) rfl ?_
      refine xi_iload_n hC dL_operates_96 (pc' := 97) rfl rfl rfl ?_
      refine xi_callS (As := [.int (g >>> ((nI 1) &&& 31)), .int (nI u)]) (rest := []) (c_L_low l D b (b + (k + 3)) (h := (xH D b σ4)) (x := (g >>> ((nI 1) &&& 31))) (k := u) (by omega) (by omega)) hC dL_operates_97 (pc' := 100) rfl xw_m_L_46 xw_c_L_low xw_sta_L_low xw_ini_L xd_L_low ⟨Nat.le_of_ble_eq_true rfl, Nat.le_of_ble_eq_true rfl⟩ rfl (Nat.le_of_ble_eq_true rfl) ⟨Nat.le_of_ble_eq_true rfl, Nat.le_of_ble_eq_true rfl⟩ ?_
      rintro _ _ ⟨⟨j133, hj133, rfl⟩, rfl⟩
      show xV _ _ _ _ _ _ _ _ _ _ _ _ _ _ _ _ _ (xH D b σ4) _ _ [.int (nI j133)]
      refine xi_istore (lv' := [some (.ref (b + 0)), some (.int (nI i)), some (.int (nI u)), some (.int g), some (.ref (b + k)), some (.int (nI 0)), some (.int (nI 1)), some (.int (nI v)), some (.int (nI 1)), some (.int (S m_shownTo i)), some (.int (S m_sentBy i)), some (.int (S m_doneOf i)), some (.int (S oMod 2)), some (.int (nI kp)), some (.int (nI 1)), some (.int (nI j133)), none, none, none, none, none, none]) hC dL_operates_100 (pc' := 102) rfl (by decide) rfl ?_
      refine xi_iload_n hC dL_operates_102 (pc' := 103) rfl rfl rfl ?_
      refine xi_iconst (v := nI 4) hC dL_operates_103 (pc' := 104) rfl (by decide +kernel) ?_
      refine xi_ishr hC dL_operates_104 (pc' := 105) rfl ?_
      refine xi_sipush (v := nI 2001) hC dL_operates_105 (pc' := 108) rfl (by decide +kernel) ?_
      refine xi_callS (As := [.int (g >>> ((nI 4) &&& 31)), .int (nI 2001)]) (rest := []) (c_L_low l D b (b + (k + 3)) (h := (xH D b σ4)) (x := (g >>> ((nI 4) &&& 31))) (k := 2001) (by omega) (by omega)) hC dL_operates_108 (pc' := 111) rfl xw_m_L_46 xw_c_L_low xw_sta_L_low xw_ini_L xd_L_low ⟨Nat.le_of_ble_eq_true rfl, Nat.le_of_ble_eq_true rfl⟩ rfl (Nat.le_of_ble_eq_true rfl) ⟨Nat.le_of_ble_eq_true rfl, Nat.le_of_ble_eq_true rfl⟩ ?_
      rintro _ _ ⟨⟨j134, hj134, rfl⟩, rfl⟩
      show xV _ _ _ _ _ _ _ _ _ _ _ _ _ _ _ _ _ (xH D b σ4) _ _ [.int (nI j134)]
      refine xi_sipush (v := nI 1000) hC dL_operates_111 (pc' := 114) rfl (by decide +kernel) ?_
      refine xi_isub hC dL_operates_114 (pc' := 115) rfl ?_
      refine xi_istore (lv' := [some (.ref (b + 0)), some (.int (nI i)), some (.int (nI u)), some (.int g), some (.ref (b + k)), some (.int (nI 0)), some (.int (nI 1)), some (.int (nI v)), some (.int (nI 1)), some (.int (S m_shownTo i)), some (.int (S m_sentBy i)), some (.int (S m_doneOf i)), some (.int (S oMod 2)), some (.int (nI kp)), some (.int (nI 1)), some (.int (nI j133)), some (.int ((nI j134) - (nI 1000))), none, none, none, none, none]) hC dL_operates_115 (pc' := 117) rfl (by decide) rfl ?_
      refine xi_aload_n hC dL_operates_117 (pc' := 118) rfl rfl rfl ?_
      refine xi_iload hC dL_operates_118 (pc' := 120) rfl rfl ?_
      refine xi_iload hC dL_operates_120 (pc' := 122) rfl rfl ?_
      refine xi_callV (As := [.int (nI v), .int (nI j133)]) (rest := []) (c_X7_content l D b (b + (k + 3)) (σ := σ4) (S := S) (N := N) (u := u) (w := w) hS hRσ4 (by omega) (x := (nI v)) (y := (nI j133))) hC dL_operates_122 (pc' := 125) rfl xw_m_L_49 xw_c_X7_content xw_ins_X7_content xw_sel_X7_content xw_ini_X7 xd_X7_content (xH_at.trans (xsh_7 kd_0)) rfl ⟨Nat.le_of_ble_eq_true rfl, Nat.le_of_ble_eq_true rfl⟩ rfl (Nat.le_of_ble_eq_true rfl) ⟨Nat.le_of_ble_eq_true rfl, Nat.le_of_ble_eq_true rfl⟩ ?_
      rintro _ _ ⟨r135, rfl, hO136, rfl⟩
      obtain rfl : r135 = (cV S v j133) := hO136 _ (so_1 hv (by omega) (by omega) (by omega))
      show xV _ _ _ _ _ _ _ _ _ _ _ _ _ _ _ _ _ (xH D b σ4) _ _ [.int (cV S v j133)]
      refine xi_istore (lv' := [some (.ref (b + 0)), some (.int (nI i)), some (.int (nI u)), some (.int g), some (.ref (b + k)), some (.int (nI 0)), some (.int (nI 1)), some (.int (nI v)), some (.int (nI 1)), some (.int (S m_shownTo i)), some (.int (S m_sentBy i)), some (.int (S m_doneOf i)), some (.int (S oMod 2)), some (.int (nI kp)), some (.int (nI 1)), some (.int (nI j133)), some (.int ((nI j134) - (nI 1000))), some (.int (cV S v j133)), none, none, none, none]) hC dL_operates_125 (pc' := 127) rfl (by decide) rfl ?_
      refine xi_aload_n hC dL_operates_127 (pc' := 128) rfl rfl rfl ?_
      refine xi_iload_n hC dL_operates_128 (pc' := 129) rfl rfl rfl ?_
      refine xi_callV (As := [.int (nI i)]) (rest := []) (c_X7_lastRead l D b (b + (k + 3)) (σ := σ4) (S := S) (N := N) (u := u) (w := w) hS hRσ4 (by omega) (x := (nI i))) hC dL_operates_129 (pc' := 132) rfl xw_m_L_52 xw_c_X7_lastRead xw_ins_X7_lastRead xw_sel_X7_lastRead xw_ini_X7 xd_X7_lastRead (xH_at.trans (xsh_7 kd_0)) rfl ⟨Nat.le_of_ble_eq_true rfl, Nat.le_of_ble_eq_true rfl⟩ rfl (Nat.le_of_ble_eq_true rfl) ⟨Nat.le_of_ble_eq_true rfl, Nat.le_of_ble_eq_true rfl⟩ ?_
      rintro _ _ ⟨r137, rfl, hO138, rfl⟩
      obtain rfl : r137 = (lastV S i) := hO138 _ (sl_1 (by omega) (by omega))
      show xV _ _ _ _ _ _ _ _ _ _ _ _ _ _ _ _ _ (xH D b σ4) _ _ [.int (lastV S i)]
      refine xi_istore (lv' := [some (.ref (b + 0)), some (.int (nI i)), some (.int (nI u)), some (.int g), some (.ref (b + k)), some (.int (nI 0)), some (.int (nI 1)), some (.int (nI v)), some (.int (nI 1)), some (.int (S m_shownTo i)), some (.int (S m_sentBy i)), some (.int (S m_doneOf i)), some (.int (S oMod 2)), some (.int (nI kp)), some (.int (nI 1)), some (.int (nI j133)), some (.int ((nI j134) - (nI 1000))), some (.int (cV S v j133)), some (.int (lastV S i)), none, none, none]) hC dL_operates_132 (pc' := 134) rfl (by decide) rfl ?_
      refine xi_iload hC dL_operates_134 (pc' := 136) rfl rfl ?_
      refine xn_ifeq (tgt := 149) hC dL_operates_136 (pc' := 139) rfl (by decide) (by omega) (fun zc136 => ?_) (fun zc136 => ?_)
      · exact absurd zc136 (by decide)
      · skip
        refine xi_aload_n hC dL_operates_139 (pc' := 140) rfl rfl rfl ?_
        refine xi_iload_n hC dL_operates_140 (pc' := 141) rfl rfl rfl ?_
        refine xi_iload hC dL_operates_141 (pc' := 143) rfl rfl ?_
        refine xi_callV (As := [.int (nI i), .int ((nI j134) - (nI 1000))]) (rest := []) (c_X7_write l D b (b + (k + 3)) (σ := σ4) (S := S) (N := N) (u := u) (w := w) hS hRσ4 (by omega) (x := (nI i)) (y := ((nI j134) - (nI 1000)))) hC dL_operates_143 (pc' := 146) rfl xw_m_L_55 xw_c_X7_write xw_ins_X7_write xw_sel_X7_write xw_ini_X7 xd_X7_write (xH_at.trans (xsh_7 kd_0)) rfl ⟨Nat.le_of_ble_eq_true rfl, Nat.le_of_ble_eq_true rfl⟩ rfl (Nat.le_of_ble_eq_true rfl) ⟨Nat.le_of_ble_eq_true rfl, Nat.le_of_ble_eq_true rfl⟩ ?_
        rintro _ _ ⟨r139, σ140, rfl, hHσ140, hO142, rfl⟩
        obtain ⟨rT141, T141, hZT141⟩ := ex_write (S := S) (u := u) (w := w) (x := nI i) (y := ((nI j134) - (nI 1000))) hS.1
        obtain ⟨eT141, hRσ140⟩ := hO142 rT141 T141 hZT141
        have hST141 := SI_write hS hZT141
        have hJT141 := (JJ_write hS.1 hJ hZT141).up (Nat.le_succ N)
        have hP0 : S m_hasProof i = 0 := Classical.not_not.mp (fun q => al_no hA ((hJ i hi).2.1 q))
        obtain ⟨e2T141, f5, f1, f6, f4, fc, fk, f0, fl, fp2, fp1⟩ := w_al hZT141 hi (low_inR hj134) hA (by omega) hV hkp5 hkp hP0 hx (by decide)
        obtain rfl : r139 = nI 1 := eT141.trans e2T141
        have hlσ140_k : σ140 k 4096 = nI 8 := by rw [hHσ140 k (by omega)]; exact hlσ4
        show xV _ _ _ _ _ _ _ _ _ _ _ _ _ _ _ _ _ (xH D b σ140) _ _ [.int (nI 1)]
        refine xi_goto (tgt := 156) hC dL_operates_146 (by decide) ?_
        refine xi_istore (lv' := [some (.ref (b + 0)), some (.int (nI i)), some (.int (nI u)), some (.int g), some (.ref (b + k)), some (.int (nI 0)), some (.int (nI 1)), some (.int (nI v)), some (.int (nI 1)), some (.int (S m_shownTo i)), some (.int (S m_sentBy i)), some (.int (S m_doneOf i)), some (.int (S oMod 2)), some (.int (nI kp)), some (.int (nI 1)), some (.int (nI j133)), some (.int ((nI j134) - (nI 1000))), some (.int (cV S v j133)), some (.int (lastV S i)), some (.int (nI 1)), none, none]) hC dL_operates_156 (pc' := 158) rfl (by decide) rfl ?_
        refine xi_iload hC dL_operates_158 (pc' := 160) rfl rfl ?_
        refine xn_ifle (tgt := 207) hC dL_operates_160 (pc' := 163) rfl (by decide) (by omega) (fun zc160 => ?_) (fun zc160 => ?_)
        · skip
          refine xi_iload hC dL_operates_207 (pc' := 209) rfl rfl ?_
          refine xi_iload hC dL_operates_209 (pc' := 211) rfl rfl ?_
          refine xn_icmpne (tgt := 247) hC dL_operates_211 (pc' := 214) rfl (by decide) (by omega) (by omega) (fun zc211 => ?_) (fun zc211 => ?_)
          · exact absurd zc211 (by decide)
          · skip
            refine xi_iload hC dL_operates_214 (pc' := 216) rfl rfl ?_
            refine xi_iload hC dL_operates_216 (pc' := 218) rfl rfl ?_
            refine xn_icmpne (tgt := 247) hC dL_operates_218 (pc' := 221) rfl (by decide) (by omega) (by omega) (fun zc218 => ?_) (fun zc218 => ?_)
            · exact absurd zc218 (by decide)
            · skip
              refine xi_aload_n hC dL_operates_221 (pc' := 222) rfl rfl rfl ?_
              refine xi_iload_n hC dL_operates_222 (pc' := 223) rfl rfl rfl ?_
              refine xi_iconst (v := nI 5) hC dL_operates_223 (pc' := 224) rfl (by decide +kernel) ?_
              refine xi_callV (As := [.int (nI i), .int (nI 5)]) (rest := []) (c_X7_user l D b (b + (k + 3)) (σ := σ140) (S := T141) (N := (N + 1)) (u := u) (w := w) hST141 hRσ140 (by omega) (x := (nI i)) (y := (nI 5))) hC dL_operates_224 (pc' := 227) rfl xw_m_L_18 xw_c_X7_user xw_ins_X7_user xw_sel_X7_user xw_ini_X7 xd_X7_user (xH_at.trans (xsh_7 kd_0)) rfl ⟨Nat.le_of_ble_eq_true rfl, Nat.le_of_ble_eq_true rfl⟩ rfl (Nat.le_of_ble_eq_true rfl) ⟨Nat.le_of_ble_eq_true rfl, Nat.le_of_ble_eq_true rfl⟩ ?_
              rintro _ _ ⟨r143, rfl, hO144, rfl⟩
              obtain rfl : r143 = ((S m_shownTo i) + (nI (u * u))) := (hO144 _ (su_5 (by omega) (by omega))).trans (f5)
              show xV _ _ _ _ _ _ _ _ _ _ _ _ _ _ _ _ _ (xH D b σ140) _ _ [.int ((S m_shownTo i) + (nI (u * u)))]
              refine xi_iload hC dL_operates_227 (pc' := 229) rfl rfl ?_
              refine xi_iload_n hC dL_operates_229 (pc' := 230) rfl rfl rfl ?_
              refine xi_iload_n hC dL_operates_230 (pc' := 231) rfl rfl rfl ?_
              refine xn_imul hC dL_operates_231 (pc' := 232) rfl ?_
              refine xi_iadd hC dL_operates_232 (pc' := 233) rfl ?_
              refine xi_icmpne (tgt := 247) hC dL_operates_233 (pc' := 236) rfl (by decide) (fun zc233 => ?_) (fun zc233 => ?_)
              · exact absurd rfl zc233
              · skip
                refine xi_aload_n hC dL_operates_236 (pc' := 237) rfl rfl rfl ?_
                refine xi_iload_n hC dL_operates_237 (pc' := 238) rfl rfl rfl ?_
                refine xi_iconst (v := nI 1) hC dL_operates_238 (pc' := 239) rfl (by decide +kernel) ?_
                refine xi_callV (As := [.int (nI i), .int (nI 1)]) (rest := []) (c_X7_user l D b (b + (k + 3)) (σ := σ140) (S := T141) (N := (N + 1)) (u := u) (w := w) hST141 hRσ140 (by omega) (x := (nI i)) (y := (nI 1))) hC dL_operates_239 (pc' := 242) rfl xw_m_L_18 xw_c_X7_user xw_ins_X7_user xw_sel_X7_user xw_ini_X7 xd_X7_user (xH_at.trans (xsh_7 kd_0)) rfl ⟨Nat.le_of_ble_eq_true rfl, Nat.le_of_ble_eq_true rfl⟩ rfl (Nat.le_of_ble_eq_true rfl) ⟨Nat.le_of_ble_eq_true rfl, Nat.le_of_ble_eq_true rfl⟩ ?_
                rintro _ _ ⟨r145, rfl, hO146, rfl⟩
                obtain rfl : r145 = (nI 1) := hO146 _ (su_1 (by omega) (by omega) f1)
                show xV _ _ _ _ _ _ _ _ _ _ _ _ _ _ _ _ _ (xH D b σ140) _ _ [.int (nI 1)]
                refine xi_iload hC dL_operates_242 (pc' := 244) rfl rfl ?_
                refine xn_icmpeq (tgt := 249) hC dL_operates_244 (pc' := 247) rfl (by decide) (by omega) (by omega) (fun zc244 => ?_) (fun zc244 => ?_)
                · skip
                  refine xi_iload hC dL_operates_249 (pc' := 251) rfl rfl ?_
                  refine xn_ifle (tgt := 354) hC dL_operates_251 (pc' := 254) rfl (by decide) (by omega) (fun zc251 => ?_) (fun zc251 => ?_)
                  · first | exact zc251.elim | exact absurd zc251 (by decide)
                  · skip
                    refine xi_aload_n hC dL_operates_254 (pc' := 255) rfl rfl rfl ?_
                    refine xi_iload_n hC dL_operates_255 (pc' := 256) rfl rfl rfl ?_
                    refine xi_iconst (v := nI 2) hC dL_operates_256 (pc' := 257) rfl (by decide +kernel) ?_
                    refine xi_callV (As := [.int (nI i), .int (nI 2)]) (rest := []) (c_X7_user l D b (b + (k + 3)) (σ := σ140) (S := T141) (N := (N + 1)) (u := u) (w := w) hST141 hRσ140 (by omega) (x := (nI i)) (y := (nI 2))) hC dL_operates_257 (pc' := 260) rfl xw_m_L_18 xw_c_X7_user xw_ins_X7_user xw_sel_X7_user xw_ini_X7 xd_X7_user (xH_at.trans (xsh_7 kd_0)) rfl ⟨Nat.le_of_ble_eq_true rfl, Nat.le_of_ble_eq_true rfl⟩ rfl (Nat.le_of_ble_eq_true rfl) ⟨Nat.le_of_ble_eq_true rfl, Nat.le_of_ble_eq_true rfl⟩ ?_
                    rintro _ _ ⟨r147, rfl, hO148, rfl⟩
                    obtain rfl : r147 = (nI 0) := hO148 _ (su_2f (by omega) (by omega) (fp1 rfl))
                    show xV _ _ _ _ _ _ _ _ _ _ _ _ _ _ _ _ _ (xH D b σ140) _ _ [.int (nI 0)]
                    refine xi_iconst (v := nI 1) hC dL_operates_260 (pc' := 261) rfl (by decide +kernel) ?_
                    refine xn_icmpne (tgt := 268) hC dL_operates_261 (pc' := 264) rfl (by decide) (by omega) (by omega) (fun zc261 => ?_) (fun zc261 => ?_)
                    · skip
                      refine xi_iconst (v := nI 0) hC dL_operates_268 (pc' := 269) rfl (by decide +kernel) ?_
                      refine xi_istore (lv' := [some (.ref (b + 0)), some (.int (nI i)), some (.int (nI u)), some (.int g), some (.ref (b + k)), some (.int (nI 0)), some (.int (nI 1)), some (.int (nI v)), some (.int (nI 1)), some (.int (S m_shownTo i)), some (.int (S m_sentBy i)), some (.int (S m_doneOf i)), some (.int (S oMod 2)), some (.int (nI kp)), some (.int (nI 1)), some (.int (nI j133)), some (.int ((nI j134) - (nI 1000))), some (.int (cV S v j133)), some (.int (lastV S i)), some (.int (nI 1)), some (.int (nI 0)), none]) hC dL_operates_269 (pc' := 271) rfl (by decide) rfl ?_
                      refine xi_aload_n hC dL_operates_271 (pc' := 272) rfl rfl rfl ?_
                      refine xi_iload_n hC dL_operates_272 (pc' := 273) rfl rfl rfl ?_
                      refine xi_bipush (v := nI 6) hC dL_operates_273 (pc' := 275) rfl (by decide +kernel) ?_
                      refine xi_callV (As := [.int (nI i), .int (nI 6)]) (rest := []) (c_X7_user l D b (b + (k + 3)) (σ := σ140) (S := T141) (N := (N + 1)) (u := u) (w := w) hST141 hRσ140 (by omega) (x := (nI i)) (y := (nI 6))) hC dL_operates_275 (pc' := 278) rfl xw_m_L_18 xw_c_X7_user xw_ins_X7_user xw_sel_X7_user xw_ini_X7 xd_X7_user (xH_at.trans (xsh_7 kd_0)) rfl ⟨Nat.le_of_ble_eq_true rfl, Nat.le_of_ble_eq_true rfl⟩ rfl (Nat.le_of_ble_eq_true rfl) ⟨Nat.le_of_ble_eq_true rfl, Nat.le_of_ble_eq_true rfl⟩ ?_
                      rintro _ _ ⟨r149, rfl, hO150, rfl⟩
                      obtain rfl : r149 = (S m_sentBy i) := (hO150 _ (su_6 (by omega) (by omega))).trans (f6)
                      show xV _ _ _ _ _ _ _ _ _ _ _ _ _ _ _ _ _ (xH D b σ140) _ _ [.int (S m_sentBy i)]
                      refine xi_iload hC dL_operates_278 (pc' := 280) rfl rfl ?_
                      refine xi_icmpne (tgt := 352) hC dL_operates_280 (pc' := 283) rfl (by decide) (fun zc280 => ?_) (fun zc280 => ?_)
                      · exact absurd rfl zc280
                      · skip
                        refine xi_aload_n hC dL_operates_283 (pc' := 284) rfl rfl rfl ?_
                        refine xi_iload_n hC dL_operates_284 (pc' := 285) rfl rfl rfl ?_
                        refine xi_iconst (v := nI 4) hC dL_operates_285 (pc' := 286) rfl (by decide +kernel) ?_
                        refine xi_callV (As := [.int (nI i), .int (nI 4)]) (rest := []) (c_X7_user l D b (b + (k + 3)) (σ := σ140) (S := T141) (N := (N + 1)) (u := u) (w := w) hST141 hRσ140 (by omega) (x := (nI i)) (y := (nI 4))) hC dL_operates_286 (pc' := 289) rfl xw_m_L_18 xw_c_X7_user xw_ins_X7_user xw_sel_X7_user xw_ini_X7 xd_X7_user (xH_at.trans (xsh_7 kd_0)) rfl ⟨Nat.le_of_ble_eq_true rfl, Nat.le_of_ble_eq_true rfl⟩ rfl (Nat.le_of_ble_eq_true rfl) ⟨Nat.le_of_ble_eq_true rfl, Nat.le_of_ble_eq_true rfl⟩ ?_
                        rintro _ _ ⟨r151, rfl, hO152, rfl⟩
                        obtain rfl : r151 = (S m_doneOf i) := (hO152 _ (su_4 (by omega) (by omega))).trans (f4)
                        show xV _ _ _ _ _ _ _ _ _ _ _ _ _ _ _ _ _ (xH D b σ140) _ _ [.int (S m_doneOf i)]
                        refine xi_iload hC dL_operates_289 (pc' := 291) rfl rfl ?_
                        refine xi_icmpne (tgt := 352) hC dL_operates_291 (pc' := 294) rfl (by decide) (fun zc291 => ?_) (fun zc291 => ?_)
                        · exact absurd rfl zc291
                        · skip
                          refine xi_aload_n hC dL_operates_294 (pc' := 295) rfl rfl rfl ?_
                          refine xi_iconst (v := nI 4) hC dL_operates_295 (pc' := 296) rfl (by decide +kernel) ?_
                          refine xi_callV (As := [.int (nI 4)]) (rest := []) (c_X7_count l D b (b + (k + 3)) (σ := σ140) (S := T141) (N := (N + 1)) (u := u) (w := w) hST141 hRσ140 (by omega) (x := (nI 4))) hC dL_operates_296 (pc' := 299) rfl xw_m_L_40 xw_c_X7_count xw_ins_X7_count xw_sel_X7_count xw_ini_X7 xd_X7_count (xH_at.trans (xsh_7 kd_0)) rfl ⟨Nat.le_of_ble_eq_true rfl, Nat.le_of_ble_eq_true rfl⟩ rfl (Nat.le_of_ble_eq_true rfl) ⟨Nat.le_of_ble_eq_true rfl, Nat.le_of_ble_eq_true rfl⟩ ?_
                          rintro _ _ ⟨r153, rfl, hO154, rfl⟩
                          obtain rfl : r153 = (S oMod 2) := (hO154 _ (sc_4)).trans (fc)
                          show xV _ _ _ _ _ _ _ _ _ _ _ _ _ _ _ _ _ (xH D b σ140) _ _ [.int (S oMod 2)]
                          refine xi_iload hC dL_operates_299 (pc' := 301) rfl rfl ?_
                          refine xi_icmpne (tgt := 352) hC dL_operates_301 (pc' := 304) rfl (by decide) (fun zc301 => ?_) (fun zc301 => ?_)
                          · exact absurd rfl zc301
                          · skip
                            refine xi_aload_n hC dL_operates_304 (pc' := 305) rfl rfl rfl ?_
                            refine xi_iload hC dL_operates_305 (pc' := 307) rfl rfl ?_
                            refine xi_iconst (v := nI 1) hC dL_operates_307 (pc' := 308) rfl (by decide +kernel) ?_
                            refine xi_callV (As := [.int (nI v), .int (nI 1)]) (rest := []) (c_X7_view l D b (b + (k + 3)) (σ := σ140) (S := T141) (N := (N + 1)) (u := u) (w := w) hST141 hRσ140 (by omega) (x := (nI v)) (y := (nI 1))) hC dL_operates_308 (pc' := 311) rfl xw_m_L_43 xw_c_X7_view xw_ins_X7_view xw_sel_X7_view xw_ini_X7 xd_X7_view (xH_at.trans (xsh_7 kd_0)) rfl ⟨Nat.le_of_ble_eq_true rfl, Nat.le_of_ble_eq_true rfl⟩ rfl (Nat.le_of_ble_eq_true rfl) ⟨Nat.le_of_ble_eq_true rfl, Nat.le_of_ble_eq_true rfl⟩ ?_
                            rintro _ _ ⟨r155, rfl, hO156, rfl⟩
                            obtain rfl : r155 = (nI kp) := hO156 _ _ (sw_1 hv (by omega) fk)
                            show xV _ _ _ _ _ _ _ _ _ _ _ _ _ _ _ _ _ (xH D b σ140) _ _ [.int (nI kp)]
                            refine xi_iload hC dL_operates_311 (pc' := 313) rfl rfl ?_
                            refine xi_icmpne (tgt := 352) hC dL_operates_313 (pc' := 316) rfl (by decide) (fun zc313 => ?_) (fun zc313 => ?_)
                            · exact absurd rfl zc313
                            · skip
                              refine xi_iload hC dL_operates_316 (pc' := 318) rfl rfl ?_
                              refine xi_iconst (v := nI 2) hC dL_operates_318 (pc' := 319) rfl (by decide +kernel) ?_
                              refine xn_icmpne (tgt := 327) hC dL_operates_319 (pc' := 322) rfl (by decide) (by omega) (by omega) (fun zc319 => ?_) (fun zc319 => ?_)
                              · skip
                                refine xi_iload hC dL_operates_327 (pc' := 329) rfl rfl ?_
                                refine xi_iconst (v := nI 1) hC dL_operates_329 (pc' := 330) rfl (by decide +kernel) ?_
                                refine xn_icmpne (tgt := 338) hC dL_operates_330 (pc' := 333) rfl (by decide) (by omega) (by omega) (fun zc330 => ?_) (fun zc330 => ?_)
                                · exact absurd zc330 (by decide)
                                · skip
                                  refine xi_iload hC dL_operates_333 (pc' := 335) rfl rfl ?_
                                  refine xn_ifne (tgt := 352) hC dL_operates_335 (pc' := 338) rfl (by decide) (by omega) (fun zc335 => ?_) (fun zc335 => ?_)
                                  · exact absurd zc335 (by decide)
                                  · skip
                                    refine xi_aload_n hC dL_operates_338 (pc' := 339) rfl rfl rfl ?_
                                    refine xi_iload_n hC dL_operates_339 (pc' := 340) rfl rfl rfl ?_
                                    refine xi_callV (As := [.int (nI i)]) (rest := []) (c_X7_lastRead l D b (b + (k + 3)) (σ := σ140) (S := T141) (N := (N + 1)) (u := u) (w := w) hST141 hRσ140 (by omega) (x := (nI i))) hC dL_operates_340 (pc' := 343) rfl xw_m_L_52 xw_c_X7_lastRead xw_ins_X7_lastRead xw_sel_X7_lastRead xw_ini_X7 xd_X7_lastRead (xH_at.trans (xsh_7 kd_0)) rfl ⟨Nat.le_of_ble_eq_true rfl, Nat.le_of_ble_eq_true rfl⟩ rfl (Nat.le_of_ble_eq_true rfl) ⟨Nat.le_of_ble_eq_true rfl, Nat.le_of_ble_eq_true rfl⟩ ?_
                                    rintro _ _ ⟨r157, rfl, hO158, rfl⟩
                                    obtain rfl : r157 = (lastV S i) := (hO158 _ (sl_1 (by omega) (by omega))).trans (fl)
                                    show xV _ _ _ _ _ _ _ _ _ _ _ _ _ _ _ _ _ (xH D b σ140) _ _ [.int (lastV S i)]
                                    refine xi_iload hC dL_operates_343 (pc' := 345) rfl rfl ?_
                                    refine xi_icmpne (tgt := 352) hC dL_operates_345 (pc' := 348) rfl (by decide) (fun zc345 => ?_) (fun zc345 => ?_)
                                    · exact absurd rfl zc345
                                    · skip
                                      refine xi_iconst (v := nI 1) hC dL_operates_348 (pc' := 349) rfl (by decide +kernel) ?_
                                      refine xi_goto (tgt := 353) hC dL_operates_349 (by decide) ?_
                                      refine xb_ireturn hC dL_operates_353 hr (by decide) rfl ?_
                                      exact ⟨σ140, T141, rfl, hST141, hRσ140, hJT141, rfl⟩
                              · exact absurd zc319 (by decide)
                    · exact absurd zc261 (by decide)
                · exact absurd zc244 (by decide)
        · first | exact zc160.elim | exact absurd zc160 (by decide)
  · skip
    refine xi_aload_n hC dL_operates_32 (pc' := 33) rfl rfl rfl ?_
    refine xi_iload_n hC dL_operates_33 (pc' := 34) rfl rfl rfl ?_
    refine xi_callV (As := [.int (nI i)]) (rest := []) (c_X7_check l D b (b + (k + 3)) (σ := σ4) (S := S) (N := N) (u := u) (w := w) hS hRσ4 (by omega) (x := (nI i))) hC dL_operates_34 (pc' := 37) rfl xw_m_L_36 xw_c_X7_check xw_ins_X7_check xw_sel_X7_check xw_ini_X7 xd_X7_check (xH_at.trans (xsh_7 kd_0)) rfl ⟨Nat.le_of_ble_eq_true rfl, Nat.le_of_ble_eq_true rfl⟩ rfl (Nat.le_of_ble_eq_true rfl) ⟨Nat.le_of_ble_eq_true rfl, Nat.le_of_ble_eq_true rfl⟩ ?_
    rintro _ _ ⟨r159, rfl, hO160, rfl⟩
    obtain rfl : r159 = (nI 2) := hO160 _ _ (sk_0 (by omega) (by omega) hA (by omega) hV hx)
    show xV _ _ _ _ _ _ _ _ _ _ _ _ _ _ _ _ _ (xH D b σ4) _ _ [.int (nI 2)]
    refine xi_istore (lv' := [some (.ref (b + 0)), some (.int (nI i)), some (.int (nI u)), some (.int g), some (.ref (b + k)), some (.int (nI 0)), some (.int (nI 2)), some (.int (nI v)), some (.int (nI 2)), none, none, none, none, none, none, none, none, none, none, none, none, none]) hC dL_operates_37 (pc' := 39) rfl (by decide) rfl ?_
    refine xi_aload_n hC dL_operates_39 (pc' := 40) rfl rfl rfl ?_
    refine xi_iload_n hC dL_operates_40 (pc' := 41) rfl rfl rfl ?_
    refine xi_iconst (v := nI 5) hC dL_operates_41 (pc' := 42) rfl (by decide +kernel) ?_
    refine xi_callV (As := [.int (nI i), .int (nI 5)]) (rest := []) (c_X7_user l D b (b + (k + 3)) (σ := σ4) (S := S) (N := N) (u := u) (w := w) hS hRσ4 (by omega) (x := (nI i)) (y := (nI 5))) hC dL_operates_42 (pc' := 45) rfl xw_m_L_18 xw_c_X7_user xw_ins_X7_user xw_sel_X7_user xw_ini_X7 xd_X7_user (xH_at.trans (xsh_7 kd_0)) rfl ⟨Nat.le_of_ble_eq_true rfl, Nat.le_of_ble_eq_true rfl⟩ rfl (Nat.le_of_ble_eq_true rfl) ⟨Nat.le_of_ble_eq_true rfl, Nat.le_of_ble_eq_true rfl⟩ ?_
    rintro _ _ ⟨r161, rfl, hO162, rfl⟩
    obtain rfl : r161 = (S m_shownTo i) := hO162 _ (su_5 (by omega) (by omega))
    show xV _ _ _ _ _ _ _ _ _ _ _ _ _ _ _ _ _ (xH D b σ4) _ _ [.int (S m_shownTo i)]
    refine xi_istore (lv' := [some (.ref (b + 0)), some (.int (nI i)), some (.int (nI u)), some (.int g), some (.ref (b + k)), some (.int (nI 0)), some (.int (nI 2)), some (.int (nI v)), some (.int (nI 2)), some (.int (S m_shownTo i)), none, none, none, none, none, none, none, none, none, none, none, none]) hC dL_operates_45 (pc' := 47) rfl (by decide) rfl ?_
    refine xi_aload_n hC dL_operates_47 (pc' := 48) rfl rfl rfl ?_
    refine xi_iload_n hC dL_operates_48 (pc' := 49) rfl rfl rfl ?_
    refine xi_bipush (v := nI 6) hC dL_operates_49 (pc' := 51) rfl (by decide +kernel) ?_
    refine xi_callV (As := [.int (nI i), .int (nI 6)]) (rest := []) (c_X7_user l D b (b + (k + 3)) (σ := σ4) (S := S) (N := N) (u := u) (w := w) hS hRσ4 (by omega) (x := (nI i)) (y := (nI 6))) hC dL_operates_51 (pc' := 54) rfl xw_m_L_18 xw_c_X7_user xw_ins_X7_user xw_sel_X7_user xw_ini_X7 xd_X7_user (xH_at.trans (xsh_7 kd_0)) rfl ⟨Nat.le_of_ble_eq_true rfl, Nat.le_of_ble_eq_true rfl⟩ rfl (Nat.le_of_ble_eq_true rfl) ⟨Nat.le_of_ble_eq_true rfl, Nat.le_of_ble_eq_true rfl⟩ ?_
    rintro _ _ ⟨r163, rfl, hO164, rfl⟩
    obtain rfl : r163 = (S m_sentBy i) := hO164 _ (su_6 (by omega) (by omega))
    show xV _ _ _ _ _ _ _ _ _ _ _ _ _ _ _ _ _ (xH D b σ4) _ _ [.int (S m_sentBy i)]
    refine xi_istore (lv' := [some (.ref (b + 0)), some (.int (nI i)), some (.int (nI u)), some (.int g), some (.ref (b + k)), some (.int (nI 0)), some (.int (nI 2)), some (.int (nI v)), some (.int (nI 2)), some (.int (S m_shownTo i)), some (.int (S m_sentBy i)), none, none, none, none, none, none, none, none, none, none, none]) hC dL_operates_54 (pc' := 56) rfl (by decide) rfl ?_
    refine xi_aload_n hC dL_operates_56 (pc' := 57) rfl rfl rfl ?_
    refine xi_iload_n hC dL_operates_57 (pc' := 58) rfl rfl rfl ?_
    refine xi_iconst (v := nI 4) hC dL_operates_58 (pc' := 59) rfl (by decide +kernel) ?_
    refine xi_callV (As := [.int (nI i), .int (nI 4)]) (rest := []) (c_X7_user l D b (b + (k + 3)) (σ := σ4) (S := S) (N := N) (u := u) (w := w) hS hRσ4 (by omega) (x := (nI i)) (y := (nI 4))) hC dL_operates_59 (pc' := 62) rfl xw_m_L_18 xw_c_X7_user xw_ins_X7_user xw_sel_X7_user xw_ini_X7 xd_X7_user (xH_at.trans (xsh_7 kd_0)) rfl ⟨Nat.le_of_ble_eq_true rfl, Nat.le_of_ble_eq_true rfl⟩ rfl (Nat.le_of_ble_eq_true rfl) ⟨Nat.le_of_ble_eq_true rfl, Nat.le_of_ble_eq_true rfl⟩ ?_
    rintro _ _ ⟨r165, rfl, hO166, rfl⟩
    obtain rfl : r165 = (S m_doneOf i) := hO166 _ (su_4 (by omega) (by omega))
    show xV _ _ _ _ _ _ _ _ _ _ _ _ _ _ _ _ _ (xH D b σ4) _ _ [.int (S m_doneOf i)]
    refine xi_istore (lv' := [some (.ref (b + 0)), some (.int (nI i)), some (.int (nI u)), some (.int g), some (.ref (b + k)), some (.int (nI 0)), some (.int (nI 2)), some (.int (nI v)), some (.int (nI 2)), some (.int (S m_shownTo i)), some (.int (S m_sentBy i)), some (.int (S m_doneOf i)), none, none, none, none, none, none, none, none, none, none]) hC dL_operates_62 (pc' := 64) rfl (by decide) rfl ?_
    refine xi_aload_n hC dL_operates_64 (pc' := 65) rfl rfl rfl ?_
    refine xi_iconst (v := nI 4) hC dL_operates_65 (pc' := 66) rfl (by decide +kernel) ?_
    refine xi_callV (As := [.int (nI 4)]) (rest := []) (c_X7_count l D b (b + (k + 3)) (σ := σ4) (S := S) (N := N) (u := u) (w := w) hS hRσ4 (by omega) (x := (nI 4))) hC dL_operates_66 (pc' := 69) rfl xw_m_L_40 xw_c_X7_count xw_ins_X7_count xw_sel_X7_count xw_ini_X7 xd_X7_count (xH_at.trans (xsh_7 kd_0)) rfl ⟨Nat.le_of_ble_eq_true rfl, Nat.le_of_ble_eq_true rfl⟩ rfl (Nat.le_of_ble_eq_true rfl) ⟨Nat.le_of_ble_eq_true rfl, Nat.le_of_ble_eq_true rfl⟩ ?_
    rintro _ _ ⟨r167, rfl, hO168, rfl⟩
    obtain rfl : r167 = (S oMod 2) := hO168 _ (sc_4)
    show xV _ _ _ _ _ _ _ _ _ _ _ _ _ _ _ _ _ (xH D b σ4) _ _ [.int (S oMod 2)]
    refine xi_istore (lv' := [some (.ref (b + 0)), some (.int (nI i)), some (.int (nI u)), some (.int g), some (.ref (b + k)), some (.int (nI 0)), some (.int (nI 2)), some (.int (nI v)), some (.int (nI 2)), some (.int (S m_shownTo i)), some (.int (S m_sentBy i)), some (.int (S m_doneOf i)), some (.int (S oMod 2)), none, none, none, none, none, none, none, none, none]) hC dL_operates_69 (pc' := 71) rfl (by decide) rfl ?_
    refine xi_aload_n hC dL_operates_71 (pc' := 72) rfl rfl rfl ?_
    refine xi_iload hC dL_operates_72 (pc' := 74) rfl rfl ?_
    refine xi_iconst (v := nI 1) hC dL_operates_74 (pc' := 75) rfl (by decide +kernel) ?_
    refine xi_callV (As := [.int (nI v), .int (nI 1)]) (rest := []) (c_X7_view l D b (b + (k + 3)) (σ := σ4) (S := S) (N := N) (u := u) (w := w) hS hRσ4 (by omega) (x := (nI v)) (y := (nI 1))) hC dL_operates_75 (pc' := 78) rfl xw_m_L_43 xw_c_X7_view xw_ins_X7_view xw_sel_X7_view xw_ini_X7 xd_X7_view (xH_at.trans (xsh_7 kd_0)) rfl ⟨Nat.le_of_ble_eq_true rfl, Nat.le_of_ble_eq_true rfl⟩ rfl (Nat.le_of_ble_eq_true rfl) ⟨Nat.le_of_ble_eq_true rfl, Nat.le_of_ble_eq_true rfl⟩ ?_
    rintro _ _ ⟨r169, rfl, hO170, rfl⟩
    obtain rfl : r169 = (nI kp) := hO170 _ _ (sw_1 hv (by omega) hkp)
    show xV _ _ _ _ _ _ _ _ _ _ _ _ _ _ _ _ _ (xH D b σ4) _ _ [.int (nI kp)]
    refine xi_istore (lv' := [some (.ref (b + 0)), some (.int (nI i)), some (.int (nI u)), some (.int g), some (.ref (b + k)), some (.int (nI 0)), some (.int (nI 2)), some (.int (nI v)), some (.int (nI 2)), some (.int (S m_shownTo i)), some (.int (S m_sentBy i)), some (.int (S m_doneOf i)), some (.int (S oMod 2)), some (.int (nI kp)), none, none, none, none, none, none, none, none]) hC dL_operates_78 (pc' := 80) rfl (by decide) rfl ?_
    refine xi_iload_n hC dL_operates_80 (pc' := 81) rfl rfl rfl ?_
    refine xi_iconst (v := nI 1) hC dL_operates_81 (pc' := 82) rfl (by decide +kernel) ?_
    refine xi_iand hC dL_operates_82 (pc' := 83) rfl ?_
    refine xi_ifne (tgt := 90) hC dL_operates_83 (pc' := 86) rfl (by decide) (fun zc83 => ?_) (fun zc83 => ?_)
    · skip
      refine xi_iconst (v := nI 0) hC dL_operates_90 (pc' := 91) rfl (by decide +kernel) ?_
      refine xi_istore (lv' := [some (.ref (b + 0)), some (.int (nI i)), some (.int (nI u)), some (.int g), some (.ref (b + k)), some (.int (nI 0)), some (.int (nI 2)), some (.int (nI v)), some (.int (nI 2)), some (.int (S m_shownTo i)), some (.int (S m_sentBy i)), some (.int (S m_doneOf i)), some (.int (S oMod 2)), some (.int (nI kp)), some (.int (nI 0)), none, none, none, none, none, none, none]) hC dL_operates_91 (pc' := 93) rfl (by decide) rfl ?_
      refine xi_iload_n hC dL_operates_93 (pc' := 94) rfl rfl rfl ?_
      refine xi_iconst (v := nI 1) hC dL_operates_94 (pc' := 95) rfl (by decide +kernel) ?_
      refine xi_ishr hC dL_operates_95 (pc' := 96) rfl ?_
      refine xi_iload_n hC dL_operates_96 (pc' := 97) rfl rfl rfl ?_
      refine xi_callS (As := [.int (g >>> ((nI 1) &&& 31)), .int (nI u)]) (rest := []) (c_L_low l D b (b + (k + 3)) (h := (xH D b σ4)) (x := (g >>> ((nI 1) &&& 31))) (k := u) (by omega) (by omega)) hC dL_operates_97 (pc' := 100) rfl xw_m_L_46 xw_c_L_low xw_sta_L_low xw_ini_L xd_L_low ⟨Nat.le_of_ble_eq_true rfl, Nat.le_of_ble_eq_true rfl⟩ rfl (Nat.le_of_ble_eq_true rfl) ⟨Nat.le_of_ble_eq_true rfl, Nat.le_of_ble_eq_true rfl⟩ ?_
      rintro _ _ ⟨⟨j171, hj171, rfl⟩, rfl⟩
      show xV _ _ _ _ _ _ _ _ _ _ _ _ _ _ _ _ _ (xH D b σ4) _ _ [.int (nI j171)]
      refine xi_istore (lv' := [some (.ref (b + 0)), some (.int (nI i)), some (.int (nI u)), some (.int g), some (.ref (b + k)), some (.int (nI 0)), some (.int (nI 2)), some (.int (nI v)), some (.int (nI 2)), some (.int (S m_shownTo i)), some (.int (S m_sentBy i)), some (.int (S m_doneOf i)), some (.int (S oMod 2)), some (.int (nI kp)), some (.int (nI 0)), some (.int (nI j171)), none, none, none, none, none, none]) hC dL_operates_100 (pc' := 102) rfl (by decide) rfl ?_
      refine xi_iload_n hC dL_operates_102 (pc' := 103) rfl rfl rfl ?_
      refine xi_iconst (v := nI 4) hC dL_operates_103 (pc' := 104) rfl (by decide +kernel) ?_
      refine xi_ishr hC dL_operates_104 (pc' := 105) rfl ?_
      refine xi_sipush (v := nI 2001) hC dL_operates_105 (pc' := 108) rfl (by decide +kernel) ?_
      refine xi_callS (As := [.int (g >>> ((nI 4) &&& 31)), .int (nI 2001)]) (rest := []) (c_L_low l D b (b + (k + 3)) (h := (xH D b σ4)) (x := (g >>> ((nI 4) &&& 31))) (k := 2001) (by omega) (by omega)) hC dL_operates_108 (pc' := 111) rfl xw_m_L_46 xw_c_L_low xw_sta_L_low xw_ini_L xd_L_low ⟨Nat.le_of_ble_eq_true rfl, Nat.le_of_ble_eq_true rfl⟩ rfl (Nat.le_of_ble_eq_true rfl) ⟨Nat.le_of_ble_eq_true rfl, Nat.le_of_ble_eq_true rfl⟩ ?_
      rintro _ _ ⟨⟨j172, hj172, rfl⟩, rfl⟩
      show xV _ _ _ _ _ _ _ _ _ _ _ _ _ _ _ _ _ (xH D b σ4) _ _ [.int (nI j172)]
      refine xi_sipush (v := nI 1000) hC dL_operates_111 (pc' := 114) rfl (by decide +kernel) ?_
      refine xi_isub hC dL_operates_114 (pc' := 115) rfl ?_
      refine xi_istore (lv' := [some (.ref (b + 0)), some (.int (nI i)), some (.int (nI u)), some (.int g), some (.ref (b + k)), some (.int (nI 0)), some (.int (nI 2)), some (.int (nI v)), some (.int (nI 2)), some (.int (S m_shownTo i)), some (.int (S m_sentBy i)), some (.int (S m_doneOf i)), some (.int (S oMod 2)), some (.int (nI kp)), some (.int (nI 0)), some (.int (nI j171)), some (.int ((nI j172) - (nI 1000))), none, none, none, none, none]) hC dL_operates_115 (pc' := 117) rfl (by decide) rfl ?_
      refine xi_aload_n hC dL_operates_117 (pc' := 118) rfl rfl rfl ?_
      refine xi_iload hC dL_operates_118 (pc' := 120) rfl rfl ?_
      refine xi_iload hC dL_operates_120 (pc' := 122) rfl rfl ?_
      refine xi_callV (As := [.int (nI v), .int (nI j171)]) (rest := []) (c_X7_content l D b (b + (k + 3)) (σ := σ4) (S := S) (N := N) (u := u) (w := w) hS hRσ4 (by omega) (x := (nI v)) (y := (nI j171))) hC dL_operates_122 (pc' := 125) rfl xw_m_L_49 xw_c_X7_content xw_ins_X7_content xw_sel_X7_content xw_ini_X7 xd_X7_content (xH_at.trans (xsh_7 kd_0)) rfl ⟨Nat.le_of_ble_eq_true rfl, Nat.le_of_ble_eq_true rfl⟩ rfl (Nat.le_of_ble_eq_true rfl) ⟨Nat.le_of_ble_eq_true rfl, Nat.le_of_ble_eq_true rfl⟩ ?_
      rintro _ _ ⟨r173, rfl, hO174, rfl⟩
      obtain rfl : r173 = (cV S v j171) := hO174 _ (so_1 hv (by omega) (by omega) (by omega))
      show xV _ _ _ _ _ _ _ _ _ _ _ _ _ _ _ _ _ (xH D b σ4) _ _ [.int (cV S v j171)]
      refine xi_istore (lv' := [some (.ref (b + 0)), some (.int (nI i)), some (.int (nI u)), some (.int g), some (.ref (b + k)), some (.int (nI 0)), some (.int (nI 2)), some (.int (nI v)), some (.int (nI 2)), some (.int (S m_shownTo i)), some (.int (S m_sentBy i)), some (.int (S m_doneOf i)), some (.int (S oMod 2)), some (.int (nI kp)), some (.int (nI 0)), some (.int (nI j171)), some (.int ((nI j172) - (nI 1000))), some (.int (cV S v j171)), none, none, none, none]) hC dL_operates_125 (pc' := 127) rfl (by decide) rfl ?_
      refine xi_aload_n hC dL_operates_127 (pc' := 128) rfl rfl rfl ?_
      refine xi_iload_n hC dL_operates_128 (pc' := 129) rfl rfl rfl ?_
      refine xi_callV (As := [.int (nI i)]) (rest := []) (c_X7_lastRead l D b (b + (k + 3)) (σ := σ4) (S := S) (N := N) (u := u) (w := w) hS hRσ4 (by omega) (x := (nI i))) hC dL_operates_129 (pc' := 132) rfl xw_m_L_52 xw_c_X7_lastRead xw_ins_X7_lastRead xw_sel_X7_lastRead xw_ini_X7 xd_X7_lastRead (xH_at.trans (xsh_7 kd_0)) rfl ⟨Nat.le_of_ble_eq_true rfl, Nat.le_of_ble_eq_true rfl⟩ rfl (Nat.le_of_ble_eq_true rfl) ⟨Nat.le_of_ble_eq_true rfl, Nat.le_of_ble_eq_true rfl⟩ ?_
      rintro _ _ ⟨r175, rfl, hO176, rfl⟩
      obtain rfl : r175 = (lastV S i) := hO176 _ (sl_1 (by omega) (by omega))
      show xV _ _ _ _ _ _ _ _ _ _ _ _ _ _ _ _ _ (xH D b σ4) _ _ [.int (lastV S i)]
      refine xi_istore (lv' := [some (.ref (b + 0)), some (.int (nI i)), some (.int (nI u)), some (.int g), some (.ref (b + k)), some (.int (nI 0)), some (.int (nI 2)), some (.int (nI v)), some (.int (nI 2)), some (.int (S m_shownTo i)), some (.int (S m_sentBy i)), some (.int (S m_doneOf i)), some (.int (S oMod 2)), some (.int (nI kp)), some (.int (nI 0)), some (.int (nI j171)), some (.int ((nI j172) - (nI 1000))), some (.int (cV S v j171)), some (.int (lastV S i)), none, none, none]) hC dL_operates_132 (pc' := 134) rfl (by decide) rfl ?_
      refine xi_iload hC dL_operates_134 (pc' := 136) rfl rfl ?_
      refine xn_ifeq (tgt := 149) hC dL_operates_136 (pc' := 139) rfl (by decide) (by omega) (fun zc136 => ?_) (fun zc136 => ?_)
      · skip
        refine xi_aload_n hC dL_operates_149 (pc' := 150) rfl rfl rfl ?_
        refine xi_iload_n hC dL_operates_150 (pc' := 151) rfl rfl rfl ?_
        refine xi_iload hC dL_operates_151 (pc' := 153) rfl rfl ?_
        refine xi_callV (As := [.int (nI i), .int (nI j171)]) (rest := []) (c_X7_read l D b (b + (k + 3)) (σ := σ4) (S := S) (N := N) (u := u) (w := w) hS hRσ4 (by omega) (x := (nI i)) (y := (nI j171))) hC dL_operates_153 (pc' := 156) rfl xw_m_L_58 xw_c_X7_read xw_ins_X7_read xw_sel_X7_read xw_ini_X7 xd_X7_read (xH_at.trans (xsh_7 kd_0)) rfl ⟨Nat.le_of_ble_eq_true rfl, Nat.le_of_ble_eq_true rfl⟩ rfl (Nat.le_of_ble_eq_true rfl) ⟨Nat.le_of_ble_eq_true rfl, Nat.le_of_ble_eq_true rfl⟩ ?_
        rintro _ _ ⟨r177, σ178, rfl, hHσ178, hO180, rfl⟩
        obtain ⟨rT179, T179, hZT179⟩ := ex_read (S := S) (u := u) (w := w) (x := nI i) (y := (nI j171)) hS.1
        obtain ⟨eT179, hRσ178⟩ := hO180 rT179 T179 hZT179
        have hST179 := SI_read hS hZT179
        have hJT179 := (JJ_read hS.1 hJ hZT179).up (Nat.le_succ N)
        have hP0 : S m_hasProof i = 0 := Classical.not_not.mp (fun q => al_no hA ((hJ i hi).2.1 q))
        obtain ⟨e2T179, f5, f1, f6, f4, fc, fk, f0, fl, fp2, fp1⟩ := r_al hZT179 hi hj171 hA (by omega) hV hkp5 hkp hP0 hx (by decide)
        obtain rfl : r177 = nI 2 := eT179.trans e2T179
        have hlσ178_k : σ178 k 4096 = nI 8 := by rw [hHσ178 k (by omega)]; exact hlσ4
        show xV _ _ _ _ _ _ _ _ _ _ _ _ _ _ _ _ _ (xH D b σ178) _ _ [.int (nI 2)]
        refine xi_istore (lv' := [some (.ref (b + 0)), some (.int (nI i)), some (.int (nI u)), some (.int g), some (.ref (b + k)), some (.int (nI 0)), some (.int (nI 2)), some (.int (nI v)), some (.int (nI 2)), some (.int (S m_shownTo i)), some (.int (S m_sentBy i)), some (.int (S m_doneOf i)), some (.int (S oMod 2)), some (.int (nI kp)), some (.int (nI 0)), some (.int (nI j171)), some (.int ((nI j172) - (nI 1000))), some (.int (cV S v j171)), some (.int (lastV S i)), some (.int (nI 2)), none, none]) hC dL_operates_156 (pc' := 158) rfl (by decide) rfl ?_
        refine xi_iload hC dL_operates_158 (pc' := 160) rfl rfl ?_
        refine xn_ifle (tgt := 207) hC dL_operates_160 (pc' := 163) rfl (by decide) (by omega) (fun zc160 => ?_) (fun zc160 => ?_)
        · skip
          refine xi_iload hC dL_operates_207 (pc' := 209) rfl rfl ?_
          refine xi_iload hC dL_operates_209 (pc' := 211) rfl rfl ?_
          refine xn_icmpne (tgt := 247) hC dL_operates_211 (pc' := 214) rfl (by decide) (by omega) (by omega) (fun zc211 => ?_) (fun zc211 => ?_)
          · exact absurd zc211 (by decide)
          · skip
            refine xi_iload hC dL_operates_214 (pc' := 216) rfl rfl ?_
            refine xi_iload hC dL_operates_216 (pc' := 218) rfl rfl ?_
            refine xn_icmpne (tgt := 247) hC dL_operates_218 (pc' := 221) rfl (by decide) (by omega) (by omega) (fun zc218 => ?_) (fun zc218 => ?_)
            · exact absurd zc218 (by decide)
            · skip
              refine xi_aload_n hC dL_operates_221 (pc' := 222) rfl rfl rfl ?_
              refine xi_iload_n hC dL_operates_222 (pc' := 223) rfl rfl rfl ?_
              refine xi_iconst (v := nI 5) hC dL_operates_223 (pc' := 224) rfl (by decide +kernel) ?_
              refine xi_callV (As := [.int (nI i), .int (nI 5)]) (rest := []) (c_X7_user l D b (b + (k + 3)) (σ := σ178) (S := T179) (N := (N + 1)) (u := u) (w := w) hST179 hRσ178 (by omega) (x := (nI i)) (y := (nI 5))) hC dL_operates_224 (pc' := 227) rfl xw_m_L_18 xw_c_X7_user xw_ins_X7_user xw_sel_X7_user xw_ini_X7 xd_X7_user (xH_at.trans (xsh_7 kd_0)) rfl ⟨Nat.le_of_ble_eq_true rfl, Nat.le_of_ble_eq_true rfl⟩ rfl (Nat.le_of_ble_eq_true rfl) ⟨Nat.le_of_ble_eq_true rfl, Nat.le_of_ble_eq_true rfl⟩ ?_
              rintro _ _ ⟨r181, rfl, hO182, rfl⟩
              obtain rfl : r181 = ((S m_shownTo i) + (nI (u * u))) := (hO182 _ (su_5 (by omega) (by omega))).trans (f5)
              show xV _ _ _ _ _ _ _ _ _ _ _ _ _ _ _ _ _ (xH D b σ178) _ _ [.int ((S m_shownTo i) + (nI (u * u)))]
              refine xi_iload hC dL_operates_227 (pc' := 229) rfl rfl ?_
              refine xi_iload_n hC dL_operates_229 (pc' := 230) rfl rfl rfl ?_
              refine xi_iload_n hC dL_operates_230 (pc' := 231) rfl rfl rfl ?_
              refine xn_imul hC dL_operates_231 (pc' := 232) rfl ?_
              refine xi_iadd hC dL_operates_232 (pc' := 233) rfl ?_
              refine xi_icmpne (tgt := 247) hC dL_operates_233 (pc' := 236) rfl (by decide) (fun zc233 => ?_) (fun zc233 => ?_)
              · exact absurd rfl zc233
              · skip
                refine xi_aload_n hC dL_operates_236 (pc' := 237) rfl rfl rfl ?_
                refine xi_iload_n hC dL_operates_237 (pc' := 238) rfl rfl rfl ?_
                refine xi_iconst (v := nI 1) hC dL_operates_238 (pc' := 239) rfl (by decide +kernel) ?_
                refine xi_callV (As := [.int (nI i), .int (nI 1)]) (rest := []) (c_X7_user l D b (b + (k + 3)) (σ := σ178) (S := T179) (N := (N + 1)) (u := u) (w := w) hST179 hRσ178 (by omega) (x := (nI i)) (y := (nI 1))) hC dL_operates_239 (pc' := 242) rfl xw_m_L_18 xw_c_X7_user xw_ins_X7_user xw_sel_X7_user xw_ini_X7 xd_X7_user (xH_at.trans (xsh_7 kd_0)) rfl ⟨Nat.le_of_ble_eq_true rfl, Nat.le_of_ble_eq_true rfl⟩ rfl (Nat.le_of_ble_eq_true rfl) ⟨Nat.le_of_ble_eq_true rfl, Nat.le_of_ble_eq_true rfl⟩ ?_
                rintro _ _ ⟨r183, rfl, hO184, rfl⟩
                obtain rfl : r183 = (nI 2) := hO184 _ (su_1 (by omega) (by omega) f1)
                show xV _ _ _ _ _ _ _ _ _ _ _ _ _ _ _ _ _ (xH D b σ178) _ _ [.int (nI 2)]
                refine xi_iload hC dL_operates_242 (pc' := 244) rfl rfl ?_
                refine xn_icmpeq (tgt := 249) hC dL_operates_244 (pc' := 247) rfl (by decide) (by omega) (by omega) (fun zc244 => ?_) (fun zc244 => ?_)
                · skip
                  refine xi_iload hC dL_operates_249 (pc' := 251) rfl rfl ?_
                  refine xn_ifle (tgt := 354) hC dL_operates_251 (pc' := 254) rfl (by decide) (by omega) (fun zc251 => ?_) (fun zc251 => ?_)
                  · first | exact zc251.elim | exact absurd zc251 (by decide)
                  · skip
                    refine xi_aload_n hC dL_operates_254 (pc' := 255) rfl rfl rfl ?_
                    refine xi_iload_n hC dL_operates_255 (pc' := 256) rfl rfl rfl ?_
                    refine xi_iconst (v := nI 2) hC dL_operates_256 (pc' := 257) rfl (by decide +kernel) ?_
                    refine xi_callV (As := [.int (nI i), .int (nI 2)]) (rest := []) (c_X7_user l D b (b + (k + 3)) (σ := σ178) (S := T179) (N := (N + 1)) (u := u) (w := w) hST179 hRσ178 (by omega) (x := (nI i)) (y := (nI 2))) hC dL_operates_257 (pc' := 260) rfl xw_m_L_18 xw_c_X7_user xw_ins_X7_user xw_sel_X7_user xw_ini_X7 xd_X7_user (xH_at.trans (xsh_7 kd_0)) rfl ⟨Nat.le_of_ble_eq_true rfl, Nat.le_of_ble_eq_true rfl⟩ rfl (Nat.le_of_ble_eq_true rfl) ⟨Nat.le_of_ble_eq_true rfl, Nat.le_of_ble_eq_true rfl⟩ ?_
                    rintro _ _ ⟨r185, rfl, hO186, rfl⟩
                    obtain rfl : r185 = (nI 1) := hO186 _ (su_2t (by omega) (by omega) (fp2 rfl))
                    show xV _ _ _ _ _ _ _ _ _ _ _ _ _ _ _ _ _ (xH D b σ178) _ _ [.int (nI 1)]
                    refine xi_iconst (v := nI 1) hC dL_operates_260 (pc' := 261) rfl (by decide +kernel) ?_
                    refine xn_icmpne (tgt := 268) hC dL_operates_261 (pc' := 264) rfl (by decide) (by omega) (by omega) (fun zc261 => ?_) (fun zc261 => ?_)
                    · exact absurd zc261 (by decide)
                    · skip
                      refine xi_iconst (v := nI 1) hC dL_operates_264 (pc' := 265) rfl (by decide +kernel) ?_
                      refine xi_goto (tgt := 269) hC dL_operates_265 (by decide) ?_
                      refine xi_istore (lv' := [some (.ref (b + 0)), some (.int (nI i)), some (.int (nI u)), some (.int g), some (.ref (b + k)), some (.int (nI 0)), some (.int (nI 2)), some (.int (nI v)), some (.int (nI 2)), some (.int (S m_shownTo i)), some (.int (S m_sentBy i)), some (.int (S m_doneOf i)), some (.int (S oMod 2)), some (.int (nI kp)), some (.int (nI 0)), some (.int (nI j171)), some (.int ((nI j172) - (nI 1000))), some (.int (cV S v j171)), some (.int (lastV S i)), some (.int (nI 2)), some (.int (nI 1)), none]) hC dL_operates_269 (pc' := 271) rfl (by decide) rfl ?_
                      refine xi_aload_n hC dL_operates_271 (pc' := 272) rfl rfl rfl ?_
                      refine xi_iload_n hC dL_operates_272 (pc' := 273) rfl rfl rfl ?_
                      refine xi_bipush (v := nI 6) hC dL_operates_273 (pc' := 275) rfl (by decide +kernel) ?_
                      refine xi_callV (As := [.int (nI i), .int (nI 6)]) (rest := []) (c_X7_user l D b (b + (k + 3)) (σ := σ178) (S := T179) (N := (N + 1)) (u := u) (w := w) hST179 hRσ178 (by omega) (x := (nI i)) (y := (nI 6))) hC dL_operates_275 (pc' := 278) rfl xw_m_L_18 xw_c_X7_user xw_ins_X7_user xw_sel_X7_user xw_ini_X7 xd_X7_user (xH_at.trans (xsh_7 kd_0)) rfl ⟨Nat.le_of_ble_eq_true rfl, Nat.le_of_ble_eq_true rfl⟩ rfl (Nat.le_of_ble_eq_true rfl) ⟨Nat.le_of_ble_eq_true rfl, Nat.le_of_ble_eq_true rfl⟩ ?_
                      rintro _ _ ⟨r187, rfl, hO188, rfl⟩
                      obtain rfl : r187 = (S m_sentBy i) := (hO188 _ (su_6 (by omega) (by omega))).trans (f6)
                      show xV _ _ _ _ _ _ _ _ _ _ _ _ _ _ _ _ _ (xH D b σ178) _ _ [.int (S m_sentBy i)]
                      refine xi_iload hC dL_operates_278 (pc' := 280) rfl rfl ?_
                      refine xi_icmpne (tgt := 352) hC dL_operates_280 (pc' := 283) rfl (by decide) (fun zc280 => ?_) (fun zc280 => ?_)
                      · exact absurd rfl zc280
                      · skip
                        refine xi_aload_n hC dL_operates_283 (pc' := 284) rfl rfl rfl ?_
                        refine xi_iload_n hC dL_operates_284 (pc' := 285) rfl rfl rfl ?_
                        refine xi_iconst (v := nI 4) hC dL_operates_285 (pc' := 286) rfl (by decide +kernel) ?_
                        refine xi_callV (As := [.int (nI i), .int (nI 4)]) (rest := []) (c_X7_user l D b (b + (k + 3)) (σ := σ178) (S := T179) (N := (N + 1)) (u := u) (w := w) hST179 hRσ178 (by omega) (x := (nI i)) (y := (nI 4))) hC dL_operates_286 (pc' := 289) rfl xw_m_L_18 xw_c_X7_user xw_ins_X7_user xw_sel_X7_user xw_ini_X7 xd_X7_user (xH_at.trans (xsh_7 kd_0)) rfl ⟨Nat.le_of_ble_eq_true rfl, Nat.le_of_ble_eq_true rfl⟩ rfl (Nat.le_of_ble_eq_true rfl) ⟨Nat.le_of_ble_eq_true rfl, Nat.le_of_ble_eq_true rfl⟩ ?_
                        rintro _ _ ⟨r189, rfl, hO190, rfl⟩
                        obtain rfl : r189 = (S m_doneOf i) := (hO190 _ (su_4 (by omega) (by omega))).trans (f4)
                        show xV _ _ _ _ _ _ _ _ _ _ _ _ _ _ _ _ _ (xH D b σ178) _ _ [.int (S m_doneOf i)]
                        refine xi_iload hC dL_operates_289 (pc' := 291) rfl rfl ?_
                        refine xi_icmpne (tgt := 352) hC dL_operates_291 (pc' := 294) rfl (by decide) (fun zc291 => ?_) (fun zc291 => ?_)
                        · exact absurd rfl zc291
                        · skip
                          refine xi_aload_n hC dL_operates_294 (pc' := 295) rfl rfl rfl ?_
                          refine xi_iconst (v := nI 4) hC dL_operates_295 (pc' := 296) rfl (by decide +kernel) ?_
                          refine xi_callV (As := [.int (nI 4)]) (rest := []) (c_X7_count l D b (b + (k + 3)) (σ := σ178) (S := T179) (N := (N + 1)) (u := u) (w := w) hST179 hRσ178 (by omega) (x := (nI 4))) hC dL_operates_296 (pc' := 299) rfl xw_m_L_40 xw_c_X7_count xw_ins_X7_count xw_sel_X7_count xw_ini_X7 xd_X7_count (xH_at.trans (xsh_7 kd_0)) rfl ⟨Nat.le_of_ble_eq_true rfl, Nat.le_of_ble_eq_true rfl⟩ rfl (Nat.le_of_ble_eq_true rfl) ⟨Nat.le_of_ble_eq_true rfl, Nat.le_of_ble_eq_true rfl⟩ ?_
                          rintro _ _ ⟨r191, rfl, hO192, rfl⟩
                          obtain rfl : r191 = (S oMod 2) := (hO192 _ (sc_4)).trans (fc)
                          show xV _ _ _ _ _ _ _ _ _ _ _ _ _ _ _ _ _ (xH D b σ178) _ _ [.int (S oMod 2)]
                          refine xi_iload hC dL_operates_299 (pc' := 301) rfl rfl ?_
                          refine xi_icmpne (tgt := 352) hC dL_operates_301 (pc' := 304) rfl (by decide) (fun zc301 => ?_) (fun zc301 => ?_)
                          · exact absurd rfl zc301
                          · skip
                            refine xi_aload_n hC dL_operates_304 (pc' := 305) rfl rfl rfl ?_
                            refine xi_iload hC dL_operates_305 (pc' := 307) rfl rfl ?_
                            refine xi_iconst (v := nI 1) hC dL_operates_307 (pc' := 308) rfl (by decide +kernel) ?_
                            refine xi_callV (As := [.int (nI v), .int (nI 1)]) (rest := []) (c_X7_view l D b (b + (k + 3)) (σ := σ178) (S := T179) (N := (N + 1)) (u := u) (w := w) hST179 hRσ178 (by omega) (x := (nI v)) (y := (nI 1))) hC dL_operates_308 (pc' := 311) rfl xw_m_L_43 xw_c_X7_view xw_ins_X7_view xw_sel_X7_view xw_ini_X7 xd_X7_view (xH_at.trans (xsh_7 kd_0)) rfl ⟨Nat.le_of_ble_eq_true rfl, Nat.le_of_ble_eq_true rfl⟩ rfl (Nat.le_of_ble_eq_true rfl) ⟨Nat.le_of_ble_eq_true rfl, Nat.le_of_ble_eq_true rfl⟩ ?_
                            rintro _ _ ⟨r193, rfl, hO194, rfl⟩
                            obtain rfl : r193 = (nI kp) := hO194 _ _ (sw_1 hv (by omega) fk)
                            show xV _ _ _ _ _ _ _ _ _ _ _ _ _ _ _ _ _ (xH D b σ178) _ _ [.int (nI kp)]
                            refine xi_iload hC dL_operates_311 (pc' := 313) rfl rfl ?_
                            refine xi_icmpne (tgt := 352) hC dL_operates_313 (pc' := 316) rfl (by decide) (fun zc313 => ?_) (fun zc313 => ?_)
                            · exact absurd rfl zc313
                            · skip
                              refine xi_iload hC dL_operates_316 (pc' := 318) rfl rfl ?_
                              refine xi_iconst (v := nI 2) hC dL_operates_318 (pc' := 319) rfl (by decide +kernel) ?_
                              refine xn_icmpne (tgt := 327) hC dL_operates_319 (pc' := 322) rfl (by decide) (by omega) (by omega) (fun zc319 => ?_) (fun zc319 => ?_)
                              · exact absurd zc319 (by decide)
                              · skip
                                refine xi_iload hC dL_operates_322 (pc' := 324) rfl rfl ?_
                                refine xn_ifeq (tgt := 352) hC dL_operates_324 (pc' := 327) rfl (by decide) (by omega) (fun zc324 => ?_) (fun zc324 => ?_)
                                · exact absurd zc324 (by decide)
                                · skip
                                  refine xi_iload hC dL_operates_327 (pc' := 329) rfl rfl ?_
                                  refine xi_iconst (v := nI 1) hC dL_operates_329 (pc' := 330) rfl (by decide +kernel) ?_
                                  refine xn_icmpne (tgt := 338) hC dL_operates_330 (pc' := 333) rfl (by decide) (by omega) (by omega) (fun zc330 => ?_) (fun zc330 => ?_)
                                  · skip
                                    refine xi_aload_n hC dL_operates_338 (pc' := 339) rfl rfl rfl ?_
                                    refine xi_iload_n hC dL_operates_339 (pc' := 340) rfl rfl rfl ?_
                                    refine xi_callV (As := [.int (nI i)]) (rest := []) (c_X7_lastRead l D b (b + (k + 3)) (σ := σ178) (S := T179) (N := (N + 1)) (u := u) (w := w) hST179 hRσ178 (by omega) (x := (nI i))) hC dL_operates_340 (pc' := 343) rfl xw_m_L_52 xw_c_X7_lastRead xw_ins_X7_lastRead xw_sel_X7_lastRead xw_ini_X7 xd_X7_lastRead (xH_at.trans (xsh_7 kd_0)) rfl ⟨Nat.le_of_ble_eq_true rfl, Nat.le_of_ble_eq_true rfl⟩ rfl (Nat.le_of_ble_eq_true rfl) ⟨Nat.le_of_ble_eq_true rfl, Nat.le_of_ble_eq_true rfl⟩ ?_
                                    rintro _ _ ⟨r195, rfl, hO196, rfl⟩
                                    obtain rfl : r195 = (lastV S i) := (hO196 _ (sl_1 (by omega) (by omega))).trans (fl)
                                    show xV _ _ _ _ _ _ _ _ _ _ _ _ _ _ _ _ _ (xH D b σ178) _ _ [.int (lastV S i)]
                                    refine xi_iload hC dL_operates_343 (pc' := 345) rfl rfl ?_
                                    refine xi_icmpne (tgt := 352) hC dL_operates_345 (pc' := 348) rfl (by decide) (fun zc345 => ?_) (fun zc345 => ?_)
                                    · exact absurd rfl zc345
                                    · skip
                                      refine xi_iconst (v := nI 1) hC dL_operates_348 (pc' := 349) rfl (by decide +kernel) ?_
                                      refine xi_goto (tgt := 353) hC dL_operates_349 (by decide) ?_
                                      refine xb_ireturn hC dL_operates_353 hr (by decide) rfl ?_
                                      exact ⟨σ178, T179, rfl, hST179, hRσ178, hJT179, rfl⟩
                                  · exact absurd zc330 (by decide)
                · exact absurd zc244 (by decide)
        · first | exact zc160.elim | exact absurd zc160 (by decide)
      · exact absurd zc136 (by decide)
    · skip
      refine xi_iconst (v := nI 1) hC dL_operates_86 (pc' := 87) rfl (by decide +kernel) ?_
      refine xi_goto (tgt := 91) hC dL_operates_87 (by decide) ?_
      refine xi_istore (lv' := [some (.ref (b + 0)), some (.int (nI i)), some (.int (nI u)), some (.int g), some (.ref (b + k)), some (.int (nI 0)), some (.int (nI 2)), some (.int (nI v)), some (.int (nI 2)), some (.int (S m_shownTo i)), some (.int (S m_sentBy i)), some (.int (S m_doneOf i)), some (.int (S oMod 2)), some (.int (nI kp)), some (.int (nI 1)), none, none, none, none, none, none, none]) hC dL_operates_91 (pc' := 93) rfl (by decide) rfl ?_
      refine xi_iload_n hC dL_operates_93 (pc' := 94) rfl rfl rfl ?_
      refine xi_iconst (v := nI 1) hC dL_operates_94 (pc' := 95) rfl (by decide +kernel) ?_
      refine xi_ishr hC dL_operates_95 (pc' := 96) rfl ?_
      refine xi_iload_n hC dL_operates_96 (pc' := 97) rfl rfl rfl ?_
      refine xi_callS (As := [.int (g >>> ((nI 1) &&& 31)), .int (nI u)]) (rest := []) (c_L_low l D b (b + (k + 3)) (h := (xH D b σ4)) (x := (g >>> ((nI 1) &&& 31))) (k := u) (by omega) (by omega)) hC dL_operates_97 (pc' := 100) rfl xw_m_L_46 xw_c_L_low xw_sta_L_low xw_ini_L xd_L_low ⟨Nat.le_of_ble_eq_true rfl, Nat.le_of_ble_eq_true rfl⟩ rfl (Nat.le_of_ble_eq_true rfl) ⟨Nat.le_of_ble_eq_true rfl, Nat.le_of_ble_eq_true rfl⟩ ?_
      rintro _ _ ⟨⟨j197, hj197, rfl⟩, rfl⟩
      show xV _ _ _ _ _ _ _ _ _ _ _ _ _ _ _ _ _ (xH D b σ4) _ _ [.int (nI j197)]
      refine xi_istore (lv' := [some (.ref (b + 0)), some (.int (nI i)), some (.int (nI u)), some (.int g), some (.ref (b + k)), some (.int (nI 0)), some (.int (nI 2)), some (.int (nI v)), some (.int (nI 2)), some (.int (S m_shownTo i)), some (.int (S m_sentBy i)), some (.int (S m_doneOf i)), some (.int (S oMod 2)), some (.int (nI kp)), some (.int (nI 1)), some (.int (nI j197)), none, none, none, none, none, none]) hC dL_operates_100 (pc' := 102) rfl (by decide) rfl ?_
      refine xi_iload_n hC dL_operates_102 (pc' := 103) rfl rfl rfl ?_
      refine xi_iconst (v := nI 4) hC dL_operates_103 (pc' := 104) rfl (by decide +kernel) ?_
      refine xi_ishr hC dL_operates_104 (pc' := 105) rfl ?_
      refine xi_sipush (v := nI 2001) hC dL_operates_105 (pc' := 108) rfl (by decide +kernel) ?_
      refine xi_callS (As := [.int (g >>> ((nI 4) &&& 31)), .int (nI 2001)]) (rest := []) (c_L_low l D b (b + (k + 3)) (h := (xH D b σ4)) (x := (g >>> ((nI 4) &&& 31))) (k := 2001) (by omega) (by omega)) hC dL_operates_108 (pc' := 111) rfl xw_m_L_46 xw_c_L_low xw_sta_L_low xw_ini_L xd_L_low ⟨Nat.le_of_ble_eq_true rfl, Nat.le_of_ble_eq_true rfl⟩ rfl (Nat.le_of_ble_eq_true rfl) ⟨Nat.le_of_ble_eq_true rfl, Nat.le_of_ble_eq_true rfl⟩ ?_
      rintro _ _ ⟨⟨j198, hj198, rfl⟩, rfl⟩
      show xV _ _ _ _ _ _ _ _ _ _ _ _ _ _ _ _ _ (xH D b σ4) _ _ [.int (nI j198)]
      refine xi_sipush (v := nI 1000) hC dL_operates_111 (pc' := 114) rfl (by decide +kernel) ?_
      refine xi_isub hC dL_operates_114 (pc' := 115) rfl ?_
      refine xi_istore (lv' := [some (.ref (b + 0)), some (.int (nI i)), some (.int (nI u)), some (.int g), some (.ref (b + k)), some (.int (nI 0)), some (.int (nI 2)), some (.int (nI v)), some (.int (nI 2)), some (.int (S m_shownTo i)), some (.int (S m_sentBy i)), some (.int (S m_doneOf i)), some (.int (S oMod 2)), some (.int (nI kp)), some (.int (nI 1)), some (.int (nI j197)), some (.int ((nI j198) - (nI 1000))), none, none, none, none, none]) hC dL_operates_115 (pc' := 117) rfl (by decide) rfl ?_
      refine xi_aload_n hC dL_operates_117 (pc' := 118) rfl rfl rfl ?_
      refine xi_iload hC dL_operates_118 (pc' := 120) rfl rfl ?_
      refine xi_iload hC dL_operates_120 (pc' := 122) rfl rfl ?_
      refine xi_callV (As := [.int (nI v), .int (nI j197)]) (rest := []) (c_X7_content l D b (b + (k + 3)) (σ := σ4) (S := S) (N := N) (u := u) (w := w) hS hRσ4 (by omega) (x := (nI v)) (y := (nI j197))) hC dL_operates_122 (pc' := 125) rfl xw_m_L_49 xw_c_X7_content xw_ins_X7_content xw_sel_X7_content xw_ini_X7 xd_X7_content (xH_at.trans (xsh_7 kd_0)) rfl ⟨Nat.le_of_ble_eq_true rfl, Nat.le_of_ble_eq_true rfl⟩ rfl (Nat.le_of_ble_eq_true rfl) ⟨Nat.le_of_ble_eq_true rfl, Nat.le_of_ble_eq_true rfl⟩ ?_
      rintro _ _ ⟨r199, rfl, hO200, rfl⟩
      obtain rfl : r199 = (cV S v j197) := hO200 _ (so_1 hv (by omega) (by omega) (by omega))
      show xV _ _ _ _ _ _ _ _ _ _ _ _ _ _ _ _ _ (xH D b σ4) _ _ [.int (cV S v j197)]
      refine xi_istore (lv' := [some (.ref (b + 0)), some (.int (nI i)), some (.int (nI u)), some (.int g), some (.ref (b + k)), some (.int (nI 0)), some (.int (nI 2)), some (.int (nI v)), some (.int (nI 2)), some (.int (S m_shownTo i)), some (.int (S m_sentBy i)), some (.int (S m_doneOf i)), some (.int (S oMod 2)), some (.int (nI kp)), some (.int (nI 1)), some (.int (nI j197)), some (.int ((nI j198) - (nI 1000))), some (.int (cV S v j197)), none, none, none, none]) hC dL_operates_125 (pc' := 127) rfl (by decide) rfl ?_
      refine xi_aload_n hC dL_operates_127 (pc' := 128) rfl rfl rfl ?_
      refine xi_iload_n hC dL_operates_128 (pc' := 129) rfl rfl rfl ?_
      refine xi_callV (As := [.int (nI i)]) (rest := []) (c_X7_lastRead l D b (b + (k + 3)) (σ := σ4) (S := S) (N := N) (u := u) (w := w) hS hRσ4 (by omega) (x := (nI i))) hC dL_operates_129 (pc' := 132) rfl xw_m_L_52 xw_c_X7_lastRead xw_ins_X7_lastRead xw_sel_X7_lastRead xw_ini_X7 xd_X7_lastRead (xH_at.trans (xsh_7 kd_0)) rfl ⟨Nat.le_of_ble_eq_true rfl, Nat.le_of_ble_eq_true rfl⟩ rfl (Nat.le_of_ble_eq_true rfl) ⟨Nat.le_of_ble_eq_true rfl, Nat.le_of_ble_eq_true rfl⟩ ?_
      rintro _ _ ⟨r201, rfl, hO202, rfl⟩
      obtain rfl : r201 = (lastV S i) := hO202 _ (sl_1 (by omega) (by omega))
      show xV _ _ _ _ _ _ _ _ _ _ _ _ _ _ _ _ _ (xH D b σ4) _ _ [.int (lastV S i)]
      refine xi_istore (lv' := [some (.ref (b + 0)), some (.int (nI i)), some (.int (nI u)), some (.int g), some (.ref (b + k)), some (.int (nI 0)), some (.int (nI 2)), some (.int (nI v)), some (.int (nI 2)), some (.int (S m_shownTo i)), some (.int (S m_sentBy i)), some (.int (S m_doneOf i)), some (.int (S oMod 2)), some (.int (nI kp)), some (.int (nI 1)), some (.int (nI j197)), some (.int ((nI j198) - (nI 1000))), some (.int (cV S v j197)), some (.int (lastV S i)), none, none, none]) hC dL_operates_132 (pc' := 134) rfl (by decide) rfl ?_
      refine xi_iload hC dL_operates_134 (pc' := 136) rfl rfl ?_
      refine xn_ifeq (tgt := 149) hC dL_operates_136 (pc' := 139) rfl (by decide) (by omega) (fun zc136 => ?_) (fun zc136 => ?_)
      · exact absurd zc136 (by decide)
      · skip
        refine xi_aload_n hC dL_operates_139 (pc' := 140) rfl rfl rfl ?_
        refine xi_iload_n hC dL_operates_140 (pc' := 141) rfl rfl rfl ?_
        refine xi_iload hC dL_operates_141 (pc' := 143) rfl rfl ?_
        refine xi_callV (As := [.int (nI i), .int ((nI j198) - (nI 1000))]) (rest := []) (c_X7_write l D b (b + (k + 3)) (σ := σ4) (S := S) (N := N) (u := u) (w := w) hS hRσ4 (by omega) (x := (nI i)) (y := ((nI j198) - (nI 1000)))) hC dL_operates_143 (pc' := 146) rfl xw_m_L_55 xw_c_X7_write xw_ins_X7_write xw_sel_X7_write xw_ini_X7 xd_X7_write (xH_at.trans (xsh_7 kd_0)) rfl ⟨Nat.le_of_ble_eq_true rfl, Nat.le_of_ble_eq_true rfl⟩ rfl (Nat.le_of_ble_eq_true rfl) ⟨Nat.le_of_ble_eq_true rfl, Nat.le_of_ble_eq_true rfl⟩ ?_
        rintro _ _ ⟨r203, σ204, rfl, hHσ204, hO206, rfl⟩
        obtain ⟨rT205, T205, hZT205⟩ := ex_write (S := S) (u := u) (w := w) (x := nI i) (y := ((nI j198) - (nI 1000))) hS.1
        obtain ⟨eT205, hRσ204⟩ := hO206 rT205 T205 hZT205
        have hST205 := SI_write hS hZT205
        have hJT205 := (JJ_write hS.1 hJ hZT205).up (Nat.le_succ N)
        have hP0 : S m_hasProof i = 0 := Classical.not_not.mp (fun q => al_no hA ((hJ i hi).2.1 q))
        obtain ⟨e2T205, f5, f1, f6, f4, fc, fk, f0, fl, fp2, fp1⟩ := w_al hZT205 hi (low_inR hj198) hA (by omega) hV hkp5 hkp hP0 hx (by decide)
        obtain rfl : r203 = nI 2 := eT205.trans e2T205
        have hlσ204_k : σ204 k 4096 = nI 8 := by rw [hHσ204 k (by omega)]; exact hlσ4
        show xV _ _ _ _ _ _ _ _ _ _ _ _ _ _ _ _ _ (xH D b σ204) _ _ [.int (nI 2)]
        refine xi_goto (tgt := 156) hC dL_operates_146 (by decide) ?_
        refine xi_istore (lv' := [some (.ref (b + 0)), some (.int (nI i)), some (.int (nI u)), some (.int g), some (.ref (b + k)), some (.int (nI 0)), some (.int (nI 2)), some (.int (nI v)), some (.int (nI 2)), some (.int (S m_shownTo i)), some (.int (S m_sentBy i)), some (.int (S m_doneOf i)), some (.int (S oMod 2)), some (.int (nI kp)), some (.int (nI 1)), some (.int (nI j197)), some (.int ((nI j198) - (nI 1000))), some (.int (cV S v j197)), some (.int (lastV S i)), some (.int (nI 2)), none, none]) hC dL_operates_156 (pc' := 158) rfl (by decide) rfl ?_
        refine xi_iload hC dL_operates_158 (pc' := 160) rfl rfl ?_
        refine xn_ifle (tgt := 207) hC dL_operates_160 (pc' := 163) rfl (by decide) (by omega) (fun zc160 => ?_) (fun zc160 => ?_)
        · skip
          refine xi_iload hC dL_operates_207 (pc' := 209) rfl rfl ?_
          refine xi_iload hC dL_operates_209 (pc' := 211) rfl rfl ?_
          refine xn_icmpne (tgt := 247) hC dL_operates_211 (pc' := 214) rfl (by decide) (by omega) (by omega) (fun zc211 => ?_) (fun zc211 => ?_)
          · exact absurd zc211 (by decide)
          · skip
            refine xi_iload hC dL_operates_214 (pc' := 216) rfl rfl ?_
            refine xi_iload hC dL_operates_216 (pc' := 218) rfl rfl ?_
            refine xn_icmpne (tgt := 247) hC dL_operates_218 (pc' := 221) rfl (by decide) (by omega) (by omega) (fun zc218 => ?_) (fun zc218 => ?_)
            · exact absurd zc218 (by decide)
            · skip
              refine xi_aload_n hC dL_operates_221 (pc' := 222) rfl rfl rfl ?_
              refine xi_iload_n hC dL_operates_222 (pc' := 223) rfl rfl rfl ?_
              refine xi_iconst (v := nI 5) hC dL_operates_223 (pc' := 224) rfl (by decide +kernel) ?_
              refine xi_callV (As := [.int (nI i), .int (nI 5)]) (rest := []) (c_X7_user l D b (b + (k + 3)) (σ := σ204) (S := T205) (N := (N + 1)) (u := u) (w := w) hST205 hRσ204 (by omega) (x := (nI i)) (y := (nI 5))) hC dL_operates_224 (pc' := 227) rfl xw_m_L_18 xw_c_X7_user xw_ins_X7_user xw_sel_X7_user xw_ini_X7 xd_X7_user (xH_at.trans (xsh_7 kd_0)) rfl ⟨Nat.le_of_ble_eq_true rfl, Nat.le_of_ble_eq_true rfl⟩ rfl (Nat.le_of_ble_eq_true rfl) ⟨Nat.le_of_ble_eq_true rfl, Nat.le_of_ble_eq_true rfl⟩ ?_
              rintro _ _ ⟨r207, rfl, hO208, rfl⟩
              obtain rfl : r207 = ((S m_shownTo i) + (nI (u * u))) := (hO208 _ (su_5 (by omega) (by omega))).trans (f5)
              show xV _ _ _ _ _ _ _ _ _ _ _ _ _ _ _ _ _ (xH D b σ204) _ _ [.int ((S m_shownTo i) + (nI (u * u)))]
              refine xi_iload hC dL_operates_227 (pc' := 229) rfl rfl ?_
              refine xi_iload_n hC dL_operates_229 (pc' := 230) rfl rfl rfl ?_
              refine xi_iload_n hC dL_operates_230 (pc' := 231) rfl rfl rfl ?_
              refine xn_imul hC dL_operates_231 (pc' := 232) rfl ?_
              refine xi_iadd hC dL_operates_232 (pc' := 233) rfl ?_
              refine xi_icmpne (tgt := 247) hC dL_operates_233 (pc' := 236) rfl (by decide) (fun zc233 => ?_) (fun zc233 => ?_)
              · exact absurd rfl zc233
              · skip
                refine xi_aload_n hC dL_operates_236 (pc' := 237) rfl rfl rfl ?_
                refine xi_iload_n hC dL_operates_237 (pc' := 238) rfl rfl rfl ?_
                refine xi_iconst (v := nI 1) hC dL_operates_238 (pc' := 239) rfl (by decide +kernel) ?_
                refine xi_callV (As := [.int (nI i), .int (nI 1)]) (rest := []) (c_X7_user l D b (b + (k + 3)) (σ := σ204) (S := T205) (N := (N + 1)) (u := u) (w := w) hST205 hRσ204 (by omega) (x := (nI i)) (y := (nI 1))) hC dL_operates_239 (pc' := 242) rfl xw_m_L_18 xw_c_X7_user xw_ins_X7_user xw_sel_X7_user xw_ini_X7 xd_X7_user (xH_at.trans (xsh_7 kd_0)) rfl ⟨Nat.le_of_ble_eq_true rfl, Nat.le_of_ble_eq_true rfl⟩ rfl (Nat.le_of_ble_eq_true rfl) ⟨Nat.le_of_ble_eq_true rfl, Nat.le_of_ble_eq_true rfl⟩ ?_
                rintro _ _ ⟨r209, rfl, hO210, rfl⟩
                obtain rfl : r209 = (nI 2) := hO210 _ (su_1 (by omega) (by omega) f1)
                show xV _ _ _ _ _ _ _ _ _ _ _ _ _ _ _ _ _ (xH D b σ204) _ _ [.int (nI 2)]
                refine xi_iload hC dL_operates_242 (pc' := 244) rfl rfl ?_
                refine xn_icmpeq (tgt := 249) hC dL_operates_244 (pc' := 247) rfl (by decide) (by omega) (by omega) (fun zc244 => ?_) (fun zc244 => ?_)
                · skip
                  refine xi_iload hC dL_operates_249 (pc' := 251) rfl rfl ?_
                  refine xn_ifle (tgt := 354) hC dL_operates_251 (pc' := 254) rfl (by decide) (by omega) (fun zc251 => ?_) (fun zc251 => ?_)
                  · first | exact zc251.elim | exact absurd zc251 (by decide)
                  · skip
                    refine xi_aload_n hC dL_operates_254 (pc' := 255) rfl rfl rfl ?_
                    refine xi_iload_n hC dL_operates_255 (pc' := 256) rfl rfl rfl ?_
                    refine xi_iconst (v := nI 2) hC dL_operates_256 (pc' := 257) rfl (by decide +kernel) ?_
                    refine xi_callV (As := [.int (nI i), .int (nI 2)]) (rest := []) (c_X7_user l D b (b + (k + 3)) (σ := σ204) (S := T205) (N := (N + 1)) (u := u) (w := w) hST205 hRσ204 (by omega) (x := (nI i)) (y := (nI 2))) hC dL_operates_257 (pc' := 260) rfl xw_m_L_18 xw_c_X7_user xw_ins_X7_user xw_sel_X7_user xw_ini_X7 xd_X7_user (xH_at.trans (xsh_7 kd_0)) rfl ⟨Nat.le_of_ble_eq_true rfl, Nat.le_of_ble_eq_true rfl⟩ rfl (Nat.le_of_ble_eq_true rfl) ⟨Nat.le_of_ble_eq_true rfl, Nat.le_of_ble_eq_true rfl⟩ ?_
                    rintro _ _ ⟨r211, rfl, hO212, rfl⟩
                    obtain rfl : r211 = (nI 1) := hO212 _ (su_2t (by omega) (by omega) (fp2 rfl))
                    show xV _ _ _ _ _ _ _ _ _ _ _ _ _ _ _ _ _ (xH D b σ204) _ _ [.int (nI 1)]
                    refine xi_iconst (v := nI 1) hC dL_operates_260 (pc' := 261) rfl (by decide +kernel) ?_
                    refine xn_icmpne (tgt := 268) hC dL_operates_261 (pc' := 264) rfl (by decide) (by omega) (by omega) (fun zc261 => ?_) (fun zc261 => ?_)
                    · exact absurd zc261 (by decide)
                    · skip
                      refine xi_iconst (v := nI 1) hC dL_operates_264 (pc' := 265) rfl (by decide +kernel) ?_
                      refine xi_goto (tgt := 269) hC dL_operates_265 (by decide) ?_
                      refine xi_istore (lv' := [some (.ref (b + 0)), some (.int (nI i)), some (.int (nI u)), some (.int g), some (.ref (b + k)), some (.int (nI 0)), some (.int (nI 2)), some (.int (nI v)), some (.int (nI 2)), some (.int (S m_shownTo i)), some (.int (S m_sentBy i)), some (.int (S m_doneOf i)), some (.int (S oMod 2)), some (.int (nI kp)), some (.int (nI 1)), some (.int (nI j197)), some (.int ((nI j198) - (nI 1000))), some (.int (cV S v j197)), some (.int (lastV S i)), some (.int (nI 2)), some (.int (nI 1)), none]) hC dL_operates_269 (pc' := 271) rfl (by decide) rfl ?_
                      refine xi_aload_n hC dL_operates_271 (pc' := 272) rfl rfl rfl ?_
                      refine xi_iload_n hC dL_operates_272 (pc' := 273) rfl rfl rfl ?_
                      refine xi_bipush (v := nI 6) hC dL_operates_273 (pc' := 275) rfl (by decide +kernel) ?_
                      refine xi_callV (As := [.int (nI i), .int (nI 6)]) (rest := []) (c_X7_user l D b (b + (k + 3)) (σ := σ204) (S := T205) (N := (N + 1)) (u := u) (w := w) hST205 hRσ204 (by omega) (x := (nI i)) (y := (nI 6))) hC dL_operates_275 (pc' := 278) rfl xw_m_L_18 xw_c_X7_user xw_ins_X7_user xw_sel_X7_user xw_ini_X7 xd_X7_user (xH_at.trans (xsh_7 kd_0)) rfl ⟨Nat.le_of_ble_eq_true rfl, Nat.le_of_ble_eq_true rfl⟩ rfl (Nat.le_of_ble_eq_true rfl) ⟨Nat.le_of_ble_eq_true rfl, Nat.le_of_ble_eq_true rfl⟩ ?_
                      rintro _ _ ⟨r213, rfl, hO214, rfl⟩
                      obtain rfl : r213 = (S m_sentBy i) := (hO214 _ (su_6 (by omega) (by omega))).trans (f6)
                      show xV _ _ _ _ _ _ _ _ _ _ _ _ _ _ _ _ _ (xH D b σ204) _ _ [.int (S m_sentBy i)]
                      refine xi_iload hC dL_operates_278 (pc' := 280) rfl rfl ?_
                      refine xi_icmpne (tgt := 352) hC dL_operates_280 (pc' := 283) rfl (by decide) (fun zc280 => ?_) (fun zc280 => ?_)
                      · exact absurd rfl zc280
                      · skip
                        refine xi_aload_n hC dL_operates_283 (pc' := 284) rfl rfl rfl ?_
                        refine xi_iload_n hC dL_operates_284 (pc' := 285) rfl rfl rfl ?_
                        refine xi_iconst (v := nI 4) hC dL_operates_285 (pc' := 286) rfl (by decide +kernel) ?_
                        refine xi_callV (As := [.int (nI i), .int (nI 4)]) (rest := []) (c_X7_user l D b (b + (k + 3)) (σ := σ204) (S := T205) (N := (N + 1)) (u := u) (w := w) hST205 hRσ204 (by omega) (x := (nI i)) (y := (nI 4))) hC dL_operates_286 (pc' := 289) rfl xw_m_L_18 xw_c_X7_user xw_ins_X7_user xw_sel_X7_user xw_ini_X7 xd_X7_user (xH_at.trans (xsh_7 kd_0)) rfl ⟨Nat.le_of_ble_eq_true rfl, Nat.le_of_ble_eq_true rfl⟩ rfl (Nat.le_of_ble_eq_true rfl) ⟨Nat.le_of_ble_eq_true rfl, Nat.le_of_ble_eq_true rfl⟩ ?_
                        rintro _ _ ⟨r215, rfl, hO216, rfl⟩
                        obtain rfl : r215 = (S m_doneOf i) := (hO216 _ (su_4 (by omega) (by omega))).trans (f4)
                        show xV _ _ _ _ _ _ _ _ _ _ _ _ _ _ _ _ _ (xH D b σ204) _ _ [.int (S m_doneOf i)]
                        refine xi_iload hC dL_operates_289 (pc' := 291) rfl rfl ?_
                        refine xi_icmpne (tgt := 352) hC dL_operates_291 (pc' := 294) rfl (by decide) (fun zc291 => ?_) (fun zc291 => ?_)
                        · exact absurd rfl zc291
                        · skip
                          refine xi_aload_n hC dL_operates_294 (pc' := 295) rfl rfl rfl ?_
                          refine xi_iconst (v := nI 4) hC dL_operates_295 (pc' := 296) rfl (by decide +kernel) ?_
                          refine xi_callV (As := [.int (nI 4)]) (rest := []) (c_X7_count l D b (b + (k + 3)) (σ := σ204) (S := T205) (N := (N + 1)) (u := u) (w := w) hST205 hRσ204 (by omega) (x := (nI 4))) hC dL_operates_296 (pc' := 299) rfl xw_m_L_40 xw_c_X7_count xw_ins_X7_count xw_sel_X7_count xw_ini_X7 xd_X7_count (xH_at.trans (xsh_7 kd_0)) rfl ⟨Nat.le_of_ble_eq_true rfl, Nat.le_of_ble_eq_true rfl⟩ rfl (Nat.le_of_ble_eq_true rfl) ⟨Nat.le_of_ble_eq_true rfl, Nat.le_of_ble_eq_true rfl⟩ ?_
                          rintro _ _ ⟨r217, rfl, hO218, rfl⟩
                          obtain rfl : r217 = (S oMod 2) := (hO218 _ (sc_4)).trans (fc)
                          show xV _ _ _ _ _ _ _ _ _ _ _ _ _ _ _ _ _ (xH D b σ204) _ _ [.int (S oMod 2)]
                          refine xi_iload hC dL_operates_299 (pc' := 301) rfl rfl ?_
                          refine xi_icmpne (tgt := 352) hC dL_operates_301 (pc' := 304) rfl (by decide) (fun zc301 => ?_) (fun zc301 => ?_)
                          · exact absurd rfl zc301
                          · skip
                            refine xi_aload_n hC dL_operates_304 (pc' := 305) rfl rfl rfl ?_
                            refine xi_iload hC dL_operates_305 (pc' := 307) rfl rfl ?_
                            refine xi_iconst (v := nI 1) hC dL_operates_307 (pc' := 308) rfl (by decide +kernel) ?_
                            refine xi_callV (As := [.int (nI v), .int (nI 1)]) (rest := []) (c_X7_view l D b (b + (k + 3)) (σ := σ204) (S := T205) (N := (N + 1)) (u := u) (w := w) hST205 hRσ204 (by omega) (x := (nI v)) (y := (nI 1))) hC dL_operates_308 (pc' := 311) rfl xw_m_L_43 xw_c_X7_view xw_ins_X7_view xw_sel_X7_view xw_ini_X7 xd_X7_view (xH_at.trans (xsh_7 kd_0)) rfl ⟨Nat.le_of_ble_eq_true rfl, Nat.le_of_ble_eq_true rfl⟩ rfl (Nat.le_of_ble_eq_true rfl) ⟨Nat.le_of_ble_eq_true rfl, Nat.le_of_ble_eq_true rfl⟩ ?_
                            rintro _ _ ⟨r219, rfl, hO220, rfl⟩
                            obtain rfl : r219 = (nI kp) := hO220 _ _ (sw_1 hv (by omega) fk)
                            show xV _ _ _ _ _ _ _ _ _ _ _ _ _ _ _ _ _ (xH D b σ204) _ _ [.int (nI kp)]
                            refine xi_iload hC dL_operates_311 (pc' := 313) rfl rfl ?_
                            refine xi_icmpne (tgt := 352) hC dL_operates_313 (pc' := 316) rfl (by decide) (fun zc313 => ?_) (fun zc313 => ?_)
                            · exact absurd rfl zc313
                            · skip
                              refine xi_iload hC dL_operates_316 (pc' := 318) rfl rfl ?_
                              refine xi_iconst (v := nI 2) hC dL_operates_318 (pc' := 319) rfl (by decide +kernel) ?_
                              refine xn_icmpne (tgt := 327) hC dL_operates_319 (pc' := 322) rfl (by decide) (by omega) (by omega) (fun zc319 => ?_) (fun zc319 => ?_)
                              · exact absurd zc319 (by decide)
                              · skip
                                refine xi_iload hC dL_operates_322 (pc' := 324) rfl rfl ?_
                                refine xn_ifeq (tgt := 352) hC dL_operates_324 (pc' := 327) rfl (by decide) (by omega) (fun zc324 => ?_) (fun zc324 => ?_)
                                · exact absurd zc324 (by decide)
                                · skip
                                  refine xi_iload hC dL_operates_327 (pc' := 329) rfl rfl ?_
                                  refine xi_iconst (v := nI 1) hC dL_operates_329 (pc' := 330) rfl (by decide +kernel) ?_
                                  refine xn_icmpne (tgt := 338) hC dL_operates_330 (pc' := 333) rfl (by decide) (by omega) (by omega) (fun zc330 => ?_) (fun zc330 => ?_)
                                  · skip
                                    refine xi_aload_n hC dL_operates_338 (pc' := 339) rfl rfl rfl ?_
                                    refine xi_iload_n hC dL_operates_339 (pc' := 340) rfl rfl rfl ?_
                                    refine xi_callV (As := [.int (nI i)]) (rest := []) (c_X7_lastRead l D b (b + (k + 3)) (σ := σ204) (S := T205) (N := (N + 1)) (u := u) (w := w) hST205 hRσ204 (by omega) (x := (nI i))) hC dL_operates_340 (pc' := 343) rfl xw_m_L_52 xw_c_X7_lastRead xw_ins_X7_lastRead xw_sel_X7_lastRead xw_ini_X7 xd_X7_lastRead (xH_at.trans (xsh_7 kd_0)) rfl ⟨Nat.le_of_ble_eq_true rfl, Nat.le_of_ble_eq_true rfl⟩ rfl (Nat.le_of_ble_eq_true rfl) ⟨Nat.le_of_ble_eq_true rfl, Nat.le_of_ble_eq_true rfl⟩ ?_
                                    rintro _ _ ⟨r221, rfl, hO222, rfl⟩
                                    obtain rfl : r221 = (lastV S i) := (hO222 _ (sl_1 (by omega) (by omega))).trans (fl)
                                    show xV _ _ _ _ _ _ _ _ _ _ _ _ _ _ _ _ _ (xH D b σ204) _ _ [.int (lastV S i)]
                                    refine xi_iload hC dL_operates_343 (pc' := 345) rfl rfl ?_
                                    refine xi_icmpne (tgt := 352) hC dL_operates_345 (pc' := 348) rfl (by decide) (fun zc345 => ?_) (fun zc345 => ?_)
                                    · exact absurd rfl zc345
                                    · skip
                                      refine xi_iconst (v := nI 1) hC dL_operates_348 (pc' := 349) rfl (by decide +kernel) ?_
                                      refine xi_goto (tgt := 353) hC dL_operates_349 (by decide) ?_
                                      refine xb_ireturn hC dL_operates_353 hr (by decide) rfl ?_
                                      exact ⟨σ204, T205, rfl, hST205, hRσ204, hJT205, rfl⟩
                                  · exact absurd zc330 (by decide)
                · exact absurd zc244 (by decide)
        · first | exact zc160.elim | exact absurd zc160 (by decide)
  · skip
    refine xi_aload_n hC dL_operates_32 (pc' := 33) rfl rfl rfl ?_
    refine xi_iload_n hC dL_operates_33 (pc' := 34) rfl rfl rfl ?_
    refine xi_callV (As := [.int (nI i)]) (rest := []) (c_X7_check l D b (b + (k + 3)) (σ := σ4) (S := S) (N := N) (u := u) (w := w) hS hRσ4 (by omega) (x := (nI i))) hC dL_operates_34 (pc' := 37) rfl xw_m_L_36 xw_c_X7_check xw_ins_X7_check xw_sel_X7_check xw_ini_X7 xd_X7_check (xH_at.trans (xsh_7 kd_0)) rfl ⟨Nat.le_of_ble_eq_true rfl, Nat.le_of_ble_eq_true rfl⟩ rfl (Nat.le_of_ble_eq_true rfl) ⟨Nat.le_of_ble_eq_true rfl, Nat.le_of_ble_eq_true rfl⟩ ?_
    rintro _ _ ⟨r223, rfl, hO224, rfl⟩
    obtain rfl : r223 = (nI 3) := hO224 _ _ (sk_0 (by omega) (by omega) hA (by omega) hV hx)
    show xV _ _ _ _ _ _ _ _ _ _ _ _ _ _ _ _ _ (xH D b σ4) _ _ [.int (nI 3)]
    refine xi_istore (lv' := [some (.ref (b + 0)), some (.int (nI i)), some (.int (nI u)), some (.int g), some (.ref (b + k)), some (.int (nI 0)), some (.int (nI 3)), some (.int (nI v)), some (.int (nI 3)), none, none, none, none, none, none, none, none, none, none, none, none, none]) hC dL_operates_37 (pc' := 39) rfl (by decide) rfl ?_
    refine xi_aload_n hC dL_operates_39 (pc' := 40) rfl rfl rfl ?_
    refine xi_iload_n hC dL_operates_40 (pc' := 41) rfl rfl rfl ?_
    refine xi_iconst (v := nI 5) hC dL_operates_41 (pc' := 42) rfl (by decide +kernel) ?_
    refine xi_callV (As := [.int (nI i), .int (nI 5)]) (rest := []) (c_X7_user l D b (b + (k + 3)) (σ := σ4) (S := S) (N := N) (u := u) (w := w) hS hRσ4 (by omega) (x := (nI i)) (y := (nI 5))) hC dL_operates_42 (pc' := 45) rfl xw_m_L_18 xw_c_X7_user xw_ins_X7_user xw_sel_X7_user xw_ini_X7 xd_X7_user (xH_at.trans (xsh_7 kd_0)) rfl ⟨Nat.le_of_ble_eq_true rfl, Nat.le_of_ble_eq_true rfl⟩ rfl (Nat.le_of_ble_eq_true rfl) ⟨Nat.le_of_ble_eq_true rfl, Nat.le_of_ble_eq_true rfl⟩ ?_
    rintro _ _ ⟨r225, rfl, hO226, rfl⟩
    obtain rfl : r225 = (S m_shownTo i) := hO226 _ (su_5 (by omega) (by omega))
    show xV _ _ _ _ _ _ _ _ _ _ _ _ _ _ _ _ _ (xH D b σ4) _ _ [.int (S m_shownTo i)]
    refine xi_istore (lv' := [some (.ref (b + 0)), some (.int (nI i)), some (.int (nI u)), some (.int g), some (.ref (b + k)), some (.int (nI 0)), some (.int (nI 3)), some (.int (nI v)), some (.int (nI 3)), some (.int (S m_shownTo i)), none, none, none, none, none, none, none, none, none, none, none, none]) hC dL_operates_45 (pc' := 47) rfl (by decide) rfl ?_
    refine xi_aload_n hC dL_operates_47 (pc' := 48) rfl rfl rfl ?_
    refine xi_iload_n hC dL_operates_48 (pc' := 49) rfl rfl rfl ?_
    refine xi_bipush (v := nI 6) hC dL_operates_49 (pc' := 51) rfl (by decide +kernel) ?_
    refine xi_callV (As := [.int (nI i), .int (nI 6)]) (rest := []) (c_X7_user l D b (b + (k + 3)) (σ := σ4) (S := S) (N := N) (u := u) (w := w) hS hRσ4 (by omega) (x := (nI i)) (y := (nI 6))) hC dL_operates_51 (pc' := 54) rfl xw_m_L_18 xw_c_X7_user xw_ins_X7_user xw_sel_X7_user xw_ini_X7 xd_X7_user (xH_at.trans (xsh_7 kd_0)) rfl ⟨Nat.le_of_ble_eq_true rfl, Nat.le_of_ble_eq_true rfl⟩ rfl (Nat.le_of_ble_eq_true rfl) ⟨Nat.le_of_ble_eq_true rfl, Nat.le_of_ble_eq_true rfl⟩ ?_
    rintro _ _ ⟨r227, rfl, hO228, rfl⟩
    obtain rfl : r227 = (S m_sentBy i) := hO228 _ (su_6 (by omega) (by omega))
    show xV _ _ _ _ _ _ _ _ _ _ _ _ _ _ _ _ _ (xH D b σ4) _ _ [.int (S m_sentBy i)]
    refine xi_istore (lv' := [some (.ref (b + 0)), some (.int (nI i)), some (.int (nI u)), some (.int g), some (.ref (b + k)), some (.int (nI 0)), some (.int (nI 3)), some (.int (nI v)), some (.int (nI 3)), some (.int (S m_shownTo i)), some (.int (S m_sentBy i)), none, none, none, none, none, none, none, none, none, none, none]) hC dL_operates_54 (pc' := 56) rfl (by decide) rfl ?_
    refine xi_aload_n hC dL_operates_56 (pc' := 57) rfl rfl rfl ?_
    refine xi_iload_n hC dL_operates_57 (pc' := 58) rfl rfl rfl ?_
    refine xi_iconst (v := nI 4) hC dL_operates_58 (pc' := 59) rfl (by decide +kernel) ?_
    refine xi_callV (As := [.int (nI i), .int (nI 4)]) (rest := []) (c_X7_user l D b (b + (k + 3)) (σ := σ4) (S := S) (N := N) (u := u) (w := w) hS hRσ4 (by omega) (x := (nI i)) (y := (nI 4))) hC dL_operates_59 (pc' := 62) rfl xw_m_L_18 xw_c_X7_user xw_ins_X7_user xw_sel_X7_user xw_ini_X7 xd_X7_user (xH_at.trans (xsh_7 kd_0)) rfl ⟨Nat.le_of_ble_eq_true rfl, Nat.le_of_ble_eq_true rfl⟩ rfl (Nat.le_of_ble_eq_true rfl) ⟨Nat.le_of_ble_eq_true rfl, Nat.le_of_ble_eq_true rfl⟩ ?_
    rintro _ _ ⟨r229, rfl, hO230, rfl⟩
    obtain rfl : r229 = (S m_doneOf i) := hO230 _ (su_4 (by omega) (by omega))
    show xV _ _ _ _ _ _ _ _ _ _ _ _ _ _ _ _ _ (xH D b σ4) _ _ [.int (S m_doneOf i)]
    refine xi_istore (lv' := [some (.ref (b + 0)), some (.int (nI i)), some (.int (nI u)), some (.int g), some (.ref (b + k)), some (.int (nI 0)), some (.int (nI 3)), some (.int (nI v)), some (.int (nI 3)), some (.int (S m_shownTo i)), some (.int (S m_sentBy i)), some (.int (S m_doneOf i)), none, none, none, none, none, none, none, none, none, none]) hC dL_operates_62 (pc' := 64) rfl (by decide) rfl ?_
    refine xi_aload_n hC dL_operates_64 (pc' := 65) rfl rfl rfl ?_
    refine xi_iconst (v := nI 4) hC dL_operates_65 (pc' := 66) rfl (by decide +kernel) ?_
    refine xi_callV (As := [.int (nI 4)]) (rest := []) (c_X7_count l D b (b + (k + 3)) (σ := σ4) (S := S) (N := N) (u := u) (w := w) hS hRσ4 (by omega) (x := (nI 4))) hC dL_operates_66 (pc' := 69) rfl xw_m_L_40 xw_c_X7_count xw_ins_X7_count xw_sel_X7_count xw_ini_X7 xd_X7_count (xH_at.trans (xsh_7 kd_0)) rfl ⟨Nat.le_of_ble_eq_true rfl, Nat.le_of_ble_eq_true rfl⟩ rfl (Nat.le_of_ble_eq_true rfl) ⟨Nat.le_of_ble_eq_true rfl, Nat.le_of_ble_eq_true rfl⟩ ?_
    rintro _ _ ⟨r231, rfl, hO232, rfl⟩
    obtain rfl : r231 = (S oMod 2) := hO232 _ (sc_4)
    show xV _ _ _ _ _ _ _ _ _ _ _ _ _ _ _ _ _ (xH D b σ4) _ _ [.int (S oMod 2)]
    refine xi_istore (lv' := [some (.ref (b + 0)), some (.int (nI i)), some (.int (nI u)), some (.int g), some (.ref (b + k)), some (.int (nI 0)), some (.int (nI 3)), some (.int (nI v)), some (.int (nI 3)), some (.int (S m_shownTo i)), some (.int (S m_sentBy i)), some (.int (S m_doneOf i)), some (.int (S oMod 2)), none, none, none, none, none, none, none, none, none]) hC dL_operates_69 (pc' := 71) rfl (by decide) rfl ?_
    refine xi_aload_n hC dL_operates_71 (pc' := 72) rfl rfl rfl ?_
    refine xi_iload hC dL_operates_72 (pc' := 74) rfl rfl ?_
    refine xi_iconst (v := nI 1) hC dL_operates_74 (pc' := 75) rfl (by decide +kernel) ?_
    refine xi_callV (As := [.int (nI v), .int (nI 1)]) (rest := []) (c_X7_view l D b (b + (k + 3)) (σ := σ4) (S := S) (N := N) (u := u) (w := w) hS hRσ4 (by omega) (x := (nI v)) (y := (nI 1))) hC dL_operates_75 (pc' := 78) rfl xw_m_L_43 xw_c_X7_view xw_ins_X7_view xw_sel_X7_view xw_ini_X7 xd_X7_view (xH_at.trans (xsh_7 kd_0)) rfl ⟨Nat.le_of_ble_eq_true rfl, Nat.le_of_ble_eq_true rfl⟩ rfl (Nat.le_of_ble_eq_true rfl) ⟨Nat.le_of_ble_eq_true rfl, Nat.le_of_ble_eq_true rfl⟩ ?_
    rintro _ _ ⟨r233, rfl, hO234, rfl⟩
    obtain rfl : r233 = (nI kp) := hO234 _ _ (sw_1 hv (by omega) hkp)
    show xV _ _ _ _ _ _ _ _ _ _ _ _ _ _ _ _ _ (xH D b σ4) _ _ [.int (nI kp)]
    refine xi_istore (lv' := [some (.ref (b + 0)), some (.int (nI i)), some (.int (nI u)), some (.int g), some (.ref (b + k)), some (.int (nI 0)), some (.int (nI 3)), some (.int (nI v)), some (.int (nI 3)), some (.int (S m_shownTo i)), some (.int (S m_sentBy i)), some (.int (S m_doneOf i)), some (.int (S oMod 2)), some (.int (nI kp)), none, none, none, none, none, none, none, none]) hC dL_operates_78 (pc' := 80) rfl (by decide) rfl ?_
    refine xi_iload_n hC dL_operates_80 (pc' := 81) rfl rfl rfl ?_
    refine xi_iconst (v := nI 1) hC dL_operates_81 (pc' := 82) rfl (by decide +kernel) ?_
    refine xi_iand hC dL_operates_82 (pc' := 83) rfl ?_
    refine xi_ifne (tgt := 90) hC dL_operates_83 (pc' := 86) rfl (by decide) (fun zc83 => ?_) (fun zc83 => ?_)
    · skip
      refine xi_iconst (v := nI 0) hC dL_operates_90 (pc' := 91) rfl (by decide +kernel) ?_
      refine xi_istore (lv' := [some (.ref (b + 0)), some (.int (nI i)), some (.int (nI u)), some (.int g), some (.ref (b + k)), some (.int (nI 0)), some (.int (nI 3)), some (.int (nI v)), some (.int (nI 3)), some (.int (S m_shownTo i)), some (.int (S m_sentBy i)), some (.int (S m_doneOf i)), some (.int (S oMod 2)), some (.int (nI kp)), some (.int (nI 0)), none, none, none, none, none, none, none]) hC dL_operates_91 (pc' := 93) rfl (by decide) rfl ?_
      refine xi_iload_n hC dL_operates_93 (pc' := 94) rfl rfl rfl ?_
      refine xi_iconst (v := nI 1) hC dL_operates_94 (pc' := 95) rfl (by decide +kernel) ?_
      refine xi_ishr hC dL_operates_95 (pc' := 96) rfl ?_
      refine xi_iload_n hC dL_operates_96 (pc' := 97) rfl rfl rfl ?_
      refine xi_callS (As := [.int (g >>> ((nI 1) &&& 31)), .int (nI u)]) (rest := []) (c_L_low l D b (b + (k + 3)) (h := (xH D b σ4)) (x := (g >>> ((nI 1) &&& 31))) (k := u) (by omega) (by omega)) hC dL_operates_97 (pc' := 100) rfl xw_m_L_46 xw_c_L_low xw_sta_L_low xw_ini_L xd_L_low ⟨Nat.le_of_ble_eq_true rfl, Nat.le_of_ble_eq_true rfl⟩ rfl (Nat.le_of_ble_eq_true rfl) ⟨Nat.le_of_ble_eq_true rfl, Nat.le_of_ble_eq_true rfl⟩ ?_
      rintro _ _ ⟨⟨j235, hj235, rfl⟩, rfl⟩
      show xV _ _ _ _ _ _ _ _ _ _ _ _ _ _ _ _ _ (xH D b σ4) _ _ [.int (nI j235)]
      refine xi_istore (lv' := [some (.ref (b + 0)), some (.int (nI i)), some (.int (nI u)), some (.int g), some (.ref (b + k)), some (.int (nI 0)), some (.int (nI 3)), some (.int (nI v)), some (.int (nI 3)), some (.int (S m_shownTo i)), some (.int (S m_sentBy i)), some (.int (S m_doneOf i)), some (.int (S oMod 2)), some (.int (nI kp)), some (.int (nI 0)), some (.int (nI j235)), none, none, none, none, none, none]) hC dL_operates_100 (pc' := 102) rfl (by decide) rfl ?_
      refine xi_iload_n hC dL_operates_102 (pc' := 103) rfl rfl rfl ?_
      refine xi_iconst (v := nI 4) hC dL_operates_103 (pc' := 104) rfl (by decide +kernel) ?_
      refine xi_ishr hC dL_operates_104 (pc' := 105) rfl ?_
      refine xi_sipush (v := nI 2001) hC dL_operates_105 (pc' := 108) rfl (by decide +kernel) ?_
      refine xi_callS (As := [.int (g >>> ((nI 4) &&& 31)), .int (nI 2001)]) (rest := []) (c_L_low l D b (b + (k + 3)) (h := (xH D b σ4)) (x := (g >>> ((nI 4) &&& 31))) (k := 2001) (by omega) (by omega)) hC dL_operates_108 (pc' := 111) rfl xw_m_L_46 xw_c_L_low xw_sta_L_low xw_ini_L xd_L_low ⟨Nat.le_of_ble_eq_true rfl, Nat.le_of_ble_eq_true rfl⟩ rfl (Nat.le_of_ble_eq_true rfl) ⟨Nat.le_of_ble_eq_true rfl, Nat.le_of_ble_eq_true rfl⟩ ?_
      rintro _ _ ⟨⟨j236, hj236, rfl⟩, rfl⟩
      show xV _ _ _ _ _ _ _ _ _ _ _ _ _ _ _ _ _ (xH D b σ4) _ _ [.int (nI j236)]
      refine xi_sipush (v := nI 1000) hC dL_operates_111 (pc' := 114) rfl (by decide +kernel) ?_
      refine xi_isub hC dL_operates_114 (pc' := 115) rfl ?_
      refine xi_istore (lv' := [some (.ref (b + 0)), some (.int (nI i)), some (.int (nI u)), some (.int g), some (.ref (b + k)), some (.int (nI 0)), some (.int (nI 3)), some (.int (nI v)), some (.int (nI 3)), some (.int (S m_shownTo i)), some (.int (S m_sentBy i)), some (.int (S m_doneOf i)), some (.int (S oMod 2)), some (.int (nI kp)), some (.int (nI 0)), some (.int (nI j235)), some (.int ((nI j236) - (nI 1000))), none, none, none, none, none]) hC dL_operates_115 (pc' := 117) rfl (by decide) rfl ?_
      refine xi_aload_n hC dL_operates_117 (pc' := 118) rfl rfl rfl ?_
      refine xi_iload hC dL_operates_118 (pc' := 120) rfl rfl ?_
      refine xi_iload hC dL_operates_120 (pc' := 122) rfl rfl ?_
      refine xi_callV (As := [.int (nI v), .int (nI j235)]) (rest := []) (c_X7_content l D b (b + (k + 3)) (σ := σ4) (S := S) (N := N) (u := u) (w := w) hS hRσ4 (by omega) (x := (nI v)) (y := (nI j235))) hC dL_operates_122 (pc' := 125) rfl xw_m_L_49 xw_c_X7_content xw_ins_X7_content xw_sel_X7_content xw_ini_X7 xd_X7_content (xH_at.trans (xsh_7 kd_0)) rfl ⟨Nat.le_of_ble_eq_true rfl, Nat.le_of_ble_eq_true rfl⟩ rfl (Nat.le_of_ble_eq_true rfl) ⟨Nat.le_of_ble_eq_true rfl, Nat.le_of_ble_eq_true rfl⟩ ?_
      rintro _ _ ⟨r237, rfl, hO238, rfl⟩
      obtain rfl : r237 = (cV S v j235) := hO238 _ (so_1 hv (by omega) (by omega) (by omega))
      show xV _ _ _ _ _ _ _ _ _ _ _ _ _ _ _ _ _ (xH D b σ4) _ _ [.int (cV S v j235)]
      refine xi_istore (lv' := [some (.ref (b + 0)), some (.int (nI i)), some (.int (nI u)), some (.int g), some (.ref (b + k)), some (.int (nI 0)), some (.int (nI 3)), some (.int (nI v)), some (.int (nI 3)), some (.int (S m_shownTo i)), some (.int (S m_sentBy i)), some (.int (S m_doneOf i)), some (.int (S oMod 2)), some (.int (nI kp)), some (.int (nI 0)), some (.int (nI j235)), some (.int ((nI j236) - (nI 1000))), some (.int (cV S v j235)), none, none, none, none]) hC dL_operates_125 (pc' := 127) rfl (by decide) rfl ?_
      refine xi_aload_n hC dL_operates_127 (pc' := 128) rfl rfl rfl ?_
      refine xi_iload_n hC dL_operates_128 (pc' := 129) rfl rfl rfl ?_
      refine xi_callV (As := [.int (nI i)]) (rest := []) (c_X7_lastRead l D b (b + (k + 3)) (σ := σ4) (S := S) (N := N) (u := u) (w := w) hS hRσ4 (by omega) (x := (nI i))) hC dL_operates_129 (pc' := 132) rfl xw_m_L_52 xw_c_X7_lastRead xw_ins_X7_lastRead xw_sel_X7_lastRead xw_ini_X7 xd_X7_lastRead (xH_at.trans (xsh_7 kd_0)) rfl ⟨Nat.le_of_ble_eq_true rfl, Nat.le_of_ble_eq_true rfl⟩ rfl (Nat.le_of_ble_eq_true rfl) ⟨Nat.le_of_ble_eq_true rfl, Nat.le_of_ble_eq_true rfl⟩ ?_
      rintro _ _ ⟨r239, rfl, hO240, rfl⟩
      obtain rfl : r239 = (lastV S i) := hO240 _ (sl_1 (by omega) (by omega))
      show xV _ _ _ _ _ _ _ _ _ _ _ _ _ _ _ _ _ (xH D b σ4) _ _ [.int (lastV S i)]
      refine xi_istore (lv' := [some (.ref (b + 0)), some (.int (nI i)), some (.int (nI u)), some (.int g), some (.ref (b + k)), some (.int (nI 0)), some (.int (nI 3)), some (.int (nI v)), some (.int (nI 3)), some (.int (S m_shownTo i)), some (.int (S m_sentBy i)), some (.int (S m_doneOf i)), some (.int (S oMod 2)), some (.int (nI kp)), some (.int (nI 0)), some (.int (nI j235)), some (.int ((nI j236) - (nI 1000))), some (.int (cV S v j235)), some (.int (lastV S i)), none, none, none]) hC dL_operates_132 (pc' := 134) rfl (by decide) rfl ?_
      refine xi_iload hC dL_operates_134 (pc' := 136) rfl rfl ?_
      refine xn_ifeq (tgt := 149) hC dL_operates_136 (pc' := 139) rfl (by decide) (by omega) (fun zc136 => ?_) (fun zc136 => ?_)
      · skip
        refine xi_aload_n hC dL_operates_149 (pc' := 150) rfl rfl rfl ?_
        refine xi_iload_n hC dL_operates_150 (pc' := 151) rfl rfl rfl ?_
        refine xi_iload hC dL_operates_151 (pc' := 153) rfl rfl ?_
        refine xi_callV (As := [.int (nI i), .int (nI j235)]) (rest := []) (c_X7_read l D b (b + (k + 3)) (σ := σ4) (S := S) (N := N) (u := u) (w := w) hS hRσ4 (by omega) (x := (nI i)) (y := (nI j235))) hC dL_operates_153 (pc' := 156) rfl xw_m_L_58 xw_c_X7_read xw_ins_X7_read xw_sel_X7_read xw_ini_X7 xd_X7_read (xH_at.trans (xsh_7 kd_0)) rfl ⟨Nat.le_of_ble_eq_true rfl, Nat.le_of_ble_eq_true rfl⟩ rfl (Nat.le_of_ble_eq_true rfl) ⟨Nat.le_of_ble_eq_true rfl, Nat.le_of_ble_eq_true rfl⟩ ?_
        rintro _ _ ⟨r241, σ242, rfl, hHσ242, hO244, rfl⟩
        obtain ⟨rT243, T243, hZT243⟩ := ex_read (S := S) (u := u) (w := w) (x := nI i) (y := (nI j235)) hS.1
        obtain ⟨eT243, hRσ242⟩ := hO244 rT243 T243 hZT243
        have hST243 := SI_read hS hZT243
        have hJT243 := (JJ_read hS.1 hJ hZT243).up (Nat.le_succ N)
        have hP0 : S m_hasProof i = 0 := Classical.not_not.mp (fun q => al_no hA ((hJ i hi).2.1 q))
        obtain ⟨e2T243, f5, f1, f6, f4, fc, fk, f0, fl, fp2, fp1⟩ := r_al hZT243 hi hj235 hA (by omega) hV hkp5 hkp hP0 hx (by decide)
        obtain rfl : r241 = nI 3 := eT243.trans e2T243
        have hlσ242_k : σ242 k 4096 = nI 8 := by rw [hHσ242 k (by omega)]; exact hlσ4
        show xV _ _ _ _ _ _ _ _ _ _ _ _ _ _ _ _ _ (xH D b σ242) _ _ [.int (nI 3)]
        refine xi_istore (lv' := [some (.ref (b + 0)), some (.int (nI i)), some (.int (nI u)), some (.int g), some (.ref (b + k)), some (.int (nI 0)), some (.int (nI 3)), some (.int (nI v)), some (.int (nI 3)), some (.int (S m_shownTo i)), some (.int (S m_sentBy i)), some (.int (S m_doneOf i)), some (.int (S oMod 2)), some (.int (nI kp)), some (.int (nI 0)), some (.int (nI j235)), some (.int ((nI j236) - (nI 1000))), some (.int (cV S v j235)), some (.int (lastV S i)), some (.int (nI 3)), none, none]) hC dL_operates_156 (pc' := 158) rfl (by decide) rfl ?_
        refine xi_iload hC dL_operates_158 (pc' := 160) rfl rfl ?_
        refine xn_ifle (tgt := 207) hC dL_operates_160 (pc' := 163) rfl (by decide) (by omega) (fun zc160 => ?_) (fun zc160 => ?_)
        · skip
          refine xi_iload hC dL_operates_207 (pc' := 209) rfl rfl ?_
          refine xi_iload hC dL_operates_209 (pc' := 211) rfl rfl ?_
          refine xn_icmpne (tgt := 247) hC dL_operates_211 (pc' := 214) rfl (by decide) (by omega) (by omega) (fun zc211 => ?_) (fun zc211 => ?_)
          · exact absurd zc211 (by decide)
          · skip
            refine xi_iload hC dL_operates_214 (pc' := 216) rfl rfl ?_
            refine xi_iload hC dL_operates_216 (pc' := 218) rfl rfl ?_
            refine xn_icmpne (tgt := 247) hC dL_operates_218 (pc' := 221) rfl (by decide) (by omega) (by omega) (fun zc218 => ?_) (fun zc218 => ?_)
            · exact absurd zc218 (by decide)
            · skip
              refine xi_aload_n hC dL_operates_221 (pc' := 222) rfl rfl rfl ?_
              refine xi_iload_n hC dL_operates_222 (pc' := 223) rfl rfl rfl ?_
              refine xi_iconst (v := nI 5) hC dL_operates_223 (pc' := 224) rfl (by decide +kernel) ?_
              refine xi_callV (As := [.int (nI i), .int (nI 5)]) (rest := []) (c_X7_user l D b (b + (k + 3)) (σ := σ242) (S := T243) (N := (N + 1)) (u := u) (w := w) hST243 hRσ242 (by omega) (x := (nI i)) (y := (nI 5))) hC dL_operates_224 (pc' := 227) rfl xw_m_L_18 xw_c_X7_user xw_ins_X7_user xw_sel_X7_user xw_ini_X7 xd_X7_user (xH_at.trans (xsh_7 kd_0)) rfl ⟨Nat.le_of_ble_eq_true rfl, Nat.le_of_ble_eq_true rfl⟩ rfl (Nat.le_of_ble_eq_true rfl) ⟨Nat.le_of_ble_eq_true rfl, Nat.le_of_ble_eq_true rfl⟩ ?_
              rintro _ _ ⟨r245, rfl, hO246, rfl⟩
              obtain rfl : r245 = ((S m_shownTo i) + (nI (u * u))) := (hO246 _ (su_5 (by omega) (by omega))).trans (f5)
              show xV _ _ _ _ _ _ _ _ _ _ _ _ _ _ _ _ _ (xH D b σ242) _ _ [.int ((S m_shownTo i) + (nI (u * u)))]
              refine xi_iload hC dL_operates_227 (pc' := 229) rfl rfl ?_
              refine xi_iload_n hC dL_operates_229 (pc' := 230) rfl rfl rfl ?_
              refine xi_iload_n hC dL_operates_230 (pc' := 231) rfl rfl rfl ?_
              refine xn_imul hC dL_operates_231 (pc' := 232) rfl ?_
              refine xi_iadd hC dL_operates_232 (pc' := 233) rfl ?_
              refine xi_icmpne (tgt := 247) hC dL_operates_233 (pc' := 236) rfl (by decide) (fun zc233 => ?_) (fun zc233 => ?_)
              · exact absurd rfl zc233
              · skip
                refine xi_aload_n hC dL_operates_236 (pc' := 237) rfl rfl rfl ?_
                refine xi_iload_n hC dL_operates_237 (pc' := 238) rfl rfl rfl ?_
                refine xi_iconst (v := nI 1) hC dL_operates_238 (pc' := 239) rfl (by decide +kernel) ?_
                refine xi_callV (As := [.int (nI i), .int (nI 1)]) (rest := []) (c_X7_user l D b (b + (k + 3)) (σ := σ242) (S := T243) (N := (N + 1)) (u := u) (w := w) hST243 hRσ242 (by omega) (x := (nI i)) (y := (nI 1))) hC dL_operates_239 (pc' := 242) rfl xw_m_L_18 xw_c_X7_user xw_ins_X7_user xw_sel_X7_user xw_ini_X7 xd_X7_user (xH_at.trans (xsh_7 kd_0)) rfl ⟨Nat.le_of_ble_eq_true rfl, Nat.le_of_ble_eq_true rfl⟩ rfl (Nat.le_of_ble_eq_true rfl) ⟨Nat.le_of_ble_eq_true rfl, Nat.le_of_ble_eq_true rfl⟩ ?_
                rintro _ _ ⟨r247, rfl, hO248, rfl⟩
                obtain rfl : r247 = (nI 3) := hO248 _ (su_1 (by omega) (by omega) f1)
                show xV _ _ _ _ _ _ _ _ _ _ _ _ _ _ _ _ _ (xH D b σ242) _ _ [.int (nI 3)]
                refine xi_iload hC dL_operates_242 (pc' := 244) rfl rfl ?_
                refine xn_icmpeq (tgt := 249) hC dL_operates_244 (pc' := 247) rfl (by decide) (by omega) (by omega) (fun zc244 => ?_) (fun zc244 => ?_)
                · skip
                  refine xi_iload hC dL_operates_249 (pc' := 251) rfl rfl ?_
                  refine xn_ifle (tgt := 354) hC dL_operates_251 (pc' := 254) rfl (by decide) (by omega) (fun zc251 => ?_) (fun zc251 => ?_)
                  · first | exact zc251.elim | exact absurd zc251 (by decide)
                  · skip
                    by_cases hp3 : T243 m_hasProof i = 0
                    · skip
                      refine xi_aload_n hC dL_operates_254 (pc' := 255) rfl rfl rfl ?_
                      refine xi_iload_n hC dL_operates_255 (pc' := 256) rfl rfl rfl ?_
                      refine xi_iconst (v := nI 2) hC dL_operates_256 (pc' := 257) rfl (by decide +kernel) ?_
                      refine xi_callV (As := [.int (nI i), .int (nI 2)]) (rest := []) (c_X7_user l D b (b + (k + 3)) (σ := σ242) (S := T243) (N := (N + 1)) (u := u) (w := w) hST243 hRσ242 (by omega) (x := (nI i)) (y := (nI 2))) hC dL_operates_257 (pc' := 260) rfl xw_m_L_18 xw_c_X7_user xw_ins_X7_user xw_sel_X7_user xw_ini_X7 xd_X7_user (xH_at.trans (xsh_7 kd_0)) rfl ⟨Nat.le_of_ble_eq_true rfl, Nat.le_of_ble_eq_true rfl⟩ rfl (Nat.le_of_ble_eq_true rfl) ⟨Nat.le_of_ble_eq_true rfl, Nat.le_of_ble_eq_true rfl⟩ ?_
                      rintro _ _ ⟨r249, rfl, hO250, rfl⟩
                      obtain rfl : r249 = (nI 0) := hO250 _ (su_2f (by omega) (by omega) hp3)
                      show xV _ _ _ _ _ _ _ _ _ _ _ _ _ _ _ _ _ (xH D b σ242) _ _ [.int (nI 0)]
                      refine xi_iconst (v := nI 1) hC dL_operates_260 (pc' := 261) rfl (by decide +kernel) ?_
                      refine xn_icmpne (tgt := 268) hC dL_operates_261 (pc' := 264) rfl (by decide) (by omega) (by omega) (fun zc261 => ?_) (fun zc261 => ?_)
                      · skip
                        refine xi_iconst (v := nI 0) hC dL_operates_268 (pc' := 269) rfl (by decide +kernel) ?_
                        refine xi_istore (lv' := [some (.ref (b + 0)), some (.int (nI i)), some (.int (nI u)), some (.int g), some (.ref (b + k)), some (.int (nI 0)), some (.int (nI 3)), some (.int (nI v)), some (.int (nI 3)), some (.int (S m_shownTo i)), some (.int (S m_sentBy i)), some (.int (S m_doneOf i)), some (.int (S oMod 2)), some (.int (nI kp)), some (.int (nI 0)), some (.int (nI j235)), some (.int ((nI j236) - (nI 1000))), some (.int (cV S v j235)), some (.int (lastV S i)), some (.int (nI 3)), some (.int (nI 0)), none]) hC dL_operates_269 (pc' := 271) rfl (by decide) rfl ?_
                        refine xi_aload_n hC dL_operates_271 (pc' := 272) rfl rfl rfl ?_
                        refine xi_iload_n hC dL_operates_272 (pc' := 273) rfl rfl rfl ?_
                        refine xi_bipush (v := nI 6) hC dL_operates_273 (pc' := 275) rfl (by decide +kernel) ?_
                        refine xi_callV (As := [.int (nI i), .int (nI 6)]) (rest := []) (c_X7_user l D b (b + (k + 3)) (σ := σ242) (S := T243) (N := (N + 1)) (u := u) (w := w) hST243 hRσ242 (by omega) (x := (nI i)) (y := (nI 6))) hC dL_operates_275 (pc' := 278) rfl xw_m_L_18 xw_c_X7_user xw_ins_X7_user xw_sel_X7_user xw_ini_X7 xd_X7_user (xH_at.trans (xsh_7 kd_0)) rfl ⟨Nat.le_of_ble_eq_true rfl, Nat.le_of_ble_eq_true rfl⟩ rfl (Nat.le_of_ble_eq_true rfl) ⟨Nat.le_of_ble_eq_true rfl, Nat.le_of_ble_eq_true rfl⟩ ?_
                        rintro _ _ ⟨r251, rfl, hO252, rfl⟩
                        obtain rfl : r251 = (S m_sentBy i) := (hO252 _ (su_6 (by omega) (by omega))).trans (f6)
                        show xV _ _ _ _ _ _ _ _ _ _ _ _ _ _ _ _ _ (xH D b σ242) _ _ [.int (S m_sentBy i)]
                        refine xi_iload hC dL_operates_278 (pc' := 280) rfl rfl ?_
                        refine xi_icmpne (tgt := 352) hC dL_operates_280 (pc' := 283) rfl (by decide) (fun zc280 => ?_) (fun zc280 => ?_)
                        · exact absurd rfl zc280
                        · skip
                          refine xi_aload_n hC dL_operates_283 (pc' := 284) rfl rfl rfl ?_
                          refine xi_iload_n hC dL_operates_284 (pc' := 285) rfl rfl rfl ?_
                          refine xi_iconst (v := nI 4) hC dL_operates_285 (pc' := 286) rfl (by decide +kernel) ?_
                          refine xi_callV (As := [.int (nI i), .int (nI 4)]) (rest := []) (c_X7_user l D b (b + (k + 3)) (σ := σ242) (S := T243) (N := (N + 1)) (u := u) (w := w) hST243 hRσ242 (by omega) (x := (nI i)) (y := (nI 4))) hC dL_operates_286 (pc' := 289) rfl xw_m_L_18 xw_c_X7_user xw_ins_X7_user xw_sel_X7_user xw_ini_X7 xd_X7_user (xH_at.trans (xsh_7 kd_0)) rfl ⟨Nat.le_of_ble_eq_true rfl, Nat.le_of_ble_eq_true rfl⟩ rfl (Nat.le_of_ble_eq_true rfl) ⟨Nat.le_of_ble_eq_true rfl, Nat.le_of_ble_eq_true rfl⟩ ?_
                          rintro _ _ ⟨r253, rfl, hO254, rfl⟩
                          obtain rfl : r253 = (S m_doneOf i) := (hO254 _ (su_4 (by omega) (by omega))).trans (f4)
                          show xV _ _ _ _ _ _ _ _ _ _ _ _ _ _ _ _ _ (xH D b σ242) _ _ [.int (S m_doneOf i)]
                          refine xi_iload hC dL_operates_289 (pc' := 291) rfl rfl ?_
                          refine xi_icmpne (tgt := 352) hC dL_operates_291 (pc' := 294) rfl (by decide) (fun zc291 => ?_) (fun zc291 => ?_)
                          · exact absurd rfl zc291
                          · skip
                            refine xi_aload_n hC dL_operates_294 (pc' := 295) rfl rfl rfl ?_
                            refine xi_iconst (v := nI 4) hC dL_operates_295 (pc' := 296) rfl (by decide +kernel) ?_
                            refine xi_callV (As := [.int (nI 4)]) (rest := []) (c_X7_count l D b (b + (k + 3)) (σ := σ242) (S := T243) (N := (N + 1)) (u := u) (w := w) hST243 hRσ242 (by omega) (x := (nI 4))) hC dL_operates_296 (pc' := 299) rfl xw_m_L_40 xw_c_X7_count xw_ins_X7_count xw_sel_X7_count xw_ini_X7 xd_X7_count (xH_at.trans (xsh_7 kd_0)) rfl ⟨Nat.le_of_ble_eq_true rfl, Nat.le_of_ble_eq_true rfl⟩ rfl (Nat.le_of_ble_eq_true rfl) ⟨Nat.le_of_ble_eq_true rfl, Nat.le_of_ble_eq_true rfl⟩ ?_
                            rintro _ _ ⟨r255, rfl, hO256, rfl⟩
                            obtain rfl : r255 = (S oMod 2) := (hO256 _ (sc_4)).trans (fc)
                            show xV _ _ _ _ _ _ _ _ _ _ _ _ _ _ _ _ _ (xH D b σ242) _ _ [.int (S oMod 2)]
                            refine xi_iload hC dL_operates_299 (pc' := 301) rfl rfl ?_
                            refine xi_icmpne (tgt := 352) hC dL_operates_301 (pc' := 304) rfl (by decide) (fun zc301 => ?_) (fun zc301 => ?_)
                            · exact absurd rfl zc301
                            · skip
                              refine xi_aload_n hC dL_operates_304 (pc' := 305) rfl rfl rfl ?_
                              refine xi_iload hC dL_operates_305 (pc' := 307) rfl rfl ?_
                              refine xi_iconst (v := nI 1) hC dL_operates_307 (pc' := 308) rfl (by decide +kernel) ?_
                              refine xi_callV (As := [.int (nI v), .int (nI 1)]) (rest := []) (c_X7_view l D b (b + (k + 3)) (σ := σ242) (S := T243) (N := (N + 1)) (u := u) (w := w) hST243 hRσ242 (by omega) (x := (nI v)) (y := (nI 1))) hC dL_operates_308 (pc' := 311) rfl xw_m_L_43 xw_c_X7_view xw_ins_X7_view xw_sel_X7_view xw_ini_X7 xd_X7_view (xH_at.trans (xsh_7 kd_0)) rfl ⟨Nat.le_of_ble_eq_true rfl, Nat.le_of_ble_eq_true rfl⟩ rfl (Nat.le_of_ble_eq_true rfl) ⟨Nat.le_of_ble_eq_true rfl, Nat.le_of_ble_eq_true rfl⟩ ?_
                              rintro _ _ ⟨r257, rfl, hO258, rfl⟩
                              obtain rfl : r257 = (nI kp) := hO258 _ _ (sw_1 hv (by omega) fk)
                              show xV _ _ _ _ _ _ _ _ _ _ _ _ _ _ _ _ _ (xH D b σ242) _ _ [.int (nI kp)]
                              refine xi_iload hC dL_operates_311 (pc' := 313) rfl rfl ?_
                              refine xi_icmpne (tgt := 352) hC dL_operates_313 (pc' := 316) rfl (by decide) (fun zc313 => ?_) (fun zc313 => ?_)
                              · exact absurd rfl zc313
                              · skip
                                refine xi_iload hC dL_operates_316 (pc' := 318) rfl rfl ?_
                                refine xi_iconst (v := nI 2) hC dL_operates_318 (pc' := 319) rfl (by decide +kernel) ?_
                                refine xn_icmpne (tgt := 327) hC dL_operates_319 (pc' := 322) rfl (by decide) (by omega) (by omega) (fun zc319 => ?_) (fun zc319 => ?_)
                                · skip
                                  refine xi_iload hC dL_operates_327 (pc' := 329) rfl rfl ?_
                                  refine xi_iconst (v := nI 1) hC dL_operates_329 (pc' := 330) rfl (by decide +kernel) ?_
                                  refine xn_icmpne (tgt := 338) hC dL_operates_330 (pc' := 333) rfl (by decide) (by omega) (by omega) (fun zc330 => ?_) (fun zc330 => ?_)
                                  · skip
                                    refine xi_aload_n hC dL_operates_338 (pc' := 339) rfl rfl rfl ?_
                                    refine xi_iload_n hC dL_operates_339 (pc' := 340) rfl rfl rfl ?_
                                    refine xi_callV (As := [.int (nI i)]) (rest := []) (c_X7_lastRead l D b (b + (k + 3)) (σ := σ242) (S := T243) (N := (N + 1)) (u := u) (w := w) hST243 hRσ242 (by omega) (x := (nI i))) hC dL_operates_340 (pc' := 343) rfl xw_m_L_52 xw_c_X7_lastRead xw_ins_X7_lastRead xw_sel_X7_lastRead xw_ini_X7 xd_X7_lastRead (xH_at.trans (xsh_7 kd_0)) rfl ⟨Nat.le_of_ble_eq_true rfl, Nat.le_of_ble_eq_true rfl⟩ rfl (Nat.le_of_ble_eq_true rfl) ⟨Nat.le_of_ble_eq_true rfl, Nat.le_of_ble_eq_true rfl⟩ ?_
                                    rintro _ _ ⟨r259, rfl, hO260, rfl⟩
                                    obtain rfl : r259 = (lastV S i) := (hO260 _ (sl_1 (by omega) (by omega))).trans (fl)
                                    show xV _ _ _ _ _ _ _ _ _ _ _ _ _ _ _ _ _ (xH D b σ242) _ _ [.int (lastV S i)]
                                    refine xi_iload hC dL_operates_343 (pc' := 345) rfl rfl ?_
                                    refine xi_icmpne (tgt := 352) hC dL_operates_345 (pc' := 348) rfl (by decide) (fun zc345 => ?_) (fun zc345 => ?_)
                                    · exact absurd rfl zc345
                                    · skip
                                      refine xi_iconst (v := nI 1) hC dL_operates_348 (pc' := 349) rfl (by decide +kernel) ?_
                                      refine xi_goto (tgt := 353) hC dL_operates_349 (by decide) ?_
                                      refine xb_ireturn hC dL_operates_353 hr (by decide) rfl ?_
                                      exact ⟨σ242, T243, rfl, hST243, hRσ242, hJT243, rfl⟩
                                  · exact absurd zc330 (by decide)
                                · exact absurd zc319 (by decide)
                      · exact absurd zc261 (by decide)
                    · skip
                      refine xi_aload_n hC dL_operates_254 (pc' := 255) rfl rfl rfl ?_
                      refine xi_iload_n hC dL_operates_255 (pc' := 256) rfl rfl rfl ?_
                      refine xi_iconst (v := nI 2) hC dL_operates_256 (pc' := 257) rfl (by decide +kernel) ?_
                      refine xi_callV (As := [.int (nI i), .int (nI 2)]) (rest := []) (c_X7_user l D b (b + (k + 3)) (σ := σ242) (S := T243) (N := (N + 1)) (u := u) (w := w) hST243 hRσ242 (by omega) (x := (nI i)) (y := (nI 2))) hC dL_operates_257 (pc' := 260) rfl xw_m_L_18 xw_c_X7_user xw_ins_X7_user xw_sel_X7_user xw_ini_X7 xd_X7_user (xH_at.trans (xsh_7 kd_0)) rfl ⟨Nat.le_of_ble_eq_true rfl, Nat.le_of_ble_eq_true rfl⟩ rfl (Nat.le_of_ble_eq_true rfl) ⟨Nat.le_of_ble_eq_true rfl, Nat.le_of_ble_eq_true rfl⟩ ?_
                      rintro _ _ ⟨r261, rfl, hO262, rfl⟩
                      obtain rfl : r261 = (nI 1) := hO262 _ (su_2t (by omega) (by omega) hp3)
                      show xV _ _ _ _ _ _ _ _ _ _ _ _ _ _ _ _ _ (xH D b σ242) _ _ [.int (nI 1)]
                      refine xi_iconst (v := nI 1) hC dL_operates_260 (pc' := 261) rfl (by decide +kernel) ?_
                      refine xn_icmpne (tgt := 268) hC dL_operates_261 (pc' := 264) rfl (by decide) (by omega) (by omega) (fun zc261 => ?_) (fun zc261 => ?_)
                      · exact absurd zc261 (by decide)
                      · skip
                        refine xi_iconst (v := nI 1) hC dL_operates_264 (pc' := 265) rfl (by decide +kernel) ?_
                        refine xi_goto (tgt := 269) hC dL_operates_265 (by decide) ?_
                        refine xi_istore (lv' := [some (.ref (b + 0)), some (.int (nI i)), some (.int (nI u)), some (.int g), some (.ref (b + k)), some (.int (nI 0)), some (.int (nI 3)), some (.int (nI v)), some (.int (nI 3)), some (.int (S m_shownTo i)), some (.int (S m_sentBy i)), some (.int (S m_doneOf i)), some (.int (S oMod 2)), some (.int (nI kp)), some (.int (nI 0)), some (.int (nI j235)), some (.int ((nI j236) - (nI 1000))), some (.int (cV S v j235)), some (.int (lastV S i)), some (.int (nI 3)), some (.int (nI 1)), none]) hC dL_operates_269 (pc' := 271) rfl (by decide) rfl ?_
                        refine xi_aload_n hC dL_operates_271 (pc' := 272) rfl rfl rfl ?_
                        refine xi_iload_n hC dL_operates_272 (pc' := 273) rfl rfl rfl ?_
                        refine xi_bipush (v := nI 6) hC dL_operates_273 (pc' := 275) rfl (by decide +kernel) ?_
                        refine xi_callV (As := [.int (nI i), .int (nI 6)]) (rest := []) (c_X7_user l D b (b + (k + 3)) (σ := σ242) (S := T243) (N := (N + 1)) (u := u) (w := w) hST243 hRσ242 (by omega) (x := (nI i)) (y := (nI 6))) hC dL_operates_275 (pc' := 278) rfl xw_m_L_18 xw_c_X7_user xw_ins_X7_user xw_sel_X7_user xw_ini_X7 xd_X7_user (xH_at.trans (xsh_7 kd_0)) rfl ⟨Nat.le_of_ble_eq_true rfl, Nat.le_of_ble_eq_true rfl⟩ rfl (Nat.le_of_ble_eq_true rfl) ⟨Nat.le_of_ble_eq_true rfl, Nat.le_of_ble_eq_true rfl⟩ ?_
                        rintro _ _ ⟨r263, rfl, hO264, rfl⟩
                        obtain rfl : r263 = (S m_sentBy i) := (hO264 _ (su_6 (by omega) (by omega))).trans (f6)
                        show xV _ _ _ _ _ _ _ _ _ _ _ _ _ _ _ _ _ (xH D b σ242) _ _ [.int (S m_sentBy i)]
                        refine xi_iload hC dL_operates_278 (pc' := 280) rfl rfl ?_
                        refine xi_icmpne (tgt := 352) hC dL_operates_280 (pc' := 283) rfl (by decide) (fun zc280 => ?_) (fun zc280 => ?_)
                        · exact absurd rfl zc280
                        · skip
                          refine xi_aload_n hC dL_operates_283 (pc' := 284) rfl rfl rfl ?_
                          refine xi_iload_n hC dL_operates_284 (pc' := 285) rfl rfl rfl ?_
                          refine xi_iconst (v := nI 4) hC dL_operates_285 (pc' := 286) rfl (by decide +kernel) ?_
                          refine xi_callV (As := [.int (nI i), .int (nI 4)]) (rest := []) (c_X7_user l D b (b + (k + 3)) (σ := σ242) (S := T243) (N := (N + 1)) (u := u) (w := w) hST243 hRσ242 (by omega) (x := (nI i)) (y := (nI 4))) hC dL_operates_286 (pc' := 289) rfl xw_m_L_18 xw_c_X7_user xw_ins_X7_user xw_sel_X7_user xw_ini_X7 xd_X7_user (xH_at.trans (xsh_7 kd_0)) rfl ⟨Nat.le_of_ble_eq_true rfl, Nat.le_of_ble_eq_true rfl⟩ rfl (Nat.le_of_ble_eq_true rfl) ⟨Nat.le_of_ble_eq_true rfl, Nat.le_of_ble_eq_true rfl⟩ ?_
                          rintro _ _ ⟨r265, rfl, hO266, rfl⟩
                          obtain rfl : r265 = (S m_doneOf i) := (hO266 _ (su_4 (by omega) (by omega))).trans (f4)
                          show xV _ _ _ _ _ _ _ _ _ _ _ _ _ _ _ _ _ (xH D b σ242) _ _ [.int (S m_doneOf i)]
                          refine xi_iload hC dL_operates_289 (pc' := 291) rfl rfl ?_
                          refine xi_icmpne (tgt := 352) hC dL_operates_291 (pc' := 294) rfl (by decide) (fun zc291 => ?_) (fun zc291 => ?_)
                          · exact absurd rfl zc291
                          · skip
                            refine xi_aload_n hC dL_operates_294 (pc' := 295) rfl rfl rfl ?_
                            refine xi_iconst (v := nI 4) hC dL_operates_295 (pc' := 296) rfl (by decide +kernel) ?_
                            refine xi_callV (As := [.int (nI 4)]) (rest := []) (c_X7_count l D b (b + (k + 3)) (σ := σ242) (S := T243) (N := (N + 1)) (u := u) (w := w) hST243 hRσ242 (by omega) (x := (nI 4))) hC dL_operates_296 (pc' := 299) rfl xw_m_L_40 xw_c_X7_count xw_ins_X7_count xw_sel_X7_count xw_ini_X7 xd_X7_count (xH_at.trans (xsh_7 kd_0)) rfl ⟨Nat.le_of_ble_eq_true rfl, Nat.le_of_ble_eq_true rfl⟩ rfl (Nat.le_of_ble_eq_true rfl) ⟨Nat.le_of_ble_eq_true rfl, Nat.le_of_ble_eq_true rfl⟩ ?_
                            rintro _ _ ⟨r267, rfl, hO268, rfl⟩
                            obtain rfl : r267 = (S oMod 2) := (hO268 _ (sc_4)).trans (fc)
                            show xV _ _ _ _ _ _ _ _ _ _ _ _ _ _ _ _ _ (xH D b σ242) _ _ [.int (S oMod 2)]
                            refine xi_iload hC dL_operates_299 (pc' := 301) rfl rfl ?_
                            refine xi_icmpne (tgt := 352) hC dL_operates_301 (pc' := 304) rfl (by decide) (fun zc301 => ?_) (fun zc301 => ?_)
                            · exact absurd rfl zc301
                            · skip
                              refine xi_aload_n hC dL_operates_304 (pc' := 305) rfl rfl rfl ?_
                              refine xi_iload hC dL_operates_305 (pc' := 307) rfl rfl ?_
                              refine xi_iconst (v := nI 1) hC dL_operates_307 (pc' := 308) rfl (by decide +kernel) ?_
                              refine xi_callV (As := [.int (nI v), .int (nI 1)]) (rest := []) (c_X7_view l D b (b + (k + 3)) (σ := σ242) (S := T243) (N := (N + 1)) (u := u) (w := w) hST243 hRσ242 (by omega) (x := (nI v)) (y := (nI 1))) hC dL_operates_308 (pc' := 311) rfl xw_m_L_43 xw_c_X7_view xw_ins_X7_view xw_sel_X7_view xw_ini_X7 xd_X7_view (xH_at.trans (xsh_7 kd_0)) rfl ⟨Nat.le_of_ble_eq_true rfl, Nat.le_of_ble_eq_true rfl⟩ rfl (Nat.le_of_ble_eq_true rfl) ⟨Nat.le_of_ble_eq_true rfl, Nat.le_of_ble_eq_true rfl⟩ ?_
                              rintro _ _ ⟨r269, rfl, hO270, rfl⟩
                              obtain rfl : r269 = (nI kp) := hO270 _ _ (sw_1 hv (by omega) fk)
                              show xV _ _ _ _ _ _ _ _ _ _ _ _ _ _ _ _ _ (xH D b σ242) _ _ [.int (nI kp)]
                              refine xi_iload hC dL_operates_311 (pc' := 313) rfl rfl ?_
                              refine xi_icmpne (tgt := 352) hC dL_operates_313 (pc' := 316) rfl (by decide) (fun zc313 => ?_) (fun zc313 => ?_)
                              · exact absurd rfl zc313
                              · skip
                                refine xi_iload hC dL_operates_316 (pc' := 318) rfl rfl ?_
                                refine xi_iconst (v := nI 2) hC dL_operates_318 (pc' := 319) rfl (by decide +kernel) ?_
                                refine xn_icmpne (tgt := 327) hC dL_operates_319 (pc' := 322) rfl (by decide) (by omega) (by omega) (fun zc319 => ?_) (fun zc319 => ?_)
                                · skip
                                  refine xi_iload hC dL_operates_327 (pc' := 329) rfl rfl ?_
                                  refine xi_iconst (v := nI 1) hC dL_operates_329 (pc' := 330) rfl (by decide +kernel) ?_
                                  refine xn_icmpne (tgt := 338) hC dL_operates_330 (pc' := 333) rfl (by decide) (by omega) (by omega) (fun zc330 => ?_) (fun zc330 => ?_)
                                  · skip
                                    refine xi_aload_n hC dL_operates_338 (pc' := 339) rfl rfl rfl ?_
                                    refine xi_iload_n hC dL_operates_339 (pc' := 340) rfl rfl rfl ?_
                                    refine xi_callV (As := [.int (nI i)]) (rest := []) (c_X7_lastRead l D b (b + (k + 3)) (σ := σ242) (S := T243) (N := (N + 1)) (u := u) (w := w) hST243 hRσ242 (by omega) (x := (nI i))) hC dL_operates_340 (pc' := 343) rfl xw_m_L_52 xw_c_X7_lastRead xw_ins_X7_lastRead xw_sel_X7_lastRead xw_ini_X7 xd_X7_lastRead (xH_at.trans (xsh_7 kd_0)) rfl ⟨Nat.le_of_ble_eq_true rfl, Nat.le_of_ble_eq_true rfl⟩ rfl (Nat.le_of_ble_eq_true rfl) ⟨Nat.le_of_ble_eq_true rfl, Nat.le_of_ble_eq_true rfl⟩ ?_
                                    rintro _ _ ⟨r271, rfl, hO272, rfl⟩
                                    obtain rfl : r271 = (lastV S i) := (hO272 _ (sl_1 (by omega) (by omega))).trans (fl)
                                    show xV _ _ _ _ _ _ _ _ _ _ _ _ _ _ _ _ _ (xH D b σ242) _ _ [.int (lastV S i)]
                                    refine xi_iload hC dL_operates_343 (pc' := 345) rfl rfl ?_
                                    refine xi_icmpne (tgt := 352) hC dL_operates_345 (pc' := 348) rfl (by decide) (fun zc345 => ?_) (fun zc345 => ?_)
                                    · exact absurd rfl zc345
                                    · skip
                                      refine xi_iconst (v := nI 1) hC dL_operates_348 (pc' := 349) rfl (by decide +kernel) ?_
                                      refine xi_goto (tgt := 353) hC dL_operates_349 (by decide) ?_
                                      refine xb_ireturn hC dL_operates_353 hr (by decide) rfl ?_
                                      exact ⟨σ242, T243, rfl, hST243, hRσ242, hJT243, rfl⟩
                                  · exact absurd zc330 (by decide)
                                · exact absurd zc319 (by decide)
                · exact absurd zc244 (by decide)
        · first | exact zc160.elim | exact absurd zc160 (by decide)
      · exact absurd zc136 (by decide)
    · skip
      refine xi_iconst (v := nI 1) hC dL_operates_86 (pc' := 87) rfl (by decide +kernel) ?_
      refine xi_goto (tgt := 91) hC dL_operates_87 (by decide) ?_
      refine xi_istore (lv' := [some (.ref (b + 0)), some (.int (nI i)), some (.int (nI u)), some (.int g), some (.ref (b + k)), some (.int (nI 0)), some (.int (nI 3)), some (.int (nI v)), some (.int (nI 3)), some (.int (S m_shownTo i)), some (.int (S m_sentBy i)), some (.int (S m_doneOf i)), some (.int (S oMod 2)), some (.int (nI kp)), some (.int (nI 1)), none, none, none, none, none, none, none]) hC dL_operates_91 (pc' := 93) rfl (by decide) rfl ?_
      refine xi_iload_n hC dL_operates_93 (pc' := 94) rfl rfl rfl ?_
      refine xi_iconst (v := nI 1) hC dL_operates_94 (pc' := 95) rfl (by decide +kernel) ?_
      refine xi_ishr hC dL_operates_95 (pc' := 96) rfl ?_
      refine xi_iload_n hC dL_operates_96 (pc' := 97) rfl rfl rfl ?_
      refine xi_callS (As := [.int (g >>> ((nI 1) &&& 31)), .int (nI u)]) (rest := []) (c_L_low l D b (b + (k + 3)) (h := (xH D b σ4)) (x := (g >>> ((nI 1) &&& 31))) (k := u) (by omega) (by omega)) hC dL_operates_97 (pc' := 100) rfl xw_m_L_46 xw_c_L_low xw_sta_L_low xw_ini_L xd_L_low ⟨Nat.le_of_ble_eq_true rfl, Nat.le_of_ble_eq_true rfl⟩ rfl (Nat.le_of_ble_eq_true rfl) ⟨Nat.le_of_ble_eq_true rfl, Nat.le_of_ble_eq_true rfl⟩ ?_
      rintro _ _ ⟨⟨j273, hj273, rfl⟩, rfl⟩
      show xV _ _ _ _ _ _ _ _ _ _ _ _ _ _ _ _ _ (xH D b σ4) _ _ [.int (nI j273)]
      refine xi_istore (lv' := [some (.ref (b + 0)), some (.int (nI i)), some (.int (nI u)), some (.int g), some (.ref (b + k)), some (.int (nI 0)), some (.int (nI 3)), some (.int (nI v)), some (.int (nI 3)), some (.int (S m_shownTo i)), some (.int (S m_sentBy i)), some (.int (S m_doneOf i)), some (.int (S oMod 2)), some (.int (nI kp)), some (.int (nI 1)), some (.int (nI j273)), none, none, none, none, none, none]) hC dL_operates_100 (pc' := 102) rfl (by decide) rfl ?_
      refine xi_iload_n hC dL_operates_102 (pc' := 103) rfl rfl rfl ?_
      refine xi_iconst (v := nI 4) hC dL_operates_103 (pc' := 104) rfl (by decide +kernel) ?_
      refine xi_ishr hC dL_operates_104 (pc' := 105) rfl ?_
      refine xi_sipush (v := nI 2001) hC dL_operates_105 (pc' := 108) rfl (by decide +kernel) ?_
      refine xi_callS (As := [.int (g >>> ((nI 4) &&& 31)), .int (nI 2001)]) (rest := []) (c_L_low l D b (b + (k + 3)) (h := (xH D b σ4)) (x := (g >>> ((nI 4) &&& 31))) (k := 2001) (by omega) (by omega)) hC dL_operates_108 (pc' := 111) rfl xw_m_L_46 xw_c_L_low xw_sta_L_low xw_ini_L xd_L_low ⟨Nat.le_of_ble_eq_true rfl, Nat.le_of_ble_eq_true rfl⟩ rfl (Nat.le_of_ble_eq_true rfl) ⟨Nat.le_of_ble_eq_true rfl, Nat.le_of_ble_eq_true rfl⟩ ?_
      rintro _ _ ⟨⟨j274, hj274, rfl⟩, rfl⟩
      show xV _ _ _ _ _ _ _ _ _ _ _ _ _ _ _ _ _ (xH D b σ4) _ _ [.int (nI j274)]
      refine xi_sipush (v := nI 1000) hC dL_operates_111 (pc' := 114) rfl (by decide +kernel) ?_
      refine xi_isub hC dL_operates_114 (pc' := 115) rfl ?_
      refine xi_istore (lv' := [some (.ref (b + 0)), some (.int (nI i)), some (.int (nI u)), some (.int g), some (.ref (b + k)), some (.int (nI 0)), some (.int (nI 3)), some (.int (nI v)), some (.int (nI 3)), some (.int (S m_shownTo i)), some (.int (S m_sentBy i)), some (.int (S m_doneOf i)), some (.int (S oMod 2)), some (.int (nI kp)), some (.int (nI 1)), some (.int (nI j273)), some (.int ((nI j274) - (nI 1000))), none, none, none, none, none]) hC dL_operates_115 (pc' := 117) rfl (by decide) rfl ?_
      refine xi_aload_n hC dL_operates_117 (pc' := 118) rfl rfl rfl ?_
      refine xi_iload hC dL_operates_118 (pc' := 120) rfl rfl ?_
      refine xi_iload hC dL_operates_120 (pc' := 122) rfl rfl ?_
      refine xi_callV (As := [.int (nI v), .int (nI j273)]) (rest := []) (c_X7_content l D b (b + (k + 3)) (σ := σ4) (S := S) (N := N) (u := u) (w := w) hS hRσ4 (by omega) (x := (nI v)) (y := (nI j273))) hC dL_operates_122 (pc' := 125) rfl xw_m_L_49 xw_c_X7_content xw_ins_X7_content xw_sel_X7_content xw_ini_X7 xd_X7_content (xH_at.trans (xsh_7 kd_0)) rfl ⟨Nat.le_of_ble_eq_true rfl, Nat.le_of_ble_eq_true rfl⟩ rfl (Nat.le_of_ble_eq_true rfl) ⟨Nat.le_of_ble_eq_true rfl, Nat.le_of_ble_eq_true rfl⟩ ?_
      rintro _ _ ⟨r275, rfl, hO276, rfl⟩
      obtain rfl : r275 = (cV S v j273) := hO276 _ (so_1 hv (by omega) (by omega) (by omega))
      show xV _ _ _ _ _ _ _ _ _ _ _ _ _ _ _ _ _ (xH D b σ4) _ _ [.int (cV S v j273)]
      refine xi_istore (lv' := [some (.ref (b + 0)), some (.int (nI i)), some (.int (nI u)), some (.int g), some (.ref (b + k)), some (.int (nI 0)), some (.int (nI 3)), some (.int (nI v)), some (.int (nI 3)), some (.int (S m_shownTo i)), some (.int (S m_sentBy i)), some (.int (S m_doneOf i)), some (.int (S oMod 2)), some (.int (nI kp)), some (.int (nI 1)), some (.int (nI j273)), some (.int ((nI j274) - (nI 1000))), some (.int (cV S v j273)), none, none, none, none]) hC dL_operates_125 (pc' := 127) rfl (by decide) rfl ?_
      refine xi_aload_n hC dL_operates_127 (pc' := 128) rfl rfl rfl ?_
      refine xi_iload_n hC dL_operates_128 (pc' := 129) rfl rfl rfl ?_
      refine xi_callV (As := [.int (nI i)]) (rest := []) (c_X7_lastRead l D b (b + (k + 3)) (σ := σ4) (S := S) (N := N) (u := u) (w := w) hS hRσ4 (by omega) (x := (nI i))) hC dL_operates_129 (pc' := 132) rfl xw_m_L_52 xw_c_X7_lastRead xw_ins_X7_lastRead xw_sel_X7_lastRead xw_ini_X7 xd_X7_lastRead (xH_at.trans (xsh_7 kd_0)) rfl ⟨Nat.le_of_ble_eq_true rfl, Nat.le_of_ble_eq_true rfl⟩ rfl (Nat.le_of_ble_eq_true rfl) ⟨Nat.le_of_ble_eq_true rfl, Nat.le_of_ble_eq_true rfl⟩ ?_
      rintro _ _ ⟨r277, rfl, hO278, rfl⟩
      obtain rfl : r277 = (lastV S i) := hO278 _ (sl_1 (by omega) (by omega))
      show xV _ _ _ _ _ _ _ _ _ _ _ _ _ _ _ _ _ (xH D b σ4) _ _ [.int (lastV S i)]
      refine xi_istore (lv' := [some (.ref (b + 0)), some (.int (nI i)), some (.int (nI u)), some (.int g), some (.ref (b + k)), some (.int (nI 0)), some (.int (nI 3)), some (.int (nI v)), some (.int (nI 3)), some (.int (S m_shownTo i)), some (.int (S m_sentBy i)), some (.int (S m_doneOf i)), some (.int (S oMod 2)), some (.int (nI kp)), some (.int (nI 1)), some (.int (nI j273)), some (.int ((nI j274) - (nI 1000))), some (.int (cV S v j273)), some (.int (lastV S i)), none, none, none]) hC dL_operates_132 (pc' := 134) rfl (by decide) rfl ?_
      refine xi_iload hC dL_operates_134 (pc' := 136) rfl rfl ?_
      refine xn_ifeq (tgt := 149) hC dL_operates_136 (pc' := 139) rfl (by decide) (by omega) (fun zc136 => ?_) (fun zc136 => ?_)
      · exact absurd zc136 (by decide)
      · skip
        refine xi_aload_n hC dL_operates_139 (pc' := 140) rfl rfl rfl ?_
        refine xi_iload_n hC dL_operates_140 (pc' := 141) rfl rfl rfl ?_
        refine xi_iload hC dL_operates_141 (pc' := 143) rfl rfl ?_
        refine xi_callV (As := [.int (nI i), .int ((nI j274) - (nI 1000))]) (rest := []) (c_X7_write l D b (b + (k + 3)) (σ := σ4) (S := S) (N := N) (u := u) (w := w) hS hRσ4 (by omega) (x := (nI i)) (y := ((nI j274) - (nI 1000)))) hC dL_operates_143 (pc' := 146) rfl xw_m_L_55 xw_c_X7_write xw_ins_X7_write xw_sel_X7_write xw_ini_X7 xd_X7_write (xH_at.trans (xsh_7 kd_0)) rfl ⟨Nat.le_of_ble_eq_true rfl, Nat.le_of_ble_eq_true rfl⟩ rfl (Nat.le_of_ble_eq_true rfl) ⟨Nat.le_of_ble_eq_true rfl, Nat.le_of_ble_eq_true rfl⟩ ?_
        rintro _ _ ⟨r279, σ280, rfl, hHσ280, hO282, rfl⟩
        obtain ⟨rT281, T281, hZT281⟩ := ex_write (S := S) (u := u) (w := w) (x := nI i) (y := ((nI j274) - (nI 1000))) hS.1
        obtain ⟨eT281, hRσ280⟩ := hO282 rT281 T281 hZT281
        have hST281 := SI_write hS hZT281
        have hJT281 := (JJ_write hS.1 hJ hZT281).up (Nat.le_succ N)
        have hP0 : S m_hasProof i = 0 := Classical.not_not.mp (fun q => al_no hA ((hJ i hi).2.1 q))
        obtain ⟨e2T281, f5, f1, f6, f4, fc, fk, f0, fl, fp2, fp1⟩ := w_al hZT281 hi (low_inR hj274) hA (by omega) hV hkp5 hkp hP0 hx (by decide)
        obtain rfl : r279 = nI 3 := eT281.trans e2T281
        have hlσ280_k : σ280 k 4096 = nI 8 := by rw [hHσ280 k (by omega)]; exact hlσ4
        show xV _ _ _ _ _ _ _ _ _ _ _ _ _ _ _ _ _ (xH D b σ280) _ _ [.int (nI 3)]
        refine xi_goto (tgt := 156) hC dL_operates_146 (by decide) ?_
        refine xi_istore (lv' := [some (.ref (b + 0)), some (.int (nI i)), some (.int (nI u)), some (.int g), some (.ref (b + k)), some (.int (nI 0)), some (.int (nI 3)), some (.int (nI v)), some (.int (nI 3)), some (.int (S m_shownTo i)), some (.int (S m_sentBy i)), some (.int (S m_doneOf i)), some (.int (S oMod 2)), some (.int (nI kp)), some (.int (nI 1)), some (.int (nI j273)), some (.int ((nI j274) - (nI 1000))), some (.int (cV S v j273)), some (.int (lastV S i)), some (.int (nI 3)), none, none]) hC dL_operates_156 (pc' := 158) rfl (by decide) rfl ?_
        refine xi_iload hC dL_operates_158 (pc' := 160) rfl rfl ?_
        refine xn_ifle (tgt := 207) hC dL_operates_160 (pc' := 163) rfl (by decide) (by omega) (fun zc160 => ?_) (fun zc160 => ?_)
        · skip
          refine xi_iload hC dL_operates_207 (pc' := 209) rfl rfl ?_
          refine xi_iload hC dL_operates_209 (pc' := 211) rfl rfl ?_
          refine xn_icmpne (tgt := 247) hC dL_operates_211 (pc' := 214) rfl (by decide) (by omega) (by omega) (fun zc211 => ?_) (fun zc211 => ?_)
          · exact absurd zc211 (by decide)
          · skip
            refine xi_iload hC dL_operates_214 (pc' := 216) rfl rfl ?_
            refine xi_iload hC dL_operates_216 (pc' := 218) rfl rfl ?_
            refine xn_icmpne (tgt := 247) hC dL_operates_218 (pc' := 221) rfl (by decide) (by omega) (by omega) (fun zc218 => ?_) (fun zc218 => ?_)
            · exact absurd zc218 (by decide)
            · skip
              refine xi_aload_n hC dL_operates_221 (pc' := 222) rfl rfl rfl ?_
              refine xi_iload_n hC dL_operates_222 (pc' := 223) rfl rfl rfl ?_
              refine xi_iconst (v := nI 5) hC dL_operates_223 (pc' := 224) rfl (by decide +kernel) ?_
              refine xi_callV (As := [.int (nI i), .int (nI 5)]) (rest := []) (c_X7_user l D b (b + (k + 3)) (σ := σ280) (S := T281) (N := (N + 1)) (u := u) (w := w) hST281 hRσ280 (by omega) (x := (nI i)) (y := (nI 5))) hC dL_operates_224 (pc' := 227) rfl xw_m_L_18 xw_c_X7_user xw_ins_X7_user xw_sel_X7_user xw_ini_X7 xd_X7_user (xH_at.trans (xsh_7 kd_0)) rfl ⟨Nat.le_of_ble_eq_true rfl, Nat.le_of_ble_eq_true rfl⟩ rfl (Nat.le_of_ble_eq_true rfl) ⟨Nat.le_of_ble_eq_true rfl, Nat.le_of_ble_eq_true rfl⟩ ?_
              rintro _ _ ⟨r283, rfl, hO284, rfl⟩
              obtain rfl : r283 = ((S m_shownTo i) + (nI (u * u))) := (hO284 _ (su_5 (by omega) (by omega))).trans (f5)
              show xV _ _ _ _ _ _ _ _ _ _ _ _ _ _ _ _ _ (xH D b σ280) _ _ [.int ((S m_shownTo i) + (nI (u * u)))]
              refine xi_iload hC dL_operates_227 (pc' := 229) rfl rfl ?_
              refine xi_iload_n hC dL_operates_229 (pc' := 230) rfl rfl rfl ?_
              refine xi_iload_n hC dL_operates_230 (pc' := 231) rfl rfl rfl ?_
              refine xn_imul hC dL_operates_231 (pc' := 232) rfl ?_
              refine xi_iadd hC dL_operates_232 (pc' := 233) rfl ?_
              refine xi_icmpne (tgt := 247) hC dL_operates_233 (pc' := 236) rfl (by decide) (fun zc233 => ?_) (fun zc233 => ?_)
              · exact absurd rfl zc233
              · skip
                refine xi_aload_n hC dL_operates_236 (pc' := 237) rfl rfl rfl ?_
                refine xi_iload_n hC dL_operates_237 (pc' := 238) rfl rfl rfl ?_
                refine xi_iconst (v := nI 1) hC dL_operates_238 (pc' := 239) rfl (by decide +kernel) ?_
                refine xi_callV (As := [.int (nI i), .int (nI 1)]) (rest := []) (c_X7_user l D b (b + (k + 3)) (σ := σ280) (S := T281) (N := (N + 1)) (u := u) (w := w) hST281 hRσ280 (by omega) (x := (nI i)) (y := (nI 1))) hC dL_operates_239 (pc' := 242) rfl xw_m_L_18 xw_c_X7_user xw_ins_X7_user xw_sel_X7_user xw_ini_X7 xd_X7_user (xH_at.trans (xsh_7 kd_0)) rfl ⟨Nat.le_of_ble_eq_true rfl, Nat.le_of_ble_eq_true rfl⟩ rfl (Nat.le_of_ble_eq_true rfl) ⟨Nat.le_of_ble_eq_true rfl, Nat.le_of_ble_eq_true rfl⟩ ?_
                rintro _ _ ⟨r285, rfl, hO286, rfl⟩
                obtain rfl : r285 = (nI 3) := hO286 _ (su_1 (by omega) (by omega) f1)
                show xV _ _ _ _ _ _ _ _ _ _ _ _ _ _ _ _ _ (xH D b σ280) _ _ [.int (nI 3)]
                refine xi_iload hC dL_operates_242 (pc' := 244) rfl rfl ?_
                refine xn_icmpeq (tgt := 249) hC dL_operates_244 (pc' := 247) rfl (by decide) (by omega) (by omega) (fun zc244 => ?_) (fun zc244 => ?_)
                · skip
                  refine xi_iload hC dL_operates_249 (pc' := 251) rfl rfl ?_
                  refine xn_ifle (tgt := 354) hC dL_operates_251 (pc' := 254) rfl (by decide) (by omega) (fun zc251 => ?_) (fun zc251 => ?_)
                  · first | exact zc251.elim | exact absurd zc251 (by decide)
                  · skip
                    by_cases hp3 : T281 m_hasProof i = 0
                    · skip
                      refine xi_aload_n hC dL_operates_254 (pc' := 255) rfl rfl rfl ?_
                      refine xi_iload_n hC dL_operates_255 (pc' := 256) rfl rfl rfl ?_
                      refine xi_iconst (v := nI 2) hC dL_operates_256 (pc' := 257) rfl (by decide +kernel) ?_
                      refine xi_callV (As := [.int (nI i), .int (nI 2)]) (rest := []) (c_X7_user l D b (b + (k + 3)) (σ := σ280) (S := T281) (N := (N + 1)) (u := u) (w := w) hST281 hRσ280 (by omega) (x := (nI i)) (y := (nI 2))) hC dL_operates_257 (pc' := 260) rfl xw_m_L_18 xw_c_X7_user xw_ins_X7_user xw_sel_X7_user xw_ini_X7 xd_X7_user (xH_at.trans (xsh_7 kd_0)) rfl ⟨Nat.le_of_ble_eq_true rfl, Nat.le_of_ble_eq_true rfl⟩ rfl (Nat.le_of_ble_eq_true rfl) ⟨Nat.le_of_ble_eq_true rfl, Nat.le_of_ble_eq_true rfl⟩ ?_
                      rintro _ _ ⟨r287, rfl, hO288, rfl⟩
                      obtain rfl : r287 = (nI 0) := hO288 _ (su_2f (by omega) (by omega) hp3)
                      show xV _ _ _ _ _ _ _ _ _ _ _ _ _ _ _ _ _ (xH D b σ280) _ _ [.int (nI 0)]
                      refine xi_iconst (v := nI 1) hC dL_operates_260 (pc' := 261) rfl (by decide +kernel) ?_
                      refine xn_icmpne (tgt := 268) hC dL_operates_261 (pc' := 264) rfl (by decide) (by omega) (by omega) (fun zc261 => ?_) (fun zc261 => ?_)
                      · skip
                        refine xi_iconst (v := nI 0) hC dL_operates_268 (pc' := 269) rfl (by decide +kernel) ?_
                        refine xi_istore (lv' := [some (.ref (b + 0)), some (.int (nI i)), some (.int (nI u)), some (.int g), some (.ref (b + k)), some (.int (nI 0)), some (.int (nI 3)), some (.int (nI v)), some (.int (nI 3)), some (.int (S m_shownTo i)), some (.int (S m_sentBy i)), some (.int (S m_doneOf i)), some (.int (S oMod 2)), some (.int (nI kp)), some (.int (nI 1)), some (.int (nI j273)), some (.int ((nI j274) - (nI 1000))), some (.int (cV S v j273)), some (.int (lastV S i)), some (.int (nI 3)), some (.int (nI 0)), none]) hC dL_operates_269 (pc' := 271) rfl (by decide) rfl ?_
                        refine xi_aload_n hC dL_operates_271 (pc' := 272) rfl rfl rfl ?_
                        refine xi_iload_n hC dL_operates_272 (pc' := 273) rfl rfl rfl ?_
                        refine xi_bipush (v := nI 6) hC dL_operates_273 (pc' := 275) rfl (by decide +kernel) ?_
                        refine xi_callV (As := [.int (nI i), .int (nI 6)]) (rest := []) (c_X7_user l D b (b + (k + 3)) (σ := σ280) (S := T281) (N := (N + 1)) (u := u) (w := w) hST281 hRσ280 (by omega) (x := (nI i)) (y := (nI 6))) hC dL_operates_275 (pc' := 278) rfl xw_m_L_18 xw_c_X7_user xw_ins_X7_user xw_sel_X7_user xw_ini_X7 xd_X7_user (xH_at.trans (xsh_7 kd_0)) rfl ⟨Nat.le_of_ble_eq_true rfl, Nat.le_of_ble_eq_true rfl⟩ rfl (Nat.le_of_ble_eq_true rfl) ⟨Nat.le_of_ble_eq_true rfl, Nat.le_of_ble_eq_true rfl⟩ ?_
                        rintro _ _ ⟨r289, rfl, hO290, rfl⟩
                        obtain rfl : r289 = (S m_sentBy i) := (hO290 _ (su_6 (by omega) (by omega))).trans (f6)
                        show xV _ _ _ _ _ _ _ _ _ _ _ _ _ _ _ _ _ (xH D b σ280) _ _ [.int (S m_sentBy i)]
                        refine xi_iload hC dL_operates_278 (pc' := 280) rfl rfl ?_
                        refine xi_icmpne (tgt := 352) hC dL_operates_280 (pc' := 283) rfl (by decide) (fun zc280 => ?_) (fun zc280 => ?_)
                        · exact absurd rfl zc280
                        · skip
                          refine xi_aload_n hC dL_operates_283 (pc' := 284) rfl rfl rfl ?_
                          refine xi_iload_n hC dL_operates_284 (pc' := 285) rfl rfl rfl ?_
                          refine xi_iconst (v := nI 4) hC dL_operates_285 (pc' := 286) rfl (by decide +kernel) ?_
                          refine xi_callV (As := [.int (nI i), .int (nI 4)]) (rest := []) (c_X7_user l D b (b + (k + 3)) (σ := σ280) (S := T281) (N := (N + 1)) (u := u) (w := w) hST281 hRσ280 (by omega) (x := (nI i)) (y := (nI 4))) hC dL_operates_286 (pc' := 289) rfl xw_m_L_18 xw_c_X7_user xw_ins_X7_user xw_sel_X7_user xw_ini_X7 xd_X7_user (xH_at.trans (xsh_7 kd_0)) rfl ⟨Nat.le_of_ble_eq_true rfl, Nat.le_of_ble_eq_true rfl⟩ rfl (Nat.le_of_ble_eq_true rfl) ⟨Nat.le_of_ble_eq_true rfl, Nat.le_of_ble_eq_true rfl⟩ ?_
                          rintro _ _ ⟨r291, rfl, hO292, rfl⟩
                          obtain rfl : r291 = (S m_doneOf i) := (hO292 _ (su_4 (by omega) (by omega))).trans (f4)
                          show xV _ _ _ _ _ _ _ _ _ _ _ _ _ _ _ _ _ (xH D b σ280) _ _ [.int (S m_doneOf i)]
                          refine xi_iload hC dL_operates_289 (pc' := 291) rfl rfl ?_
                          refine xi_icmpne (tgt := 352) hC dL_operates_291 (pc' := 294) rfl (by decide) (fun zc291 => ?_) (fun zc291 => ?_)
                          · exact absurd rfl zc291
                          · skip
                            refine xi_aload_n hC dL_operates_294 (pc' := 295) rfl rfl rfl ?_
                            refine xi_iconst (v := nI 4) hC dL_operates_295 (pc' := 296) rfl (by decide +kernel) ?_
                            refine xi_callV (As := [.int (nI 4)]) (rest := []) (c_X7_count l D b (b + (k + 3)) (σ := σ280) (S := T281) (N := (N + 1)) (u := u) (w := w) hST281 hRσ280 (by omega) (x := (nI 4))) hC dL_operates_296 (pc' := 299) rfl xw_m_L_40 xw_c_X7_count xw_ins_X7_count xw_sel_X7_count xw_ini_X7 xd_X7_count (xH_at.trans (xsh_7 kd_0)) rfl ⟨Nat.le_of_ble_eq_true rfl, Nat.le_of_ble_eq_true rfl⟩ rfl (Nat.le_of_ble_eq_true rfl) ⟨Nat.le_of_ble_eq_true rfl, Nat.le_of_ble_eq_true rfl⟩ ?_
                            rintro _ _ ⟨r293, rfl, hO294, rfl⟩
                            obtain rfl : r293 = (S oMod 2) := (hO294 _ (sc_4)).trans (fc)
                            show xV _ _ _ _ _ _ _ _ _ _ _ _ _ _ _ _ _ (xH D b σ280) _ _ [.int (S oMod 2)]
                            refine xi_iload hC dL_operates_299 (pc' := 301) rfl rfl ?_
                            refine xi_icmpne (tgt := 352) hC dL_operates_301 (pc' := 304) rfl (by decide) (fun zc301 => ?_) (fun zc301 => ?_)
                            · exact absurd rfl zc301
                            · skip
                              refine xi_aload_n hC dL_operates_304 (pc' := 305) rfl rfl rfl ?_
                              refine xi_iload hC dL_operates_305 (pc' := 307) rfl rfl ?_
                              refine xi_iconst (v := nI 1) hC dL_operates_307 (pc' := 308) rfl (by decide +kernel) ?_
                              refine xi_callV (As := [.int (nI v), .int (nI 1)]) (rest := []) (c_X7_view l D b (b + (k + 3)) (σ := σ280) (S := T281) (N := (N + 1)) (u := u) (w := w) hST281 hRσ280 (by omega) (x := (nI v)) (y := (nI 1))) hC dL_operates_308 (pc' := 311) rfl xw_m_L_43 xw_c_X7_view xw_ins_X7_view xw_sel_X7_view xw_ini_X7 xd_X7_view (xH_at.trans (xsh_7 kd_0)) rfl ⟨Nat.le_of_ble_eq_true rfl, Nat.le_of_ble_eq_true rfl⟩ rfl (Nat.le_of_ble_eq_true rfl) ⟨Nat.le_of_ble_eq_true rfl, Nat.le_of_ble_eq_true rfl⟩ ?_
                              rintro _ _ ⟨r295, rfl, hO296, rfl⟩
                              obtain rfl : r295 = (nI kp) := hO296 _ _ (sw_1 hv (by omega) fk)
                              show xV _ _ _ _ _ _ _ _ _ _ _ _ _ _ _ _ _ (xH D b σ280) _ _ [.int (nI kp)]
                              refine xi_iload hC dL_operates_311 (pc' := 313) rfl rfl ?_
                              refine xi_icmpne (tgt := 352) hC dL_operates_313 (pc' := 316) rfl (by decide) (fun zc313 => ?_) (fun zc313 => ?_)
                              · exact absurd rfl zc313
                              · skip
                                refine xi_iload hC dL_operates_316 (pc' := 318) rfl rfl ?_
                                refine xi_iconst (v := nI 2) hC dL_operates_318 (pc' := 319) rfl (by decide +kernel) ?_
                                refine xn_icmpne (tgt := 327) hC dL_operates_319 (pc' := 322) rfl (by decide) (by omega) (by omega) (fun zc319 => ?_) (fun zc319 => ?_)
                                · skip
                                  refine xi_iload hC dL_operates_327 (pc' := 329) rfl rfl ?_
                                  refine xi_iconst (v := nI 1) hC dL_operates_329 (pc' := 330) rfl (by decide +kernel) ?_
                                  refine xn_icmpne (tgt := 338) hC dL_operates_330 (pc' := 333) rfl (by decide) (by omega) (by omega) (fun zc330 => ?_) (fun zc330 => ?_)
                                  · skip
                                    refine xi_aload_n hC dL_operates_338 (pc' := 339) rfl rfl rfl ?_
                                    refine xi_iload_n hC dL_operates_339 (pc' := 340) rfl rfl rfl ?_
                                    refine xi_callV (As := [.int (nI i)]) (rest := []) (c_X7_lastRead l D b (b + (k + 3)) (σ := σ280) (S := T281) (N := (N + 1)) (u := u) (w := w) hST281 hRσ280 (by omega) (x := (nI i))) hC dL_operates_340 (pc' := 343) rfl xw_m_L_52 xw_c_X7_lastRead xw_ins_X7_lastRead xw_sel_X7_lastRead xw_ini_X7 xd_X7_lastRead (xH_at.trans (xsh_7 kd_0)) rfl ⟨Nat.le_of_ble_eq_true rfl, Nat.le_of_ble_eq_true rfl⟩ rfl (Nat.le_of_ble_eq_true rfl) ⟨Nat.le_of_ble_eq_true rfl, Nat.le_of_ble_eq_true rfl⟩ ?_
                                    rintro _ _ ⟨r297, rfl, hO298, rfl⟩
                                    obtain rfl : r297 = (lastV S i) := (hO298 _ (sl_1 (by omega) (by omega))).trans (fl)
                                    show xV _ _ _ _ _ _ _ _ _ _ _ _ _ _ _ _ _ (xH D b σ280) _ _ [.int (lastV S i)]
                                    refine xi_iload hC dL_operates_343 (pc' := 345) rfl rfl ?_
                                    refine xi_icmpne (tgt := 352) hC dL_operates_345 (pc' := 348) rfl (by decide) (fun zc345 => ?_) (fun zc345 => ?_)
                                    · exact absurd rfl zc345
                                    · skip
                                      refine xi_iconst (v := nI 1) hC dL_operates_348 (pc' := 349) rfl (by decide +kernel) ?_
                                      refine xi_goto (tgt := 353) hC dL_operates_349 (by decide) ?_
                                      refine xb_ireturn hC dL_operates_353 hr (by decide) rfl ?_
                                      exact ⟨σ280, T281, rfl, hST281, hRσ280, hJT281, rfl⟩
                                  · exact absurd zc330 (by decide)
                                · exact absurd zc319 (by decide)
                      · exact absurd zc261 (by decide)
                    · skip
                      refine xi_aload_n hC dL_operates_254 (pc' := 255) rfl rfl rfl ?_
                      refine xi_iload_n hC dL_operates_255 (pc' := 256) rfl rfl rfl ?_
                      refine xi_iconst (v := nI 2) hC dL_operates_256 (pc' := 257) rfl (by decide +kernel) ?_
                      refine xi_callV (As := [.int (nI i), .int (nI 2)]) (rest := []) (c_X7_user l D b (b + (k + 3)) (σ := σ280) (S := T281) (N := (N + 1)) (u := u) (w := w) hST281 hRσ280 (by omega) (x := (nI i)) (y := (nI 2))) hC dL_operates_257 (pc' := 260) rfl xw_m_L_18 xw_c_X7_user xw_ins_X7_user xw_sel_X7_user xw_ini_X7 xd_X7_user (xH_at.trans (xsh_7 kd_0)) rfl ⟨Nat.le_of_ble_eq_true rfl, Nat.le_of_ble_eq_true rfl⟩ rfl (Nat.le_of_ble_eq_true rfl) ⟨Nat.le_of_ble_eq_true rfl, Nat.le_of_ble_eq_true rfl⟩ ?_
                      rintro _ _ ⟨r299, rfl, hO300, rfl⟩
                      obtain rfl : r299 = (nI 1) := hO300 _ (su_2t (by omega) (by omega) hp3)
                      show xV _ _ _ _ _ _ _ _ _ _ _ _ _ _ _ _ _ (xH D b σ280) _ _ [.int (nI 1)]
                      refine xi_iconst (v := nI 1) hC dL_operates_260 (pc' := 261) rfl (by decide +kernel) ?_
                      refine xn_icmpne (tgt := 268) hC dL_operates_261 (pc' := 264) rfl (by decide) (by omega) (by omega) (fun zc261 => ?_) (fun zc261 => ?_)
                      · exact absurd zc261 (by decide)
                      · skip
                        refine xi_iconst (v := nI 1) hC dL_operates_264 (pc' := 265) rfl (by decide +kernel) ?_
                        refine xi_goto (tgt := 269) hC dL_operates_265 (by decide) ?_
                        refine xi_istore (lv' := [some (.ref (b + 0)), some (.int (nI i)), some (.int (nI u)), some (.int g), some (.ref (b + k)), some (.int (nI 0)), some (.int (nI 3)), some (.int (nI v)), some (.int (nI 3)), some (.int (S m_shownTo i)), some (.int (S m_sentBy i)), some (.int (S m_doneOf i)), some (.int (S oMod 2)), some (.int (nI kp)), some (.int (nI 1)), some (.int (nI j273)), some (.int ((nI j274) - (nI 1000))), some (.int (cV S v j273)), some (.int (lastV S i)), some (.int (nI 3)), some (.int (nI 1)), none]) hC dL_operates_269 (pc' := 271) rfl (by decide) rfl ?_
                        refine xi_aload_n hC dL_operates_271 (pc' := 272) rfl rfl rfl ?_
                        refine xi_iload_n hC dL_operates_272 (pc' := 273) rfl rfl rfl ?_
                        refine xi_bipush (v := nI 6) hC dL_operates_273 (pc' := 275) rfl (by decide +kernel) ?_
                        refine xi_callV (As := [.int (nI i), .int (nI 6)]) (rest := []) (c_X7_user l D b (b + (k + 3)) (σ := σ280) (S := T281) (N := (N + 1)) (u := u) (w := w) hST281 hRσ280 (by omega) (x := (nI i)) (y := (nI 6))) hC dL_operates_275 (pc' := 278) rfl xw_m_L_18 xw_c_X7_user xw_ins_X7_user xw_sel_X7_user xw_ini_X7 xd_X7_user (xH_at.trans (xsh_7 kd_0)) rfl ⟨Nat.le_of_ble_eq_true rfl, Nat.le_of_ble_eq_true rfl⟩ rfl (Nat.le_of_ble_eq_true rfl) ⟨Nat.le_of_ble_eq_true rfl, Nat.le_of_ble_eq_true rfl⟩ ?_
                        rintro _ _ ⟨r301, rfl, hO302, rfl⟩
                        obtain rfl : r301 = (S m_sentBy i) := (hO302 _ (su_6 (by omega) (by omega))).trans (f6)
                        show xV _ _ _ _ _ _ _ _ _ _ _ _ _ _ _ _ _ (xH D b σ280) _ _ [.int (S m_sentBy i)]
                        refine xi_iload hC dL_operates_278 (pc' := 280) rfl rfl ?_
                        refine xi_icmpne (tgt := 352) hC dL_operates_280 (pc' := 283) rfl (by decide) (fun zc280 => ?_) (fun zc280 => ?_)
                        · exact absurd rfl zc280
                        · skip
                          refine xi_aload_n hC dL_operates_283 (pc' := 284) rfl rfl rfl ?_
                          refine xi_iload_n hC dL_operates_284 (pc' := 285) rfl rfl rfl ?_
                          refine xi_iconst (v := nI 4) hC dL_operates_285 (pc' := 286) rfl (by decide +kernel) ?_
                          refine xi_callV (As := [.int (nI i), .int (nI 4)]) (rest := []) (c_X7_user l D b (b + (k + 3)) (σ := σ280) (S := T281) (N := (N + 1)) (u := u) (w := w) hST281 hRσ280 (by omega) (x := (nI i)) (y := (nI 4))) hC dL_operates_286 (pc' := 289) rfl xw_m_L_18 xw_c_X7_user xw_ins_X7_user xw_sel_X7_user xw_ini_X7 xd_X7_user (xH_at.trans (xsh_7 kd_0)) rfl ⟨Nat.le_of_ble_eq_true rfl, Nat.le_of_ble_eq_true rfl⟩ rfl (Nat.le_of_ble_eq_true rfl) ⟨Nat.le_of_ble_eq_true rfl, Nat.le_of_ble_eq_true rfl⟩ ?_
                          rintro _ _ ⟨r303, rfl, hO304, rfl⟩
                          obtain rfl : r303 = (S m_doneOf i) := (hO304 _ (su_4 (by omega) (by omega))).trans (f4)
                          show xV _ _ _ _ _ _ _ _ _ _ _ _ _ _ _ _ _ (xH D b σ280) _ _ [.int (S m_doneOf i)]
                          refine xi_iload hC dL_operates_289 (pc' := 291) rfl rfl ?_
                          refine xi_icmpne (tgt := 352) hC dL_operates_291 (pc' := 294) rfl (by decide) (fun zc291 => ?_) (fun zc291 => ?_)
                          · exact absurd rfl zc291
                          · skip
                            refine xi_aload_n hC dL_operates_294 (pc' := 295) rfl rfl rfl ?_
                            refine xi_iconst (v := nI 4) hC dL_operates_295 (pc' := 296) rfl (by decide +kernel) ?_
                            refine xi_callV (As := [.int (nI 4)]) (rest := []) (c_X7_count l D b (b + (k + 3)) (σ := σ280) (S := T281) (N := (N + 1)) (u := u) (w := w) hST281 hRσ280 (by omega) (x := (nI 4))) hC dL_operates_296 (pc' := 299) rfl xw_m_L_40 xw_c_X7_count xw_ins_X7_count xw_sel_X7_count xw_ini_X7 xd_X7_count (xH_at.trans (xsh_7 kd_0)) rfl ⟨Nat.le_of_ble_eq_true rfl, Nat.le_of_ble_eq_true rfl⟩ rfl (Nat.le_of_ble_eq_true rfl) ⟨Nat.le_of_ble_eq_true rfl, Nat.le_of_ble_eq_true rfl⟩ ?_
                            rintro _ _ ⟨r305, rfl, hO306, rfl⟩
                            obtain rfl : r305 = (S oMod 2) := (hO306 _ (sc_4)).trans (fc)
                            show xV _ _ _ _ _ _ _ _ _ _ _ _ _ _ _ _ _ (xH D b σ280) _ _ [.int (S oMod 2)]
                            refine xi_iload hC dL_operates_299 (pc' := 301) rfl rfl ?_
                            refine xi_icmpne (tgt := 352) hC dL_operates_301 (pc' := 304) rfl (by decide) (fun zc301 => ?_) (fun zc301 => ?_)
                            · exact absurd rfl zc301
                            · skip
                              refine xi_aload_n hC dL_operates_304 (pc' := 305) rfl rfl rfl ?_
                              refine xi_iload hC dL_operates_305 (pc' := 307) rfl rfl ?_
                              refine xi_iconst (v := nI 1) hC dL_operates_307 (pc' := 308) rfl (by decide +kernel) ?_
                              refine xi_callV (As := [.int (nI v), .int (nI 1)]) (rest := []) (c_X7_view l D b (b + (k + 3)) (σ := σ280) (S := T281) (N := (N + 1)) (u := u) (w := w) hST281 hRσ280 (by omega) (x := (nI v)) (y := (nI 1))) hC dL_operates_308 (pc' := 311) rfl xw_m_L_43 xw_c_X7_view xw_ins_X7_view xw_sel_X7_view xw_ini_X7 xd_X7_view (xH_at.trans (xsh_7 kd_0)) rfl ⟨Nat.le_of_ble_eq_true rfl, Nat.le_of_ble_eq_true rfl⟩ rfl (Nat.le_of_ble_eq_true rfl) ⟨Nat.le_of_ble_eq_true rfl, Nat.le_of_ble_eq_true rfl⟩ ?_
                              rintro _ _ ⟨r307, rfl, hO308, rfl⟩
                              obtain rfl : r307 = (nI kp) := hO308 _ _ (sw_1 hv (by omega) fk)
                              show xV _ _ _ _ _ _ _ _ _ _ _ _ _ _ _ _ _ (xH D b σ280) _ _ [.int (nI kp)]
                              refine xi_iload hC dL_operates_311 (pc' := 313) rfl rfl ?_
                              refine xi_icmpne (tgt := 352) hC dL_operates_313 (pc' := 316) rfl (by decide) (fun zc313 => ?_) (fun zc313 => ?_)
                              · exact absurd rfl zc313
                              · skip
                                refine xi_iload hC dL_operates_316 (pc' := 318) rfl rfl ?_
                                refine xi_iconst (v := nI 2) hC dL_operates_318 (pc' := 319) rfl (by decide +kernel) ?_
                                refine xn_icmpne (tgt := 327) hC dL_operates_319 (pc' := 322) rfl (by decide) (by omega) (by omega) (fun zc319 => ?_) (fun zc319 => ?_)
                                · skip
                                  refine xi_iload hC dL_operates_327 (pc' := 329) rfl rfl ?_
                                  refine xi_iconst (v := nI 1) hC dL_operates_329 (pc' := 330) rfl (by decide +kernel) ?_
                                  refine xn_icmpne (tgt := 338) hC dL_operates_330 (pc' := 333) rfl (by decide) (by omega) (by omega) (fun zc330 => ?_) (fun zc330 => ?_)
                                  · skip
                                    refine xi_aload_n hC dL_operates_338 (pc' := 339) rfl rfl rfl ?_
                                    refine xi_iload_n hC dL_operates_339 (pc' := 340) rfl rfl rfl ?_
                                    refine xi_callV (As := [.int (nI i)]) (rest := []) (c_X7_lastRead l D b (b + (k + 3)) (σ := σ280) (S := T281) (N := (N + 1)) (u := u) (w := w) hST281 hRσ280 (by omega) (x := (nI i))) hC dL_operates_340 (pc' := 343) rfl xw_m_L_52 xw_c_X7_lastRead xw_ins_X7_lastRead xw_sel_X7_lastRead xw_ini_X7 xd_X7_lastRead (xH_at.trans (xsh_7 kd_0)) rfl ⟨Nat.le_of_ble_eq_true rfl, Nat.le_of_ble_eq_true rfl⟩ rfl (Nat.le_of_ble_eq_true rfl) ⟨Nat.le_of_ble_eq_true rfl, Nat.le_of_ble_eq_true rfl⟩ ?_
                                    rintro _ _ ⟨r309, rfl, hO310, rfl⟩
                                    obtain rfl : r309 = (lastV S i) := (hO310 _ (sl_1 (by omega) (by omega))).trans (fl)
                                    show xV _ _ _ _ _ _ _ _ _ _ _ _ _ _ _ _ _ (xH D b σ280) _ _ [.int (lastV S i)]
                                    refine xi_iload hC dL_operates_343 (pc' := 345) rfl rfl ?_
                                    refine xi_icmpne (tgt := 352) hC dL_operates_345 (pc' := 348) rfl (by decide) (fun zc345 => ?_) (fun zc345 => ?_)
                                    · exact absurd rfl zc345
                                    · skip
                                      refine xi_iconst (v := nI 1) hC dL_operates_348 (pc' := 349) rfl (by decide +kernel) ?_
                                      refine xi_goto (tgt := 353) hC dL_operates_349 (by decide) ?_
                                      refine xb_ireturn hC dL_operates_353 hr (by decide) rfl ?_
                                      exact ⟨σ280, T281, rfl, hST281, hRσ280, hJT281, rfl⟩
                                  · exact absurd zc330 (by decide)
                                · exact absurd zc319 (by decide)
                · exact absurd zc244 (by decide)
        · first | exact zc160.elim | exact absurd zc160 (by decide)
  · skip
    refine xi_aload_n hC dL_operates_32 (pc' := 33) rfl rfl rfl ?_
    refine xi_iload_n hC dL_operates_33 (pc' := 34) rfl rfl rfl ?_
    refine xi_callV (As := [.int (nI i)]) (rest := []) (c_X7_check l D b (b + (k + 3)) (σ := σ4) (S := S) (N := N) (u := u) (w := w) hS hRσ4 (by omega) (x := (nI i))) hC dL_operates_34 (pc' := 37) rfl xw_m_L_36 xw_c_X7_check xw_ins_X7_check xw_sel_X7_check xw_ini_X7 xd_X7_check (xH_at.trans (xsh_7 kd_0)) rfl ⟨Nat.le_of_ble_eq_true rfl, Nat.le_of_ble_eq_true rfl⟩ rfl (Nat.le_of_ble_eq_true rfl) ⟨Nat.le_of_ble_eq_true rfl, Nat.le_of_ble_eq_true rfl⟩ ?_
    rintro _ _ ⟨r311, rfl, hO312, rfl⟩
    obtain rfl : r311 = (-10003) := hO312 _ _ (sk_1 (by omega) (by omega) hA h0 ha5)
    show xV _ _ _ _ _ _ _ _ _ _ _ _ _ _ _ _ _ (xH D b σ4) _ _ [.int (-10003)]
    refine xi_istore (lv' := [some (.ref (b + 0)), some (.int (nI i)), some (.int (nI u)), some (.int g), some (.ref (b + k)), some (.int (nI a)), some (.int (nI x)), some (.int (nI v)), some (.int (-10003)), none, none, none, none, none, none, none, none, none, none, none, none, none]) hC dL_operates_37 (pc' := 39) rfl (by decide) rfl ?_
    refine xi_aload_n hC dL_operates_39 (pc' := 40) rfl rfl rfl ?_
    refine xi_iload_n hC dL_operates_40 (pc' := 41) rfl rfl rfl ?_
    refine xi_iconst (v := nI 5) hC dL_operates_41 (pc' := 42) rfl (by decide +kernel) ?_
    refine xi_callV (As := [.int (nI i), .int (nI 5)]) (rest := []) (c_X7_user l D b (b + (k + 3)) (σ := σ4) (S := S) (N := N) (u := u) (w := w) hS hRσ4 (by omega) (x := (nI i)) (y := (nI 5))) hC dL_operates_42 (pc' := 45) rfl xw_m_L_18 xw_c_X7_user xw_ins_X7_user xw_sel_X7_user xw_ini_X7 xd_X7_user (xH_at.trans (xsh_7 kd_0)) rfl ⟨Nat.le_of_ble_eq_true rfl, Nat.le_of_ble_eq_true rfl⟩ rfl (Nat.le_of_ble_eq_true rfl) ⟨Nat.le_of_ble_eq_true rfl, Nat.le_of_ble_eq_true rfl⟩ ?_
    rintro _ _ ⟨r313, rfl, hO314, rfl⟩
    obtain rfl : r313 = (S m_shownTo i) := hO314 _ (su_5 (by omega) (by omega))
    show xV _ _ _ _ _ _ _ _ _ _ _ _ _ _ _ _ _ (xH D b σ4) _ _ [.int (S m_shownTo i)]
    refine xi_istore (lv' := [some (.ref (b + 0)), some (.int (nI i)), some (.int (nI u)), some (.int g), some (.ref (b + k)), some (.int (nI a)), some (.int (nI x)), some (.int (nI v)), some (.int (-10003)), some (.int (S m_shownTo i)), none, none, none, none, none, none, none, none, none, none, none, none]) hC dL_operates_45 (pc' := 47) rfl (by decide) rfl ?_
    refine xi_aload_n hC dL_operates_47 (pc' := 48) rfl rfl rfl ?_
    refine xi_iload_n hC dL_operates_48 (pc' := 49) rfl rfl rfl ?_
    refine xi_bipush (v := nI 6) hC dL_operates_49 (pc' := 51) rfl (by decide +kernel) ?_
    refine xi_callV (As := [.int (nI i), .int (nI 6)]) (rest := []) (c_X7_user l D b (b + (k + 3)) (σ := σ4) (S := S) (N := N) (u := u) (w := w) hS hRσ4 (by omega) (x := (nI i)) (y := (nI 6))) hC dL_operates_51 (pc' := 54) rfl xw_m_L_18 xw_c_X7_user xw_ins_X7_user xw_sel_X7_user xw_ini_X7 xd_X7_user (xH_at.trans (xsh_7 kd_0)) rfl ⟨Nat.le_of_ble_eq_true rfl, Nat.le_of_ble_eq_true rfl⟩ rfl (Nat.le_of_ble_eq_true rfl) ⟨Nat.le_of_ble_eq_true rfl, Nat.le_of_ble_eq_true rfl⟩ ?_
    rintro _ _ ⟨r315, rfl, hO316, rfl⟩
    obtain rfl : r315 = (S m_sentBy i) := hO316 _ (su_6 (by omega) (by omega))
    show xV _ _ _ _ _ _ _ _ _ _ _ _ _ _ _ _ _ (xH D b σ4) _ _ [.int (S m_sentBy i)]
    refine xi_istore (lv' := [some (.ref (b + 0)), some (.int (nI i)), some (.int (nI u)), some (.int g), some (.ref (b + k)), some (.int (nI a)), some (.int (nI x)), some (.int (nI v)), some (.int (-10003)), some (.int (S m_shownTo i)), some (.int (S m_sentBy i)), none, none, none, none, none, none, none, none, none, none, none]) hC dL_operates_54 (pc' := 56) rfl (by decide) rfl ?_
    refine xi_aload_n hC dL_operates_56 (pc' := 57) rfl rfl rfl ?_
    refine xi_iload_n hC dL_operates_57 (pc' := 58) rfl rfl rfl ?_
    refine xi_iconst (v := nI 4) hC dL_operates_58 (pc' := 59) rfl (by decide +kernel) ?_
    refine xi_callV (As := [.int (nI i), .int (nI 4)]) (rest := []) (c_X7_user l D b (b + (k + 3)) (σ := σ4) (S := S) (N := N) (u := u) (w := w) hS hRσ4 (by omega) (x := (nI i)) (y := (nI 4))) hC dL_operates_59 (pc' := 62) rfl xw_m_L_18 xw_c_X7_user xw_ins_X7_user xw_sel_X7_user xw_ini_X7 xd_X7_user (xH_at.trans (xsh_7 kd_0)) rfl ⟨Nat.le_of_ble_eq_true rfl, Nat.le_of_ble_eq_true rfl⟩ rfl (Nat.le_of_ble_eq_true rfl) ⟨Nat.le_of_ble_eq_true rfl, Nat.le_of_ble_eq_true rfl⟩ ?_
    rintro _ _ ⟨r317, rfl, hO318, rfl⟩
    obtain rfl : r317 = (S m_doneOf i) := hO318 _ (su_4 (by omega) (by omega))
    show xV _ _ _ _ _ _ _ _ _ _ _ _ _ _ _ _ _ (xH D b σ4) _ _ [.int (S m_doneOf i)]
    refine xi_istore (lv' := [some (.ref (b + 0)), some (.int (nI i)), some (.int (nI u)), some (.int g), some (.ref (b + k)), some (.int (nI a)), some (.int (nI x)), some (.int (nI v)), some (.int (-10003)), some (.int (S m_shownTo i)), some (.int (S m_sentBy i)), some (.int (S m_doneOf i)), none, none, none, none, none, none, none, none, none, none]) hC dL_operates_62 (pc' := 64) rfl (by decide) rfl ?_
    refine xi_aload_n hC dL_operates_64 (pc' := 65) rfl rfl rfl ?_
    refine xi_iconst (v := nI 4) hC dL_operates_65 (pc' := 66) rfl (by decide +kernel) ?_
    refine xi_callV (As := [.int (nI 4)]) (rest := []) (c_X7_count l D b (b + (k + 3)) (σ := σ4) (S := S) (N := N) (u := u) (w := w) hS hRσ4 (by omega) (x := (nI 4))) hC dL_operates_66 (pc' := 69) rfl xw_m_L_40 xw_c_X7_count xw_ins_X7_count xw_sel_X7_count xw_ini_X7 xd_X7_count (xH_at.trans (xsh_7 kd_0)) rfl ⟨Nat.le_of_ble_eq_true rfl, Nat.le_of_ble_eq_true rfl⟩ rfl (Nat.le_of_ble_eq_true rfl) ⟨Nat.le_of_ble_eq_true rfl, Nat.le_of_ble_eq_true rfl⟩ ?_
    rintro _ _ ⟨r319, rfl, hO320, rfl⟩
    obtain rfl : r319 = (S oMod 2) := hO320 _ (sc_4)
    show xV _ _ _ _ _ _ _ _ _ _ _ _ _ _ _ _ _ (xH D b σ4) _ _ [.int (S oMod 2)]
    refine xi_istore (lv' := [some (.ref (b + 0)), some (.int (nI i)), some (.int (nI u)), some (.int g), some (.ref (b + k)), some (.int (nI a)), some (.int (nI x)), some (.int (nI v)), some (.int (-10003)), some (.int (S m_shownTo i)), some (.int (S m_sentBy i)), some (.int (S m_doneOf i)), some (.int (S oMod 2)), none, none, none, none, none, none, none, none, none]) hC dL_operates_69 (pc' := 71) rfl (by decide) rfl ?_
    refine xi_aload_n hC dL_operates_71 (pc' := 72) rfl rfl rfl ?_
    refine xi_iload hC dL_operates_72 (pc' := 74) rfl rfl ?_
    refine xi_iconst (v := nI 1) hC dL_operates_74 (pc' := 75) rfl (by decide +kernel) ?_
    refine xi_callV (As := [.int (nI v), .int (nI 1)]) (rest := []) (c_X7_view l D b (b + (k + 3)) (σ := σ4) (S := S) (N := N) (u := u) (w := w) hS hRσ4 (by omega) (x := (nI v)) (y := (nI 1))) hC dL_operates_75 (pc' := 78) rfl xw_m_L_43 xw_c_X7_view xw_ins_X7_view xw_sel_X7_view xw_ini_X7 xd_X7_view (xH_at.trans (xsh_7 kd_0)) rfl ⟨Nat.le_of_ble_eq_true rfl, Nat.le_of_ble_eq_true rfl⟩ rfl (Nat.le_of_ble_eq_true rfl) ⟨Nat.le_of_ble_eq_true rfl, Nat.le_of_ble_eq_true rfl⟩ ?_
    rintro _ _ ⟨r321, rfl, hO322, rfl⟩
    obtain rfl : r321 = (nI kp) := hO322 _ _ (sw_1 hv (by omega) hkp)
    show xV _ _ _ _ _ _ _ _ _ _ _ _ _ _ _ _ _ (xH D b σ4) _ _ [.int (nI kp)]
    refine xi_istore (lv' := [some (.ref (b + 0)), some (.int (nI i)), some (.int (nI u)), some (.int g), some (.ref (b + k)), some (.int (nI a)), some (.int (nI x)), some (.int (nI v)), some (.int (-10003)), some (.int (S m_shownTo i)), some (.int (S m_sentBy i)), some (.int (S m_doneOf i)), some (.int (S oMod 2)), some (.int (nI kp)), none, none, none, none, none, none, none, none]) hC dL_operates_78 (pc' := 80) rfl (by decide) rfl ?_
    refine xi_iload_n hC dL_operates_80 (pc' := 81) rfl rfl rfl ?_
    refine xi_iconst (v := nI 1) hC dL_operates_81 (pc' := 82) rfl (by decide +kernel) ?_
    refine xi_iand hC dL_operates_82 (pc' := 83) rfl ?_
    refine xi_ifne (tgt := 90) hC dL_operates_83 (pc' := 86) rfl (by decide) (fun zc83 => ?_) (fun zc83 => ?_)
    · skip
      refine xi_iconst (v := nI 0) hC dL_operates_90 (pc' := 91) rfl (by decide +kernel) ?_
      refine xi_istore (lv' := [some (.ref (b + 0)), some (.int (nI i)), some (.int (nI u)), some (.int g), some (.ref (b + k)), some (.int (nI a)), some (.int (nI x)), some (.int (nI v)), some (.int (-10003)), some (.int (S m_shownTo i)), some (.int (S m_sentBy i)), some (.int (S m_doneOf i)), some (.int (S oMod 2)), some (.int (nI kp)), some (.int (nI 0)), none, none, none, none, none, none, none]) hC dL_operates_91 (pc' := 93) rfl (by decide) rfl ?_
      refine xi_iload_n hC dL_operates_93 (pc' := 94) rfl rfl rfl ?_
      refine xi_iconst (v := nI 1) hC dL_operates_94 (pc' := 95) rfl (by decide +kernel) ?_
      refine xi_ishr hC dL_operates_95 (pc' := 96) rfl ?_
      refine xi_iload_n hC dL_operates_96 (pc' := 97) rfl rfl rfl ?_
      refine xi_callS (As := [.int (g >>> ((nI 1) &&& 31)), .int (nI u)]) (rest := []) (c_L_low l D b (b + (k + 3)) (h := (xH D b σ4)) (x := (g >>> ((nI 1) &&& 31))) (k := u) (by omega) (by omega)) hC dL_operates_97 (pc' := 100) rfl xw_m_L_46 xw_c_L_low xw_sta_L_low xw_ini_L xd_L_low ⟨Nat.le_of_ble_eq_true rfl, Nat.le_of_ble_eq_true rfl⟩ rfl (Nat.le_of_ble_eq_true rfl) ⟨Nat.le_of_ble_eq_true rfl, Nat.le_of_ble_eq_true rfl⟩ ?_
      rintro _ _ ⟨⟨j323, hj323, rfl⟩, rfl⟩
      show xV _ _ _ _ _ _ _ _ _ _ _ _ _ _ _ _ _ (xH D b σ4) _ _ [.int (nI j323)]
      refine xi_istore (lv' := [some (.ref (b + 0)), some (.int (nI i)), some (.int (nI u)), some (.int g), some (.ref (b + k)), some (.int (nI a)), some (.int (nI x)), some (.int (nI v)), some (.int (-10003)), some (.int (S m_shownTo i)), some (.int (S m_sentBy i)), some (.int (S m_doneOf i)), some (.int (S oMod 2)), some (.int (nI kp)), some (.int (nI 0)), some (.int (nI j323)), none, none, none, none, none, none]) hC dL_operates_100 (pc' := 102) rfl (by decide) rfl ?_
      refine xi_iload_n hC dL_operates_102 (pc' := 103) rfl rfl rfl ?_
      refine xi_iconst (v := nI 4) hC dL_operates_103 (pc' := 104) rfl (by decide +kernel) ?_
      refine xi_ishr hC dL_operates_104 (pc' := 105) rfl ?_
      refine xi_sipush (v := nI 2001) hC dL_operates_105 (pc' := 108) rfl (by decide +kernel) ?_
      refine xi_callS (As := [.int (g >>> ((nI 4) &&& 31)), .int (nI 2001)]) (rest := []) (c_L_low l D b (b + (k + 3)) (h := (xH D b σ4)) (x := (g >>> ((nI 4) &&& 31))) (k := 2001) (by omega) (by omega)) hC dL_operates_108 (pc' := 111) rfl xw_m_L_46 xw_c_L_low xw_sta_L_low xw_ini_L xd_L_low ⟨Nat.le_of_ble_eq_true rfl, Nat.le_of_ble_eq_true rfl⟩ rfl (Nat.le_of_ble_eq_true rfl) ⟨Nat.le_of_ble_eq_true rfl, Nat.le_of_ble_eq_true rfl⟩ ?_
      rintro _ _ ⟨⟨j324, hj324, rfl⟩, rfl⟩
      show xV _ _ _ _ _ _ _ _ _ _ _ _ _ _ _ _ _ (xH D b σ4) _ _ [.int (nI j324)]
      refine xi_sipush (v := nI 1000) hC dL_operates_111 (pc' := 114) rfl (by decide +kernel) ?_
      refine xi_isub hC dL_operates_114 (pc' := 115) rfl ?_
      refine xi_istore (lv' := [some (.ref (b + 0)), some (.int (nI i)), some (.int (nI u)), some (.int g), some (.ref (b + k)), some (.int (nI a)), some (.int (nI x)), some (.int (nI v)), some (.int (-10003)), some (.int (S m_shownTo i)), some (.int (S m_sentBy i)), some (.int (S m_doneOf i)), some (.int (S oMod 2)), some (.int (nI kp)), some (.int (nI 0)), some (.int (nI j323)), some (.int ((nI j324) - (nI 1000))), none, none, none, none, none]) hC dL_operates_115 (pc' := 117) rfl (by decide) rfl ?_
      refine xi_aload_n hC dL_operates_117 (pc' := 118) rfl rfl rfl ?_
      refine xi_iload hC dL_operates_118 (pc' := 120) rfl rfl ?_
      refine xi_iload hC dL_operates_120 (pc' := 122) rfl rfl ?_
      refine xi_callV (As := [.int (nI v), .int (nI j323)]) (rest := []) (c_X7_content l D b (b + (k + 3)) (σ := σ4) (S := S) (N := N) (u := u) (w := w) hS hRσ4 (by omega) (x := (nI v)) (y := (nI j323))) hC dL_operates_122 (pc' := 125) rfl xw_m_L_49 xw_c_X7_content xw_ins_X7_content xw_sel_X7_content xw_ini_X7 xd_X7_content (xH_at.trans (xsh_7 kd_0)) rfl ⟨Nat.le_of_ble_eq_true rfl, Nat.le_of_ble_eq_true rfl⟩ rfl (Nat.le_of_ble_eq_true rfl) ⟨Nat.le_of_ble_eq_true rfl, Nat.le_of_ble_eq_true rfl⟩ ?_
      rintro _ _ ⟨r325, rfl, hO326, rfl⟩
      obtain rfl : r325 = (cV S v j323) := hO326 _ (so_1 hv (by omega) (by omega) (by omega))
      show xV _ _ _ _ _ _ _ _ _ _ _ _ _ _ _ _ _ (xH D b σ4) _ _ [.int (cV S v j323)]
      refine xi_istore (lv' := [some (.ref (b + 0)), some (.int (nI i)), some (.int (nI u)), some (.int g), some (.ref (b + k)), some (.int (nI a)), some (.int (nI x)), some (.int (nI v)), some (.int (-10003)), some (.int (S m_shownTo i)), some (.int (S m_sentBy i)), some (.int (S m_doneOf i)), some (.int (S oMod 2)), some (.int (nI kp)), some (.int (nI 0)), some (.int (nI j323)), some (.int ((nI j324) - (nI 1000))), some (.int (cV S v j323)), none, none, none, none]) hC dL_operates_125 (pc' := 127) rfl (by decide) rfl ?_
      refine xi_aload_n hC dL_operates_127 (pc' := 128) rfl rfl rfl ?_
      refine xi_iload_n hC dL_operates_128 (pc' := 129) rfl rfl rfl ?_
      refine xi_callV (As := [.int (nI i)]) (rest := []) (c_X7_lastRead l D b (b + (k + 3)) (σ := σ4) (S := S) (N := N) (u := u) (w := w) hS hRσ4 (by omega) (x := (nI i))) hC dL_operates_129 (pc' := 132) rfl xw_m_L_52 xw_c_X7_lastRead xw_ins_X7_lastRead xw_sel_X7_lastRead xw_ini_X7 xd_X7_lastRead (xH_at.trans (xsh_7 kd_0)) rfl ⟨Nat.le_of_ble_eq_true rfl, Nat.le_of_ble_eq_true rfl⟩ rfl (Nat.le_of_ble_eq_true rfl) ⟨Nat.le_of_ble_eq_true rfl, Nat.le_of_ble_eq_true rfl⟩ ?_
      rintro _ _ ⟨r327, rfl, hO328, rfl⟩
      obtain rfl : r327 = (lastV S i) := hO328 _ (sl_1 (by omega) (by omega))
      show xV _ _ _ _ _ _ _ _ _ _ _ _ _ _ _ _ _ (xH D b σ4) _ _ [.int (lastV S i)]
      refine xi_istore (lv' := [some (.ref (b + 0)), some (.int (nI i)), some (.int (nI u)), some (.int g), some (.ref (b + k)), some (.int (nI a)), some (.int (nI x)), some (.int (nI v)), some (.int (-10003)), some (.int (S m_shownTo i)), some (.int (S m_sentBy i)), some (.int (S m_doneOf i)), some (.int (S oMod 2)), some (.int (nI kp)), some (.int (nI 0)), some (.int (nI j323)), some (.int ((nI j324) - (nI 1000))), some (.int (cV S v j323)), some (.int (lastV S i)), none, none, none]) hC dL_operates_132 (pc' := 134) rfl (by decide) rfl ?_
      refine xi_iload hC dL_operates_134 (pc' := 136) rfl rfl ?_
      refine xn_ifeq (tgt := 149) hC dL_operates_136 (pc' := 139) rfl (by decide) (by omega) (fun zc136 => ?_) (fun zc136 => ?_)
      · skip
        refine xi_aload_n hC dL_operates_149 (pc' := 150) rfl rfl rfl ?_
        refine xi_iload_n hC dL_operates_150 (pc' := 151) rfl rfl rfl ?_
        refine xi_iload hC dL_operates_151 (pc' := 153) rfl rfl ?_
        refine xi_callV (As := [.int (nI i), .int (nI j323)]) (rest := []) (c_X7_read l D b (b + (k + 3)) (σ := σ4) (S := S) (N := N) (u := u) (w := w) hS hRσ4 (by omega) (x := (nI i)) (y := (nI j323))) hC dL_operates_153 (pc' := 156) rfl xw_m_L_58 xw_c_X7_read xw_ins_X7_read xw_sel_X7_read xw_ini_X7 xd_X7_read (xH_at.trans (xsh_7 kd_0)) rfl ⟨Nat.le_of_ble_eq_true rfl, Nat.le_of_ble_eq_true rfl⟩ rfl (Nat.le_of_ble_eq_true rfl) ⟨Nat.le_of_ble_eq_true rfl, Nat.le_of_ble_eq_true rfl⟩ ?_
        rintro _ _ ⟨r329, σ330, rfl, hHσ330, hO332, rfl⟩
        obtain ⟨rT331, T331, hZT331⟩ := ex_read (S := S) (u := u) (w := w) (x := nI i) (y := (nI j323)) hS.1
        obtain ⟨eT331, hRσ330⟩ := hO332 rT331 T331 hZT331
        have hST331 := SI_read hS hZT331
        have hJT331 := (JJ_read hS.1 hJ hZT331).up (Nat.le_succ N)
        obtain ⟨e2T331, e3T331⟩ := r_no hZT331 hi hj323 hA h0 ha5
        have e4T331 := e3T331.symm
        subst e4T331
        obtain rfl : r329 = (-10003) := eT331.trans e2T331
        have hlσ330_k : σ330 k 4096 = nI 8 := by rw [hHσ330 k (by omega)]; exact hlσ4
        show xV _ _ _ _ _ _ _ _ _ _ _ _ _ _ _ _ _ (xH D b σ330) _ _ [.int (-10003)]
        refine xi_istore (lv' := [some (.ref (b + 0)), some (.int (nI i)), some (.int (nI u)), some (.int g), some (.ref (b + k)), some (.int (nI a)), some (.int (nI x)), some (.int (nI v)), some (.int (-10003)), some (.int (S m_shownTo i)), some (.int (S m_sentBy i)), some (.int (S m_doneOf i)), some (.int (S oMod 2)), some (.int (nI kp)), some (.int (nI 0)), some (.int (nI j323)), some (.int ((nI j324) - (nI 1000))), some (.int (cV S v j323)), some (.int (lastV S i)), some (.int (-10003)), none, none]) hC dL_operates_156 (pc' := 158) rfl (by decide) rfl ?_
        refine xi_iload hC dL_operates_158 (pc' := 160) rfl rfl ?_
        refine xn_ifle (tgt := 207) hC dL_operates_160 (pc' := 163) rfl (by decide) (by omega) (fun zc160 => ?_) (fun zc160 => ?_)
        · exact absurd zc160 (by omega)
        · skip
          refine xi_iload hC dL_operates_163 (pc' := 165) rfl rfl ?_
          refine xi_sipush (v := -10003) hC dL_operates_165 (pc' := 168) rfl (by decide +kernel) ?_
          refine xi_icmpne (tgt := 205) hC dL_operates_168 (pc' := 171) rfl (by decide) (fun zc168 => ?_) (fun zc168 => ?_)
          · exact absurd rfl zc168
          · skip
            refine xi_iload hC dL_operates_171 (pc' := 173) rfl rfl ?_
            refine xi_sipush (v := -10003) hC dL_operates_173 (pc' := 176) rfl (by decide +kernel) ?_
            refine xi_icmpne (tgt := 205) hC dL_operates_176 (pc' := 179) rfl (by decide) (fun zc176 => ?_) (fun zc176 => ?_)
            · exact absurd rfl zc176
            · skip
              refine xi_aload_n hC dL_operates_179 (pc' := 180) rfl rfl rfl ?_
              refine xi_iload_n hC dL_operates_180 (pc' := 181) rfl rfl rfl ?_
              refine xi_iconst (v := nI 5) hC dL_operates_181 (pc' := 182) rfl (by decide +kernel) ?_
              refine xi_callV (As := [.int (nI i), .int (nI 5)]) (rest := []) (c_X7_user l D b (b + (k + 3)) (σ := σ330) (S := S) (N := (N + 1)) (u := u) (w := w) hST331 hRσ330 (by omega) (x := (nI i)) (y := (nI 5))) hC dL_operates_182 (pc' := 185) rfl xw_m_L_18 xw_c_X7_user xw_ins_X7_user xw_sel_X7_user xw_ini_X7 xd_X7_user (xH_at.trans (xsh_7 kd_0)) rfl ⟨Nat.le_of_ble_eq_true rfl, Nat.le_of_ble_eq_true rfl⟩ rfl (Nat.le_of_ble_eq_true rfl) ⟨Nat.le_of_ble_eq_true rfl, Nat.le_of_ble_eq_true rfl⟩ ?_
              rintro _ _ ⟨r333, rfl, hO334, rfl⟩
              obtain rfl : r333 = (S m_shownTo i) := hO334 _ (su_5 (by omega) (by omega))
              show xV _ _ _ _ _ _ _ _ _ _ _ _ _ _ _ _ _ (xH D b σ330) _ _ [.int (S m_shownTo i)]
              refine xi_iload hC dL_operates_185 (pc' := 187) rfl rfl ?_
              refine xi_icmpne (tgt := 205) hC dL_operates_187 (pc' := 190) rfl (by decide) (fun zc187 => ?_) (fun zc187 => ?_)
              · exact absurd rfl zc187
              · skip
                refine xi_aload_n hC dL_operates_190 (pc' := 191) rfl rfl rfl ?_
                refine xi_iload_n hC dL_operates_191 (pc' := 192) rfl rfl rfl ?_
                refine xi_iconst (v := nI 1) hC dL_operates_192 (pc' := 193) rfl (by decide +kernel) ?_
                refine xi_callV (As := [.int (nI i), .int (nI 1)]) (rest := []) (c_X7_user l D b (b + (k + 3)) (σ := σ330) (S := S) (N := (N + 1)) (u := u) (w := w) hST331 hRσ330 (by omega) (x := (nI i)) (y := (nI 1))) hC dL_operates_193 (pc' := 196) rfl xw_m_L_18 xw_c_X7_user xw_ins_X7_user xw_sel_X7_user xw_ini_X7 xd_X7_user (xH_at.trans (xsh_7 kd_0)) rfl ⟨Nat.le_of_ble_eq_true rfl, Nat.le_of_ble_eq_true rfl⟩ rfl (Nat.le_of_ble_eq_true rfl) ⟨Nat.le_of_ble_eq_true rfl, Nat.le_of_ble_eq_true rfl⟩ ?_
                rintro _ _ ⟨r335, rfl, hO336, rfl⟩
                obtain rfl : r335 = (nI a) := hO336 _ (su_1 (by omega) (by omega) hA)
                show xV _ _ _ _ _ _ _ _ _ _ _ _ _ _ _ _ _ (xH D b σ330) _ _ [.int (nI a)]
                refine xi_iload hC dL_operates_196 (pc' := 198) rfl rfl ?_
                refine xi_icmpne (tgt := 205) hC dL_operates_198 (pc' := 201) rfl (by decide) (fun zc198 => ?_) (fun zc198 => ?_)
                · exact absurd rfl zc198
                · skip
                  refine xi_iconst (v := nI 1) hC dL_operates_201 (pc' := 202) rfl (by decide +kernel) ?_
                  refine xi_goto (tgt := 206) hC dL_operates_202 (by decide) ?_
                  refine xb_ireturn hC dL_operates_206 hr (by decide) rfl ?_
                  exact ⟨σ330, S, rfl, hST331, hRσ330, hJT331, rfl⟩
      · exact absurd zc136 (by decide)
    · skip
      refine xi_iconst (v := nI 1) hC dL_operates_86 (pc' := 87) rfl (by decide +kernel) ?_
      refine xi_goto (tgt := 91) hC dL_operates_87 (by decide) ?_
      refine xi_istore (lv' := [some (.ref (b + 0)), some (.int (nI i)), some (.int (nI u)), some (.int g), some (.ref (b + k)), some (.int (nI a)), some (.int (nI x)), some (.int (nI v)), some (.int (-10003)), some (.int (S m_shownTo i)), some (.int (S m_sentBy i)), some (.int (S m_doneOf i)), some (.int (S oMod 2)), some (.int (nI kp)), some (.int (nI 1)), none, none, none, none, none, none, none]) hC dL_operates_91 (pc' := 93) rfl (by decide) rfl ?_
      refine xi_iload_n hC dL_operates_93 (pc' := 94) rfl rfl rfl ?_
      refine xi_iconst (v := nI 1) hC dL_operates_94 (pc' := 95) rfl (by decide +kernel) ?_
      refine xi_ishr hC dL_operates_95 (pc' := 96) rfl ?_
      refine xi_iload_n hC dL_operates_96 (pc' := 97) rfl rfl rfl ?_
      refine xi_callS (As := [.int (g >>> ((nI 1) &&& 31)), .int (nI u)]) (rest := []) (c_L_low l D b (b + (k + 3)) (h := (xH D b σ4)) (x := (g >>> ((nI 1) &&& 31))) (k := u) (by omega) (by omega)) hC dL_operates_97 (pc' := 100) rfl xw_m_L_46 xw_c_L_low xw_sta_L_low xw_ini_L xd_L_low ⟨Nat.le_of_ble_eq_true rfl, Nat.le_of_ble_eq_true rfl⟩ rfl (Nat.le_of_ble_eq_true rfl) ⟨Nat.le_of_ble_eq_true rfl, Nat.le_of_ble_eq_true rfl⟩ ?_
      rintro _ _ ⟨⟨j337, hj337, rfl⟩, rfl⟩
      show xV _ _ _ _ _ _ _ _ _ _ _ _ _ _ _ _ _ (xH D b σ4) _ _ [.int (nI j337)]
      refine xi_istore (lv' := [some (.ref (b + 0)), some (.int (nI i)), some (.int (nI u)), some (.int g), some (.ref (b + k)), some (.int (nI a)), some (.int (nI x)), some (.int (nI v)), some (.int (-10003)), some (.int (S m_shownTo i)), some (.int (S m_sentBy i)), some (.int (S m_doneOf i)), some (.int (S oMod 2)), some (.int (nI kp)), some (.int (nI 1)), some (.int (nI j337)), none, none, none, none, none, none]) hC dL_operates_100 (pc' := 102) rfl (by decide) rfl ?_
      refine xi_iload_n hC dL_operates_102 (pc' := 103) rfl rfl rfl ?_
      refine xi_iconst (v := nI 4) hC dL_operates_103 (pc' := 104) rfl (by decide +kernel) ?_
      refine xi_ishr hC dL_operates_104 (pc' := 105) rfl ?_
      refine xi_sipush (v := nI 2001) hC dL_operates_105 (pc' := 108) rfl (by decide +kernel) ?_
      refine xi_callS (As := [.int (g >>> ((nI 4) &&& 31)), .int (nI 2001)]) (rest := []) (c_L_low l D b (b + (k + 3)) (h := (xH D b σ4)) (x := (g >>> ((nI 4) &&& 31))) (k := 2001) (by omega) (by omega)) hC dL_operates_108 (pc' := 111) rfl xw_m_L_46 xw_c_L_low xw_sta_L_low xw_ini_L xd_L_low ⟨Nat.le_of_ble_eq_true rfl, Nat.le_of_ble_eq_true rfl⟩ rfl (Nat.le_of_ble_eq_true rfl) ⟨Nat.le_of_ble_eq_true rfl, Nat.le_of_ble_eq_true rfl⟩ ?_
      rintro _ _ ⟨⟨j338, hj338, rfl⟩, rfl⟩
      show xV _ _ _ _ _ _ _ _ _ _ _ _ _ _ _ _ _ (xH D b σ4) _ _ [.int (nI j338)]
      refine xi_sipush (v := nI 1000) hC dL_operates_111 (pc' := 114) rfl (by decide +kernel) ?_
      refine xi_isub hC dL_operates_114 (pc' := 115) rfl ?_
      refine xi_istore (lv' := [some (.ref (b + 0)), some (.int (nI i)), some (.int (nI u)), some (.int g), some (.ref (b + k)), some (.int (nI a)), some (.int (nI x)), some (.int (nI v)), some (.int (-10003)), some (.int (S m_shownTo i)), some (.int (S m_sentBy i)), some (.int (S m_doneOf i)), some (.int (S oMod 2)), some (.int (nI kp)), some (.int (nI 1)), some (.int (nI j337)), some (.int ((nI j338) - (nI 1000))), none, none, none, none, none]) hC dL_operates_115 (pc' := 117) rfl (by decide) rfl ?_
      refine xi_aload_n hC dL_operates_117 (pc' := 118) rfl rfl rfl ?_
      refine xi_iload hC dL_operates_118 (pc' := 120) rfl rfl ?_
      refine xi_iload hC dL_operates_120 (pc' := 122) rfl rfl ?_
      refine xi_callV (As := [.int (nI v), .int (nI j337)]) (rest := []) (c_X7_content l D b (b + (k + 3)) (σ := σ4) (S := S) (N := N) (u := u) (w := w) hS hRσ4 (by omega) (x := (nI v)) (y := (nI j337))) hC dL_operates_122 (pc' := 125) rfl xw_m_L_49 xw_c_X7_content xw_ins_X7_content xw_sel_X7_content xw_ini_X7 xd_X7_content (xH_at.trans (xsh_7 kd_0)) rfl ⟨Nat.le_of_ble_eq_true rfl, Nat.le_of_ble_eq_true rfl⟩ rfl (Nat.le_of_ble_eq_true rfl) ⟨Nat.le_of_ble_eq_true rfl, Nat.le_of_ble_eq_true rfl⟩ ?_
      rintro _ _ ⟨r339, rfl, hO340, rfl⟩
      obtain rfl : r339 = (cV S v j337) := hO340 _ (so_1 hv (by omega) (by omega) (by omega))
      show xV _ _ _ _ _ _ _ _ _ _ _ _ _ _ _ _ _ (xH D b σ4) _ _ [.int (cV S v j337)]
      refine xi_istore (lv' := [some (.ref (b + 0)), some (.int (nI i)), some (.int (nI u)), some (.int g), some (.ref (b + k)), some (.int (nI a)), some (.int (nI x)), some (.int (nI v)), some (.int (-10003)), some (.int (S m_shownTo i)), some (.int (S m_sentBy i)), some (.int (S m_doneOf i)), some (.int (S oMod 2)), some (.int (nI kp)), some (.int (nI 1)), some (.int (nI j337)), some (.int ((nI j338) - (nI 1000))), some (.int (cV S v j337)), none, none, none, none]) hC dL_operates_125 (pc' := 127) rfl (by decide) rfl ?_
      refine xi_aload_n hC dL_operates_127 (pc' := 128) rfl rfl rfl ?_
      refine xi_iload_n hC dL_operates_128 (pc' := 129) rfl rfl rfl ?_
      refine xi_callV (As := [.int (nI i)]) (rest := []) (c_X7_lastRead l D b (b + (k + 3)) (σ := σ4) (S := S) (N := N) (u := u) (w := w) hS hRσ4 (by omega) (x := (nI i))) hC dL_operates_129 (pc' := 132) rfl xw_m_L_52 xw_c_X7_lastRead xw_ins_X7_lastRead xw_sel_X7_lastRead xw_ini_X7 xd_X7_lastRead (xH_at.trans (xsh_7 kd_0)) rfl ⟨Nat.le_of_ble_eq_true rfl, Nat.le_of_ble_eq_true rfl⟩ rfl (Nat.le_of_ble_eq_true rfl) ⟨Nat.le_of_ble_eq_true rfl, Nat.le_of_ble_eq_true rfl⟩ ?_
      rintro _ _ ⟨r341, rfl, hO342, rfl⟩
      obtain rfl : r341 = (lastV S i) := hO342 _ (sl_1 (by omega) (by omega))
      show xV _ _ _ _ _ _ _ _ _ _ _ _ _ _ _ _ _ (xH D b σ4) _ _ [.int (lastV S i)]
      refine xi_istore (lv' := [some (.ref (b + 0)), some (.int (nI i)), some (.int (nI u)), some (.int g), some (.ref (b + k)), some (.int (nI a)), some (.int (nI x)), some (.int (nI v)), some (.int (-10003)), some (.int (S m_shownTo i)), some (.int (S m_sentBy i)), some (.int (S m_doneOf i)), some (.int (S oMod 2)), some (.int (nI kp)), some (.int (nI 1)), some (.int (nI j337)), some (.int ((nI j338) - (nI 1000))), some (.int (cV S v j337)), some (.int (lastV S i)), none, none, none]) hC dL_operates_132 (pc' := 134) rfl (by decide) rfl ?_
      refine xi_iload hC dL_operates_134 (pc' := 136) rfl rfl ?_
      refine xn_ifeq (tgt := 149) hC dL_operates_136 (pc' := 139) rfl (by decide) (by omega) (fun zc136 => ?_) (fun zc136 => ?_)
      · exact absurd zc136 (by decide)
      · skip
        refine xi_aload_n hC dL_operates_139 (pc' := 140) rfl rfl rfl ?_
        refine xi_iload_n hC dL_operates_140 (pc' := 141) rfl rfl rfl ?_
        refine xi_iload hC dL_operates_141 (pc' := 143) rfl rfl ?_
        refine xi_callV (As := [.int (nI i), .int ((nI j338) - (nI 1000))]) (rest := []) (c_X7_write l D b (b + (k + 3)) (σ := σ4) (S := S) (N := N) (u := u) (w := w) hS hRσ4 (by omega) (x := (nI i)) (y := ((nI j338) - (nI 1000)))) hC dL_operates_143 (pc' := 146) rfl xw_m_L_55 xw_c_X7_write xw_ins_X7_write xw_sel_X7_write xw_ini_X7 xd_X7_write (xH_at.trans (xsh_7 kd_0)) rfl ⟨Nat.le_of_ble_eq_true rfl, Nat.le_of_ble_eq_true rfl⟩ rfl (Nat.le_of_ble_eq_true rfl) ⟨Nat.le_of_ble_eq_true rfl, Nat.le_of_ble_eq_true rfl⟩ ?_
        rintro _ _ ⟨r343, σ344, rfl, hHσ344, hO346, rfl⟩
        obtain ⟨rT345, T345, hZT345⟩ := ex_write (S := S) (u := u) (w := w) (x := nI i) (y := ((nI j338) - (nI 1000))) hS.1
        obtain ⟨eT345, hRσ344⟩ := hO346 rT345 T345 hZT345
        have hST345 := SI_write hS hZT345
        have hJT345 := (JJ_write hS.1 hJ hZT345).up (Nat.le_succ N)
        obtain ⟨e2T345, e3T345⟩ := w_no hZT345 hi (low_inR hj338) hA h0 ha5
        have e4T345 := e3T345.symm
        subst e4T345
        obtain rfl : r343 = (-10003) := eT345.trans e2T345
        have hlσ344_k : σ344 k 4096 = nI 8 := by rw [hHσ344 k (by omega)]; exact hlσ4
        show xV _ _ _ _ _ _ _ _ _ _ _ _ _ _ _ _ _ (xH D b σ344) _ _ [.int (-10003)]
        refine xi_goto (tgt := 156) hC dL_operates_146 (by decide) ?_
        refine xi_istore (lv' := [some (.ref (b + 0)), some (.int (nI i)), some (.int (nI u)), some (.int g), some (.ref (b + k)), some (.int (nI a)), some (.int (nI x)), some (.int (nI v)), some (.int (-10003)), some (.int (S m_shownTo i)), some (.int (S m_sentBy i)), some (.int (S m_doneOf i)), some (.int (S oMod 2)), some (.int (nI kp)), some (.int (nI 1)), some (.int (nI j337)), some (.int ((nI j338) - (nI 1000))), some (.int (cV S v j337)), some (.int (lastV S i)), some (.int (-10003)), none, none]) hC dL_operates_156 (pc' := 158) rfl (by decide) rfl ?_
        refine xi_iload hC dL_operates_158 (pc' := 160) rfl rfl ?_
        refine xn_ifle (tgt := 207) hC dL_operates_160 (pc' := 163) rfl (by decide) (by omega) (fun zc160 => ?_) (fun zc160 => ?_)
        · exact absurd zc160 (by omega)
        · skip
          refine xi_iload hC dL_operates_163 (pc' := 165) rfl rfl ?_
          refine xi_sipush (v := -10003) hC dL_operates_165 (pc' := 168) rfl (by decide +kernel) ?_
          refine xi_icmpne (tgt := 205) hC dL_operates_168 (pc' := 171) rfl (by decide) (fun zc168 => ?_) (fun zc168 => ?_)
          · exact absurd rfl zc168
          · skip
            refine xi_iload hC dL_operates_171 (pc' := 173) rfl rfl ?_
            refine xi_sipush (v := -10003) hC dL_operates_173 (pc' := 176) rfl (by decide +kernel) ?_
            refine xi_icmpne (tgt := 205) hC dL_operates_176 (pc' := 179) rfl (by decide) (fun zc176 => ?_) (fun zc176 => ?_)
            · exact absurd rfl zc176
            · skip
              refine xi_aload_n hC dL_operates_179 (pc' := 180) rfl rfl rfl ?_
              refine xi_iload_n hC dL_operates_180 (pc' := 181) rfl rfl rfl ?_
              refine xi_iconst (v := nI 5) hC dL_operates_181 (pc' := 182) rfl (by decide +kernel) ?_
              refine xi_callV (As := [.int (nI i), .int (nI 5)]) (rest := []) (c_X7_user l D b (b + (k + 3)) (σ := σ344) (S := S) (N := (N + 1)) (u := u) (w := w) hST345 hRσ344 (by omega) (x := (nI i)) (y := (nI 5))) hC dL_operates_182 (pc' := 185) rfl xw_m_L_18 xw_c_X7_user xw_ins_X7_user xw_sel_X7_user xw_ini_X7 xd_X7_user (xH_at.trans (xsh_7 kd_0)) rfl ⟨Nat.le_of_ble_eq_true rfl, Nat.le_of_ble_eq_true rfl⟩ rfl (Nat.le_of_ble_eq_true rfl) ⟨Nat.le_of_ble_eq_true rfl, Nat.le_of_ble_eq_true rfl⟩ ?_
              rintro _ _ ⟨r347, rfl, hO348, rfl⟩
              obtain rfl : r347 = (S m_shownTo i) := hO348 _ (su_5 (by omega) (by omega))
              show xV _ _ _ _ _ _ _ _ _ _ _ _ _ _ _ _ _ (xH D b σ344) _ _ [.int (S m_shownTo i)]
              refine xi_iload hC dL_operates_185 (pc' := 187) rfl rfl ?_
              refine xi_icmpne (tgt := 205) hC dL_operates_187 (pc' := 190) rfl (by decide) (fun zc187 => ?_) (fun zc187 => ?_)
              · exact absurd rfl zc187
              · skip
                refine xi_aload_n hC dL_operates_190 (pc' := 191) rfl rfl rfl ?_
                refine xi_iload_n hC dL_operates_191 (pc' := 192) rfl rfl rfl ?_
                refine xi_iconst (v := nI 1) hC dL_operates_192 (pc' := 193) rfl (by decide +kernel) ?_
                refine xi_callV (As := [.int (nI i), .int (nI 1)]) (rest := []) (c_X7_user l D b (b + (k + 3)) (σ := σ344) (S := S) (N := (N + 1)) (u := u) (w := w) hST345 hRσ344 (by omega) (x := (nI i)) (y := (nI 1))) hC dL_operates_193 (pc' := 196) rfl xw_m_L_18 xw_c_X7_user xw_ins_X7_user xw_sel_X7_user xw_ini_X7 xd_X7_user (xH_at.trans (xsh_7 kd_0)) rfl ⟨Nat.le_of_ble_eq_true rfl, Nat.le_of_ble_eq_true rfl⟩ rfl (Nat.le_of_ble_eq_true rfl) ⟨Nat.le_of_ble_eq_true rfl, Nat.le_of_ble_eq_true rfl⟩ ?_
                rintro _ _ ⟨r349, rfl, hO350, rfl⟩
                obtain rfl : r349 = (nI a) := hO350 _ (su_1 (by omega) (by omega) hA)
                show xV _ _ _ _ _ _ _ _ _ _ _ _ _ _ _ _ _ (xH D b σ344) _ _ [.int (nI a)]
                refine xi_iload hC dL_operates_196 (pc' := 198) rfl rfl ?_
                refine xi_icmpne (tgt := 205) hC dL_operates_198 (pc' := 201) rfl (by decide) (fun zc198 => ?_) (fun zc198 => ?_)
                · exact absurd rfl zc198
                · skip
                  refine xi_iconst (v := nI 1) hC dL_operates_201 (pc' := 202) rfl (by decide +kernel) ?_
                  refine xi_goto (tgt := 206) hC dL_operates_202 (by decide) ?_
                  refine xb_ireturn hC dL_operates_206 hr (by decide) rfl ?_
                  exact ⟨σ344, S, rfl, hST345, hRσ344, hJT345, rfl⟩
