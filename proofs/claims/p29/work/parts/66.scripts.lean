/-! ===== p29: scripts ===== -/
set_option maxRecDepth 100000 in
set_option maxHeartbeats 8000000 in
theorem c_L_scripts (l : Launch) (D : XD) (b n : Nat) {σ S : XM} {N u w : Nat} (hS : SI N S u w) (hR : RR σ S u w) (hN : N + 100 < 2 ^ 31) : xM l yL_scripts cL_scripts 6 (some .boolean) 7 162 0 0 D b (n) [.ref (b + 0), .int (nI u)] (xH D b σ) (n) (fun y' h' => ∃ τ T : XM, y' = some (.int (nI 1)) ∧ SI (N + 20) T u w ∧ RR τ T u w ∧ h' = xH D b τ) := by
  refine xM.of (lv := [some (.ref (b + 0)), some (.int (nI u)), none, none, none, none]) (by decide +kernel) rfl (List.forall_mem_cons.mpr ⟨rfl, List.forall_mem_cons.mpr ⟨rfl, fun _ h => absurd h List.not_mem_nil⟩⟩) (Nat.le_of_ble_eq_true rfl) rfl ?_
  intro p e s m args below meth c hC hr hnm
  have hu := hS.1.1.2
  have hw := hS.1.2.1.2
  refine xi_aload_n hC dL_scripts_0 (pc' := 1) rfl rfl rfl ?_
  refine xi_callV (As := []) (rest := []) (c_X7_clearText l D b (n) (σ := σ) (S := S) (N := N) (u := u) (w := w) hS hR (by omega) ) hC dL_scripts_1 (pc' := 4) rfl xw_m_L_101 xw_c_X7_clearText xw_ins_X7_clearText xw_sel_X7_clearText xw_ini_X7 xd_X7_clearText (xH_at.trans (xsh_7 kd_0)) rfl ⟨Nat.le_of_ble_eq_true rfl, Nat.le_of_ble_eq_true rfl⟩ rfl (Nat.le_of_ble_eq_true rfl) ⟨Nat.le_of_ble_eq_true rfl, Nat.le_of_ble_eq_true rfl⟩ ?_
  rintro _ _ ⟨r1, σ2, rfl, hHσ2, hO4, rfl⟩
  obtain ⟨rT3, T3, hZT3⟩ : ∃ r T, s_clear S r T := ⟨_, _, rfl, rfl⟩
  obtain ⟨eT3, hRσ2⟩ := hO4 rT3 T3 hZT3
  have hST3 := SI_clear hS hZT3
  obtain ⟨hXT3, hoT3⟩ := TX_clear hZT3
  show xV _ _ _ _ _ _ _ _ _ _ _ _ _ _ _ _ _ (xH D b σ2) _ _ [.int r1]
  refine xi_pop hC dL_scripts_4 (pc' := 5) rfl rfl ?_
  refine xi_aload_n hC dL_scripts_5 (pc' := 6) rfl rfl rfl ?_
  refine xi_callV (As := []) (rest := []) (c_X7_run l D b (n) (σ := σ2) (S := T3) (N := N) (u := u) (w := w) hST3 hRσ2 (by omega) ) hC dL_scripts_6 (pc' := 9) rfl xw_m_L_104 xw_c_X7_run xw_ins_X7_run xw_sel_X7_run xw_ini_X7 xd_X7_run (xH_at.trans (xsh_7 kd_0)) rfl ⟨Nat.le_of_ble_eq_true rfl, Nat.le_of_ble_eq_true rfl⟩ rfl (Nat.le_of_ble_eq_true rfl) ⟨Nat.le_of_ble_eq_true rfl, Nat.le_of_ble_eq_true rfl⟩ ?_
  rintro _ _ ⟨r5, σ6, T7, rfl, hHσ6, hqT7, hRσ6, rfl⟩
  obtain ⟨eT7, fT7⟩ := run_0 hXT3 hqT7
  have gT7 := fT7.symm
  subst gT7
  obtain rfl : r5 = (nI 0) := eT7
  show xV _ _ _ _ _ _ _ _ _ _ _ _ _ _ _ _ _ (xH D b σ6) _ _ [.int (nI 0)]
  refine xn_ifeq (tgt := 14) hC dL_scripts_9 (pc' := 12) rfl (by decide) (by omega) (fun zc9 => ?_) (fun zc9 => ?_)
  · skip
    refine xi_aload_n hC dL_scripts_14 (pc' := 15) rfl rfl rfl ?_
    refine xi_bipush (v := nI 109) hC dL_scripts_15 (pc' := 17) rfl (by decide +kernel) ?_
    refine xi_callV (As := [.int (nI 109)]) (rest := []) (c_X7_type l D b (n) (σ := σ6) (S := T3) (N := N) (u := u) (w := w) hST3 hRσ6 (by omega) (x := (nI 109)) (by decide +kernel)) hC dL_scripts_17 (pc' := 20) rfl xw_m_L_107 xw_c_X7_type xw_ins_X7_type xw_sel_X7_type xw_ini_X7 xd_X7_type (xH_at.trans (xsh_7 kd_0)) rfl ⟨Nat.le_of_ble_eq_true rfl, Nat.le_of_ble_eq_true rfl⟩ rfl (Nat.le_of_ble_eq_true rfl) ⟨Nat.le_of_ble_eq_true rfl, Nat.le_of_ble_eq_true rfl⟩ ?_
    rintro _ _ ⟨r8, σ9, rfl, hHσ9, hO11, rfl⟩
    obtain ⟨rT10, T10, hZT10⟩ := ex_type (S := T3) (u := u) (w := w) (x := (nI 109)) hST3.1
    obtain ⟨eT10, hRσ9⟩ := hO11 rT10 T10 hZT10
    have hST10 := SI_type hST3 hZT10
    obtain ⟨hX0T10, hoT10⟩ := TX_type hXT3 (show 0 < 60 by decide) hZT10
    have hXT10 : TX T10 [nI 109] := hX0T10
    show xV _ _ _ _ _ _ _ _ _ _ _ _ _ _ _ _ _ (xH D b σ9) _ _ [.int r8]
    refine xi_pop hC dL_scripts_20 (pc' := 21) rfl rfl ?_
    refine xi_aload_n hC dL_scripts_21 (pc' := 22) rfl rfl rfl ?_
    refine xi_callV (As := []) (rest := []) (c_X7_run l D b (n) (σ := σ9) (S := T10) (N := N) (u := u) (w := w) hST10 hRσ9 (by omega) ) hC dL_scripts_22 (pc' := 25) rfl xw_m_L_104 xw_c_X7_run xw_ins_X7_run xw_sel_X7_run xw_ini_X7 xd_X7_run (xH_at.trans (xsh_7 kd_0)) rfl ⟨Nat.le_of_ble_eq_true rfl, Nat.le_of_ble_eq_true rfl⟩ rfl (Nat.le_of_ble_eq_true rfl) ⟨Nat.le_of_ble_eq_true rfl, Nat.le_of_ble_eq_true rfl⟩ ?_
    rintro _ _ ⟨r12, σ13, T14, rfl, hHσ13, hqT14, hRσ13, rfl⟩
    obtain ⟨eT14, fT14⟩ := run_1 hXT10 hqT14
    have gT14 := fT14.symm
    subst gT14
    obtain rfl : r12 = (-101) := eT14
    show xV _ _ _ _ _ _ _ _ _ _ _ _ _ _ _ _ _ (xH D b σ13) _ _ [.int (-101)]
    refine xi_bipush (v := -101) hC dL_scripts_25 (pc' := 27) rfl (by decide +kernel) ?_
    refine xi_icmpne (tgt := 34) hC dL_scripts_27 (pc' := 30) rfl (by decide) (fun zc27 => ?_) (fun zc27 => ?_)
    · exact absurd rfl zc27
    · skip
      refine xi_iconst (v := nI 1) hC dL_scripts_30 (pc' := 31) rfl (by decide +kernel) ?_
      refine xi_goto (tgt := 35) hC dL_scripts_31 (by decide) ?_
      refine xi_istore_n (lv' := [some (.ref (b + 0)), some (.int (nI u)), some (.int (nI 1)), none, none, none]) hC dL_scripts_35 (pc' := 36) rfl rfl (by decide) rfl ?_
      refine xi_aload_n hC dL_scripts_36 (pc' := 37) rfl rfl rfl ?_
      refine xi_bipush (v := nI 48) hC dL_scripts_37 (pc' := 39) rfl (by decide +kernel) ?_
      refine xi_callV (As := [.int (nI 48)]) (rest := []) (c_X7_type l D b (n) (σ := σ13) (S := T10) (N := N) (u := u) (w := w) hST10 hRσ13 (by omega) (x := (nI 48)) (by decide +kernel)) hC dL_scripts_39 (pc' := 42) rfl xw_m_L_107 xw_c_X7_type xw_ins_X7_type xw_sel_X7_type xw_ini_X7 xd_X7_type (xH_at.trans (xsh_7 kd_0)) rfl ⟨Nat.le_of_ble_eq_true rfl, Nat.le_of_ble_eq_true rfl⟩ rfl (Nat.le_of_ble_eq_true rfl) ⟨Nat.le_of_ble_eq_true rfl, Nat.le_of_ble_eq_true rfl⟩ ?_
      rintro _ _ ⟨r15, σ16, rfl, hHσ16, hO18, rfl⟩
      obtain ⟨rT17, T17, hZT17⟩ := ex_type (S := T10) (u := u) (w := w) (x := (nI 48)) hST10.1
      obtain ⟨eT17, hRσ16⟩ := hO18 rT17 T17 hZT17
      have hST17 := SI_type hST10 hZT17
      obtain ⟨hX0T17, hoT17⟩ := TX_type hXT10 (show 1 < 60 by decide) hZT17
      have hXT17 : TX T17 [nI 109, nI 48] := hX0T17
      show xV _ _ _ _ _ _ _ _ _ _ _ _ _ _ _ _ _ (xH D b σ16) _ _ [.int r15]
      refine xi_pop hC dL_scripts_42 (pc' := 43) rfl rfl ?_
      refine xi_aload_n hC dL_scripts_43 (pc' := 44) rfl rfl rfl ?_
      refine xi_bipush (v := nI 120) hC dL_scripts_44 (pc' := 46) rfl (by decide +kernel) ?_
      refine xi_callV (As := [.int (nI 120)]) (rest := []) (c_X7_type l D b (n) (σ := σ16) (S := T17) (N := N) (u := u) (w := w) hST17 hRσ16 (by omega) (x := (nI 120)) (by decide +kernel)) hC dL_scripts_46 (pc' := 49) rfl xw_m_L_107 xw_c_X7_type xw_ins_X7_type xw_sel_X7_type xw_ini_X7 xd_X7_type (xH_at.trans (xsh_7 kd_0)) rfl ⟨Nat.le_of_ble_eq_true rfl, Nat.le_of_ble_eq_true rfl⟩ rfl (Nat.le_of_ble_eq_true rfl) ⟨Nat.le_of_ble_eq_true rfl, Nat.le_of_ble_eq_true rfl⟩ ?_
      rintro _ _ ⟨r19, σ20, rfl, hHσ20, hO22, rfl⟩
      obtain ⟨rT21, T21, hZT21⟩ := ex_type (S := T17) (u := u) (w := w) (x := (nI 120)) hST17.1
      obtain ⟨eT21, hRσ20⟩ := hO22 rT21 T21 hZT21
      have hST21 := SI_type hST17 hZT21
      obtain ⟨hX0T21, hoT21⟩ := TX_type hXT17 (show 2 < 60 by decide) hZT21
      have hXT21 : TX T21 [nI 109, nI 48, nI 120] := hX0T21
      show xV _ _ _ _ _ _ _ _ _ _ _ _ _ _ _ _ _ (xH D b σ20) _ _ [.int r19]
      refine xi_pop hC dL_scripts_49 (pc' := 50) rfl rfl ?_
      refine xi_aload_n hC dL_scripts_50 (pc' := 51) rfl rfl rfl ?_
      refine xi_callV (As := []) (rest := []) (c_X7_run l D b (n) (σ := σ20) (S := T21) (N := N) (u := u) (w := w) hST21 hRσ20 (by omega) ) hC dL_scripts_51 (pc' := 54) rfl xw_m_L_104 xw_c_X7_run xw_ins_X7_run xw_sel_X7_run xw_ini_X7 xd_X7_run (xH_at.trans (xsh_7 kd_0)) rfl ⟨Nat.le_of_ble_eq_true rfl, Nat.le_of_ble_eq_true rfl⟩ rfl (Nat.le_of_ble_eq_true rfl) ⟨Nat.le_of_ble_eq_true rfl, Nat.le_of_ble_eq_true rfl⟩ ?_
      rintro _ _ ⟨r23, σ24, T25, rfl, hHσ24, hqT25, hRσ24, rfl⟩
      obtain ⟨eT25, fT25⟩ := run_2 hXT21 hqT25
      have gT25 := fT25.symm
      subst gT25
      obtain rfl : r23 = (-102) := eT25
      show xV _ _ _ _ _ _ _ _ _ _ _ _ _ _ _ _ _ (xH D b σ24) _ _ [.int (-102)]
      refine xi_bipush (v := -102) hC dL_scripts_54 (pc' := 56) rfl (by decide +kernel) ?_
      refine xi_icmpne (tgt := 63) hC dL_scripts_56 (pc' := 59) rfl (by decide) (fun zc56 => ?_) (fun zc56 => ?_)
      · exact absurd rfl zc56
      · skip
        refine xi_iconst (v := nI 1) hC dL_scripts_59 (pc' := 60) rfl (by decide +kernel) ?_
        refine xi_goto (tgt := 64) hC dL_scripts_60 (by decide) ?_
        refine xi_istore_n (lv' := [some (.ref (b + 0)), some (.int (nI u)), some (.int (nI 1)), some (.int (nI 1)), none, none]) hC dL_scripts_64 (pc' := 65) rfl rfl (by decide) rfl ?_
        refine xi_aload_n hC dL_scripts_65 (pc' := 66) rfl rfl rfl ?_
        refine xi_callV (As := []) (rest := []) (c_X7_clearText l D b (n) (σ := σ24) (S := T21) (N := N) (u := u) (w := w) hST21 hRσ24 (by omega) ) hC dL_scripts_66 (pc' := 69) rfl xw_m_L_101 xw_c_X7_clearText xw_ins_X7_clearText xw_sel_X7_clearText xw_ini_X7 xd_X7_clearText (xH_at.trans (xsh_7 kd_0)) rfl ⟨Nat.le_of_ble_eq_true rfl, Nat.le_of_ble_eq_true rfl⟩ rfl (Nat.le_of_ble_eq_true rfl) ⟨Nat.le_of_ble_eq_true rfl, Nat.le_of_ble_eq_true rfl⟩ ?_
        rintro _ _ ⟨r26, σ27, rfl, hHσ27, hO29, rfl⟩
        obtain ⟨rT28, T28, hZT28⟩ : ∃ r T, s_clear T21 r T := ⟨_, _, rfl, rfl⟩
        obtain ⟨eT28, hRσ27⟩ := hO29 rT28 T28 hZT28
        have hST28 := SI_clear hST21 hZT28
        obtain ⟨hXT28, hoT28⟩ := TX_clear hZT28
        show xV _ _ _ _ _ _ _ _ _ _ _ _ _ _ _ _ _ (xH D b σ27) _ _ [.int r26]
        refine xi_pop hC dL_scripts_69 (pc' := 70) rfl rfl ?_
        obtain ⟨vi, hvi, hV0⟩ := hST28.1.2.2.1 0 (by omega)
        refine xi_aload_n hC dL_scripts_70 (pc' := 71) rfl rfl rfl ?_
        refine xi_iconst (v := nI 0) hC dL_scripts_71 (pc' := 72) rfl (by decide +kernel) ?_
        refine xi_iconst (v := nI 0) hC dL_scripts_72 (pc' := 73) rfl (by decide +kernel) ?_
        refine xi_callV (As := [.int (nI 0), .int (nI 0)]) (rest := []) (c_X7_user l D b (n) (σ := σ27) (S := T28) (N := N) (u := u) (w := w) hST28 hRσ27 (by omega) (x := (nI 0)) (y := (nI 0))) hC dL_scripts_73 (pc' := 76) rfl xw_m_L_18 xw_c_X7_user xw_ins_X7_user xw_sel_X7_user xw_ini_X7 xd_X7_user (xH_at.trans (xsh_7 kd_0)) rfl ⟨Nat.le_of_ble_eq_true rfl, Nat.le_of_ble_eq_true rfl⟩ rfl (Nat.le_of_ble_eq_true rfl) ⟨Nat.le_of_ble_eq_true rfl, Nat.le_of_ble_eq_true rfl⟩ ?_
        rintro _ _ ⟨r30, rfl, hO31, rfl⟩
        obtain rfl : r30 = (nI vi) := hO31 _ (su_0 (by omega) (by omega) hV0)
        show xV _ _ _ _ _ _ _ _ _ _ _ _ _ _ _ _ _ (xH D b σ27) _ _ [.int (nI vi)]
        refine xi_istore (lv' := [some (.ref (b + 0)), some (.int (nI u)), some (.int (nI 1)), some (.int (nI 1)), some (.int (nI vi)), none]) hC dL_scripts_76 (pc' := 78) rfl (by decide) rfl ?_
        refine xi_aload_n hC dL_scripts_78 (pc' := 79) rfl rfl rfl ?_
        refine xi_bipush (v := nI 109) hC dL_scripts_79 (pc' := 81) rfl (by decide +kernel) ?_
        refine xi_callV (As := [.int (nI 109)]) (rest := []) (c_X7_type l D b (n) (σ := σ27) (S := T28) (N := N) (u := u) (w := w) hST28 hRσ27 (by omega) (x := (nI 109)) (by decide +kernel)) hC dL_scripts_81 (pc' := 84) rfl xw_m_L_107 xw_c_X7_type xw_ins_X7_type xw_sel_X7_type xw_ini_X7 xd_X7_type (xH_at.trans (xsh_7 kd_0)) rfl ⟨Nat.le_of_ble_eq_true rfl, Nat.le_of_ble_eq_true rfl⟩ rfl (Nat.le_of_ble_eq_true rfl) ⟨Nat.le_of_ble_eq_true rfl, Nat.le_of_ble_eq_true rfl⟩ ?_
        rintro _ _ ⟨r32, σ33, rfl, hHσ33, hO35, rfl⟩
        obtain ⟨rT34, T34, hZT34⟩ := ex_type (S := T28) (u := u) (w := w) (x := (nI 109)) hST28.1
        obtain ⟨eT34, hRσ33⟩ := hO35 rT34 T34 hZT34
        have hST34 := SI_type hST28 hZT34
        obtain ⟨hX0T34, hoT34⟩ := TX_type hXT28 (show 0 < 60 by decide) hZT34
        have hXT34 : TX T34 [nI 109] := hX0T34
        have hVT34 : T34 m_viewOf 0 = nI vi := by rw [hoT34 _ (by decide) (by decide)]; exact hV0
        show xV _ _ _ _ _ _ _ _ _ _ _ _ _ _ _ _ _ (xH D b σ33) _ _ [.int r32]
        refine xi_pop hC dL_scripts_84 (pc' := 85) rfl rfl ?_
        refine xi_aload_n hC dL_scripts_85 (pc' := 86) rfl rfl rfl ?_
        refine xi_bipush (v := nI 48) hC dL_scripts_86 (pc' := 88) rfl (by decide +kernel) ?_
        refine xi_callV (As := [.int (nI 48)]) (rest := []) (c_X7_type l D b (n) (σ := σ33) (S := T34) (N := N) (u := u) (w := w) hST34 hRσ33 (by omega) (x := (nI 48)) (by decide +kernel)) hC dL_scripts_88 (pc' := 91) rfl xw_m_L_107 xw_c_X7_type xw_ins_X7_type xw_sel_X7_type xw_ini_X7 xd_X7_type (xH_at.trans (xsh_7 kd_0)) rfl ⟨Nat.le_of_ble_eq_true rfl, Nat.le_of_ble_eq_true rfl⟩ rfl (Nat.le_of_ble_eq_true rfl) ⟨Nat.le_of_ble_eq_true rfl, Nat.le_of_ble_eq_true rfl⟩ ?_
        rintro _ _ ⟨r36, σ37, rfl, hHσ37, hO39, rfl⟩
        obtain ⟨rT38, T38, hZT38⟩ := ex_type (S := T34) (u := u) (w := w) (x := (nI 48)) hST34.1
        obtain ⟨eT38, hRσ37⟩ := hO39 rT38 T38 hZT38
        have hST38 := SI_type hST34 hZT38
        obtain ⟨hX0T38, hoT38⟩ := TX_type hXT34 (show 1 < 60 by decide) hZT38
        have hXT38 : TX T38 [nI 109, nI 48] := hX0T38
        have hVT38 : T38 m_viewOf 0 = nI vi := by rw [hoT38 _ (by decide) (by decide)]; exact hVT34
        show xV _ _ _ _ _ _ _ _ _ _ _ _ _ _ _ _ _ (xH D b σ37) _ _ [.int r36]
        refine xi_pop hC dL_scripts_91 (pc' := 92) rfl rfl ?_
        refine xi_aload_n hC dL_scripts_92 (pc' := 93) rfl rfl rfl ?_
        refine xi_bipush (v := nI 48) hC dL_scripts_93 (pc' := 95) rfl (by decide +kernel) ?_
        refine xi_iload hC dL_scripts_95 (pc' := 97) rfl rfl ?_
        refine xn_iadd hC dL_scripts_97 (pc' := 98) rfl ?_
        refine xi_i2c hC dL_scripts_98 (pc' := 99) rfl rfl ?_
        refine xtop (y := nI (48 + vi)) (ch_i2c (by omega)) ?_
        refine xi_callV (As := [.int (nI (48 + vi))]) (rest := []) (c_X7_type l D b (n) (σ := σ37) (S := T38) (N := N) (u := u) (w := w) hST38 hRσ37 (by omega) (x := (nI (48 + vi))) (ch_nar (by omega))) hC dL_scripts_99 (pc' := 102) rfl xw_m_L_107 xw_c_X7_type xw_ins_X7_type xw_sel_X7_type xw_ini_X7 xd_X7_type (xH_at.trans (xsh_7 kd_0)) rfl ⟨Nat.le_of_ble_eq_true rfl, Nat.le_of_ble_eq_true rfl⟩ rfl (Nat.le_of_ble_eq_true rfl) ⟨Nat.le_of_ble_eq_true rfl, Nat.le_of_ble_eq_true rfl⟩ ?_
        rintro _ _ ⟨r40, σ41, rfl, hHσ41, hO43, rfl⟩
        obtain ⟨rT42, T42, hZT42⟩ := ex_type (S := T38) (u := u) (w := w) (x := (nI (48 + vi))) hST38.1
        obtain ⟨eT42, hRσ41⟩ := hO43 rT42 T42 hZT42
        have hST42 := SI_type hST38 hZT42
        obtain ⟨hX0T42, hoT42⟩ := TX_type hXT38 (show 2 < 60 by decide) hZT42
        have hXT42 : TX T42 [nI 109, nI 48, nI (48 + vi)] := hX0T42
        have hVT42 : T42 m_viewOf 0 = nI vi := by rw [hoT42 _ (by decide) (by decide)]; exact hVT38
        show xV _ _ _ _ _ _ _ _ _ _ _ _ _ _ _ _ _ (xH D b σ41) _ _ [.int r40]
        refine xi_pop hC dL_scripts_102 (pc' := 103) rfl rfl ?_
        refine xi_aload_n hC dL_scripts_103 (pc' := 104) rfl rfl rfl ?_
        refine xi_bipush (v := nI 103) hC dL_scripts_104 (pc' := 106) rfl (by decide +kernel) ?_
        refine xi_callV (As := [.int (nI 103)]) (rest := []) (c_X7_type l D b (n) (σ := σ41) (S := T42) (N := N) (u := u) (w := w) hST42 hRσ41 (by omega) (x := (nI 103)) (by decide +kernel)) hC dL_scripts_106 (pc' := 109) rfl xw_m_L_107 xw_c_X7_type xw_ins_X7_type xw_sel_X7_type xw_ini_X7 xd_X7_type (xH_at.trans (xsh_7 kd_0)) rfl ⟨Nat.le_of_ble_eq_true rfl, Nat.le_of_ble_eq_true rfl⟩ rfl (Nat.le_of_ble_eq_true rfl) ⟨Nat.le_of_ble_eq_true rfl, Nat.le_of_ble_eq_true rfl⟩ ?_
        rintro _ _ ⟨r44, σ45, rfl, hHσ45, hO47, rfl⟩
        obtain ⟨rT46, T46, hZT46⟩ := ex_type (S := T42) (u := u) (w := w) (x := (nI 103)) hST42.1
        obtain ⟨eT46, hRσ45⟩ := hO47 rT46 T46 hZT46
        have hST46 := SI_type hST42 hZT46
        obtain ⟨hX0T46, hoT46⟩ := TX_type hXT42 (show 3 < 60 by decide) hZT46
        have hXT46 : TX T46 [nI 109, nI 48, nI (48 + vi), nI 103] := hX0T46
        have hVT46 : T46 m_viewOf 0 = nI vi := by rw [hoT46 _ (by decide) (by decide)]; exact hVT42
        show xV _ _ _ _ _ _ _ _ _ _ _ _ _ _ _ _ _ (xH D b σ45) _ _ [.int r44]
        refine xi_pop hC dL_scripts_109 (pc' := 110) rfl rfl ?_
        refine xi_aload_n hC dL_scripts_110 (pc' := 111) rfl rfl rfl ?_
        refine xi_bipush (v := nI 49) hC dL_scripts_111 (pc' := 113) rfl (by decide +kernel) ?_
        refine xi_callV (As := [.int (nI 49)]) (rest := []) (c_X7_type l D b (n) (σ := σ45) (S := T46) (N := N) (u := u) (w := w) hST46 hRσ45 (by omega) (x := (nI 49)) (by decide +kernel)) hC dL_scripts_113 (pc' := 116) rfl xw_m_L_107 xw_c_X7_type xw_ins_X7_type xw_sel_X7_type xw_ini_X7 xd_X7_type (xH_at.trans (xsh_7 kd_0)) rfl ⟨Nat.le_of_ble_eq_true rfl, Nat.le_of_ble_eq_true rfl⟩ rfl (Nat.le_of_ble_eq_true rfl) ⟨Nat.le_of_ble_eq_true rfl, Nat.le_of_ble_eq_true rfl⟩ ?_
        rintro _ _ ⟨r48, σ49, rfl, hHσ49, hO51, rfl⟩
        obtain ⟨rT50, T50, hZT50⟩ := ex_type (S := T46) (u := u) (w := w) (x := (nI 49)) hST46.1
        obtain ⟨eT50, hRσ49⟩ := hO51 rT50 T50 hZT50
        have hST50 := SI_type hST46 hZT50
        obtain ⟨hX0T50, hoT50⟩ := TX_type hXT46 (show 4 < 60 by decide) hZT50
        have hXT50 : TX T50 [nI 109, nI 48, nI (48 + vi), nI 103, nI 49] := hX0T50
        have hVT50 : T50 m_viewOf 0 = nI vi := by rw [hoT50 _ (by decide) (by decide)]; exact hVT46
        show xV _ _ _ _ _ _ _ _ _ _ _ _ _ _ _ _ _ (xH D b σ49) _ _ [.int r48]
        refine xi_pop hC dL_scripts_116 (pc' := 117) rfl rfl ?_
        refine xi_aload_n hC dL_scripts_117 (pc' := 118) rfl rfl rfl ?_
        refine xi_bipush (v := nI 48) hC dL_scripts_118 (pc' := 120) rfl (by decide +kernel) ?_
        refine xi_callV (As := [.int (nI 48)]) (rest := []) (c_X7_type l D b (n) (σ := σ49) (S := T50) (N := N) (u := u) (w := w) hST50 hRσ49 (by omega) (x := (nI 48)) (by decide +kernel)) hC dL_scripts_120 (pc' := 123) rfl xw_m_L_107 xw_c_X7_type xw_ins_X7_type xw_sel_X7_type xw_ini_X7 xd_X7_type (xH_at.trans (xsh_7 kd_0)) rfl ⟨Nat.le_of_ble_eq_true rfl, Nat.le_of_ble_eq_true rfl⟩ rfl (Nat.le_of_ble_eq_true rfl) ⟨Nat.le_of_ble_eq_true rfl, Nat.le_of_ble_eq_true rfl⟩ ?_
        rintro _ _ ⟨r52, σ53, rfl, hHσ53, hO55, rfl⟩
        obtain ⟨rT54, T54, hZT54⟩ := ex_type (S := T50) (u := u) (w := w) (x := (nI 48)) hST50.1
        obtain ⟨eT54, hRσ53⟩ := hO55 rT54 T54 hZT54
        have hST54 := SI_type hST50 hZT54
        obtain ⟨hX0T54, hoT54⟩ := TX_type hXT50 (show 5 < 60 by decide) hZT54
        have hXT54 : TX T54 [nI 109, nI 48, nI (48 + vi), nI 103, nI 49, nI 48] := hX0T54
        have hVT54 : T54 m_viewOf 0 = nI vi := by rw [hoT54 _ (by decide) (by decide)]; exact hVT50
        show xV _ _ _ _ _ _ _ _ _ _ _ _ _ _ _ _ _ (xH D b σ53) _ _ [.int r52]
        refine xi_pop hC dL_scripts_123 (pc' := 124) rfl rfl ?_
        refine xi_aload_n hC dL_scripts_124 (pc' := 125) rfl rfl rfl ?_
        refine xi_bipush (v := nI 115) hC dL_scripts_125 (pc' := 127) rfl (by decide +kernel) ?_
        refine xi_callV (As := [.int (nI 115)]) (rest := []) (c_X7_type l D b (n) (σ := σ53) (S := T54) (N := N) (u := u) (w := w) hST54 hRσ53 (by omega) (x := (nI 115)) (by decide +kernel)) hC dL_scripts_127 (pc' := 130) rfl xw_m_L_107 xw_c_X7_type xw_ins_X7_type xw_sel_X7_type xw_ini_X7 xd_X7_type (xH_at.trans (xsh_7 kd_0)) rfl ⟨Nat.le_of_ble_eq_true rfl, Nat.le_of_ble_eq_true rfl⟩ rfl (Nat.le_of_ble_eq_true rfl) ⟨Nat.le_of_ble_eq_true rfl, Nat.le_of_ble_eq_true rfl⟩ ?_
        rintro _ _ ⟨r56, σ57, rfl, hHσ57, hO59, rfl⟩
        obtain ⟨rT58, T58, hZT58⟩ := ex_type (S := T54) (u := u) (w := w) (x := (nI 115)) hST54.1
        obtain ⟨eT58, hRσ57⟩ := hO59 rT58 T58 hZT58
        have hST58 := SI_type hST54 hZT58
        obtain ⟨hX0T58, hoT58⟩ := TX_type hXT54 (show 6 < 60 by decide) hZT58
        have hXT58 : TX T58 [nI 109, nI 48, nI (48 + vi), nI 103, nI 49, nI 48, nI 115] := hX0T58
        have hVT58 : T58 m_viewOf 0 = nI vi := by rw [hoT58 _ (by decide) (by decide)]; exact hVT54
        show xV _ _ _ _ _ _ _ _ _ _ _ _ _ _ _ _ _ (xH D b σ57) _ _ [.int r56]
        refine xi_pop hC dL_scripts_130 (pc' := 131) rfl rfl ?_
        refine xi_aload_n hC dL_scripts_131 (pc' := 132) rfl rfl rfl ?_
        refine xi_bipush (v := nI 49) hC dL_scripts_132 (pc' := 134) rfl (by decide +kernel) ?_
        refine xi_callV (As := [.int (nI 49)]) (rest := []) (c_X7_type l D b (n) (σ := σ57) (S := T58) (N := N) (u := u) (w := w) hST58 hRσ57 (by omega) (x := (nI 49)) (by decide +kernel)) hC dL_scripts_134 (pc' := 137) rfl xw_m_L_107 xw_c_X7_type xw_ins_X7_type xw_sel_X7_type xw_ini_X7 xd_X7_type (xH_at.trans (xsh_7 kd_0)) rfl ⟨Nat.le_of_ble_eq_true rfl, Nat.le_of_ble_eq_true rfl⟩ rfl (Nat.le_of_ble_eq_true rfl) ⟨Nat.le_of_ble_eq_true rfl, Nat.le_of_ble_eq_true rfl⟩ ?_
        rintro _ _ ⟨r60, σ61, rfl, hHσ61, hO63, rfl⟩
        obtain ⟨rT62, T62, hZT62⟩ := ex_type (S := T58) (u := u) (w := w) (x := (nI 49)) hST58.1
        obtain ⟨eT62, hRσ61⟩ := hO63 rT62 T62 hZT62
        have hST62 := SI_type hST58 hZT62
        obtain ⟨hX0T62, hoT62⟩ := TX_type hXT58 (show 7 < 60 by decide) hZT62
        have hXT62 : TX T62 [nI 109, nI 48, nI (48 + vi), nI 103, nI 49, nI 48, nI 115, nI 49] := hX0T62
        have hVT62 : T62 m_viewOf 0 = nI vi := by rw [hoT62 _ (by decide) (by decide)]; exact hVT58
        show xV _ _ _ _ _ _ _ _ _ _ _ _ _ _ _ _ _ (xH D b σ61) _ _ [.int r60]
        refine xi_pop hC dL_scripts_137 (pc' := 138) rfl rfl ?_
        refine xi_aload_n hC dL_scripts_138 (pc' := 139) rfl rfl rfl ?_
        refine xi_bipush (v := nI 49) hC dL_scripts_139 (pc' := 141) rfl (by decide +kernel) ?_
        refine xi_callV (As := [.int (nI 49)]) (rest := []) (c_X7_type l D b (n) (σ := σ61) (S := T62) (N := N) (u := u) (w := w) hST62 hRσ61 (by omega) (x := (nI 49)) (by decide +kernel)) hC dL_scripts_141 (pc' := 144) rfl xw_m_L_107 xw_c_X7_type xw_ins_X7_type xw_sel_X7_type xw_ini_X7 xd_X7_type (xH_at.trans (xsh_7 kd_0)) rfl ⟨Nat.le_of_ble_eq_true rfl, Nat.le_of_ble_eq_true rfl⟩ rfl (Nat.le_of_ble_eq_true rfl) ⟨Nat.le_of_ble_eq_true rfl, Nat.le_of_ble_eq_true rfl⟩ ?_
        rintro _ _ ⟨r64, σ65, rfl, hHσ65, hO67, rfl⟩
        obtain ⟨rT66, T66, hZT66⟩ := ex_type (S := T62) (u := u) (w := w) (x := (nI 49)) hST62.1
        obtain ⟨eT66, hRσ65⟩ := hO67 rT66 T66 hZT66
        have hST66 := SI_type hST62 hZT66
        obtain ⟨hX0T66, hoT66⟩ := TX_type hXT62 (show 8 < 60 by decide) hZT66
        have hXT66 : TX T66 [nI 109, nI 48, nI (48 + vi), nI 103, nI 49, nI 48, nI 115, nI 49, nI 49] := hX0T66
        have hVT66 : T66 m_viewOf 0 = nI vi := by rw [hoT66 _ (by decide) (by decide)]; exact hVT62
        show xV _ _ _ _ _ _ _ _ _ _ _ _ _ _ _ _ _ (xH D b σ65) _ _ [.int r64]
        refine xi_pop hC dL_scripts_144 (pc' := 145) rfl rfl ?_
        refine xi_aload_n hC dL_scripts_145 (pc' := 146) rfl rfl rfl ?_
        refine xi_bipush (v := nI 109) hC dL_scripts_146 (pc' := 148) rfl (by decide +kernel) ?_
        refine xi_callV (As := [.int (nI 109)]) (rest := []) (c_X7_type l D b (n) (σ := σ65) (S := T66) (N := N) (u := u) (w := w) hST66 hRσ65 (by omega) (x := (nI 109)) (by decide +kernel)) hC dL_scripts_148 (pc' := 151) rfl xw_m_L_107 xw_c_X7_type xw_ins_X7_type xw_sel_X7_type xw_ini_X7 xd_X7_type (xH_at.trans (xsh_7 kd_0)) rfl ⟨Nat.le_of_ble_eq_true rfl, Nat.le_of_ble_eq_true rfl⟩ rfl (Nat.le_of_ble_eq_true rfl) ⟨Nat.le_of_ble_eq_true rfl, Nat.le_of_ble_eq_true rfl⟩ ?_
        rintro _ _ ⟨r68, σ69, rfl, hHσ69, hO71, rfl⟩
        obtain ⟨rT70, T70, hZT70⟩ := ex_type (S := T66) (u := u) (w := w) (x := (nI 109)) hST66.1
        obtain ⟨eT70, hRσ69⟩ := hO71 rT70 T70 hZT70
        have hST70 := SI_type hST66 hZT70
        obtain ⟨hX0T70, hoT70⟩ := TX_type hXT66 (show 9 < 60 by decide) hZT70
        have hXT70 : TX T70 [nI 109, nI 48, nI (48 + vi), nI 103, nI 49, nI 48, nI 115, nI 49, nI 49, nI 109] := hX0T70
        have hVT70 : T70 m_viewOf 0 = nI vi := by rw [hoT70 _ (by decide) (by decide)]; exact hVT66
        show xV _ _ _ _ _ _ _ _ _ _ _ _ _ _ _ _ _ (xH D b σ69) _ _ [.int r68]
        refine xi_pop hC dL_scripts_151 (pc' := 152) rfl rfl ?_
        refine xi_aload_n hC dL_scripts_152 (pc' := 153) rfl rfl rfl ?_
        refine xi_bipush (v := nI 48) hC dL_scripts_153 (pc' := 155) rfl (by decide +kernel) ?_
        refine xi_callV (As := [.int (nI 48)]) (rest := []) (c_X7_type l D b (n) (σ := σ69) (S := T70) (N := N) (u := u) (w := w) hST70 hRσ69 (by omega) (x := (nI 48)) (by decide +kernel)) hC dL_scripts_155 (pc' := 158) rfl xw_m_L_107 xw_c_X7_type xw_ins_X7_type xw_sel_X7_type xw_ini_X7 xd_X7_type (xH_at.trans (xsh_7 kd_0)) rfl ⟨Nat.le_of_ble_eq_true rfl, Nat.le_of_ble_eq_true rfl⟩ rfl (Nat.le_of_ble_eq_true rfl) ⟨Nat.le_of_ble_eq_true rfl, Nat.le_of_ble_eq_true rfl⟩ ?_
        rintro _ _ ⟨r72, σ73, rfl, hHσ73, hO75, rfl⟩
        obtain ⟨rT74, T74, hZT74⟩ := ex_type (S := T70) (u := u) (w := w) (x := (nI 48)) hST70.1
        obtain ⟨eT74, hRσ73⟩ := hO75 rT74 T74 hZT74
        have hST74 := SI_type hST70 hZT74
        obtain ⟨hX0T74, hoT74⟩ := TX_type hXT70 (show 10 < 60 by decide) hZT74
        have hXT74 : TX T74 [nI 109, nI 48, nI (48 + vi), nI 103, nI 49, nI 48, nI 115, nI 49, nI 49, nI 109, nI 48] := hX0T74
        have hVT74 : T74 m_viewOf 0 = nI vi := by rw [hoT74 _ (by decide) (by decide)]; exact hVT70
        show xV _ _ _ _ _ _ _ _ _ _ _ _ _ _ _ _ _ (xH D b σ73) _ _ [.int r72]
        refine xi_pop hC dL_scripts_158 (pc' := 159) rfl rfl ?_
        refine xi_aload_n hC dL_scripts_159 (pc' := 160) rfl rfl rfl ?_
        refine xi_bipush (v := nI 48) hC dL_scripts_160 (pc' := 162) rfl (by decide +kernel) ?_
        refine xi_callV (As := [.int (nI 48)]) (rest := []) (c_X7_type l D b (n) (σ := σ73) (S := T74) (N := N) (u := u) (w := w) hST74 hRσ73 (by omega) (x := (nI 48)) (by decide +kernel)) hC dL_scripts_162 (pc' := 165) rfl xw_m_L_107 xw_c_X7_type xw_ins_X7_type xw_sel_X7_type xw_ini_X7 xd_X7_type (xH_at.trans (xsh_7 kd_0)) rfl ⟨Nat.le_of_ble_eq_true rfl, Nat.le_of_ble_eq_true rfl⟩ rfl (Nat.le_of_ble_eq_true rfl) ⟨Nat.le_of_ble_eq_true rfl, Nat.le_of_ble_eq_true rfl⟩ ?_
        rintro _ _ ⟨r76, σ77, rfl, hHσ77, hO79, rfl⟩
        obtain ⟨rT78, T78, hZT78⟩ := ex_type (S := T74) (u := u) (w := w) (x := (nI 48)) hST74.1
        obtain ⟨eT78, hRσ77⟩ := hO79 rT78 T78 hZT78
        have hST78 := SI_type hST74 hZT78
        obtain ⟨hX0T78, hoT78⟩ := TX_type hXT74 (show 11 < 60 by decide) hZT78
        have hXT78 : TX T78 [nI 109, nI 48, nI (48 + vi), nI 103, nI 49, nI 48, nI 115, nI 49, nI 49, nI 109, nI 48, nI 48] := hX0T78
        have hVT78 : T78 m_viewOf 0 = nI vi := by rw [hoT78 _ (by decide) (by decide)]; exact hVT74
        show xV _ _ _ _ _ _ _ _ _ _ _ _ _ _ _ _ _ (xH D b σ77) _ _ [.int r76]
        refine xi_pop hC dL_scripts_165 (pc' := 166) rfl rfl ?_
        refine xi_aload_n hC dL_scripts_166 (pc' := 167) rfl rfl rfl ?_
        refine xi_callV (As := []) (rest := []) (c_X7_run l D b (n) (σ := σ77) (S := T78) (N := N) (u := u) (w := w) hST78 hRσ77 (by omega) ) hC dL_scripts_167 (pc' := 170) rfl xw_m_L_104 xw_c_X7_run xw_ins_X7_run xw_sel_X7_run xw_ini_X7 xd_X7_run (xH_at.trans (xsh_7 kd_0)) rfl ⟨Nat.le_of_ble_eq_true rfl, Nat.le_of_ble_eq_true rfl⟩ rfl (Nat.le_of_ble_eq_true rfl) ⟨Nat.le_of_ble_eq_true rfl, Nat.le_of_ble_eq_true rfl⟩ ?_
        rintro _ _ ⟨r80, σ81, T82, rfl, hHσ81, hqT82, hRσ81, rfl⟩
        obtain ⟨eT82, fT82⟩ := run_4 (by omega) (by omega) hvi (by omega) hVT78 hXT78 hqT82
        have hST82 := SI_run hST78 hqT82
        have hXT82 : TX T82 [nI 109, nI 48, nI (48 + vi), nI 103, nI 49, nI 48, nI 115, nI 49, nI 49, nI 109, nI 48, nI 48] := ⟨by rw [fT82, sw_n (by decide)]; exact hXT78.1, fun j hj => by rw [fT82, sw_n (by decide)]; exact hXT78.2 j hj⟩
        have hVT82 : T82 m_viewOf 0 = nI vi := by rw [fT82, sw_s]
        obtain rfl : r80 = (nI 2) := eT82
        show xV _ _ _ _ _ _ _ _ _ _ _ _ _ _ _ _ _ (xH D b σ81) _ _ [.int (nI 2)]
        refine xi_istore (lv' := [some (.ref (b + 0)), some (.int (nI u)), some (.int (nI 1)), some (.int (nI 1)), some (.int (nI vi)), some (.int (nI 2))]) hC dL_scripts_170 (pc' := 172) rfl (by decide) rfl ?_
        refine xi_aload_n hC dL_scripts_172 (pc' := 173) rfl rfl rfl ?_
        refine xi_bipush (v := nI 113) hC dL_scripts_173 (pc' := 175) rfl (by decide +kernel) ?_
        refine xi_callV (As := [.int (nI 113)]) (rest := []) (c_X7_type l D b (n) (σ := σ81) (S := T82) (N := (N + 20)) (u := u) (w := w) hST82 hRσ81 (by omega) (x := (nI 113)) (by decide +kernel)) hC dL_scripts_175 (pc' := 178) rfl xw_m_L_107 xw_c_X7_type xw_ins_X7_type xw_sel_X7_type xw_ini_X7 xd_X7_type (xH_at.trans (xsh_7 kd_0)) rfl ⟨Nat.le_of_ble_eq_true rfl, Nat.le_of_ble_eq_true rfl⟩ rfl (Nat.le_of_ble_eq_true rfl) ⟨Nat.le_of_ble_eq_true rfl, Nat.le_of_ble_eq_true rfl⟩ ?_
        rintro _ _ ⟨r83, σ84, rfl, hHσ84, hO86, rfl⟩
        obtain ⟨rT85, T85, hZT85⟩ := ex_type (S := T82) (u := u) (w := w) (x := (nI 113)) hST82.1
        obtain ⟨eT85, hRσ84⟩ := hO86 rT85 T85 hZT85
        have hST85 := SI_type hST82 hZT85
        obtain ⟨hX0T85, hoT85⟩ := TX_type hXT82 (show 12 < 60 by decide) hZT85
        have hXT85 : TX T85 [nI 109, nI 48, nI (48 + vi), nI 103, nI 49, nI 48, nI 115, nI 49, nI 49, nI 109, nI 48, nI 48, nI 113] := hX0T85
        have hVT85 : T85 m_viewOf 0 = nI vi := by rw [hoT85 _ (by decide) (by decide)]; exact hVT82
        show xV _ _ _ _ _ _ _ _ _ _ _ _ _ _ _ _ _ (xH D b σ84) _ _ [.int r83]
        refine xi_pop hC dL_scripts_178 (pc' := 179) rfl rfl ?_
        refine xi_iload_n hC dL_scripts_179 (pc' := 180) rfl rfl rfl ?_
        refine xn_ifeq (tgt := 217) hC dL_scripts_180 (pc' := 183) rfl (by decide) (by omega) (fun zc180 => ?_) (fun zc180 => ?_)
        · exact absurd zc180 (by decide)
        · skip
          refine xi_iload_n hC dL_scripts_183 (pc' := 184) rfl rfl rfl ?_
          refine xn_ifeq (tgt := 217) hC dL_scripts_184 (pc' := 187) rfl (by decide) (by omega) (fun zc184 => ?_) (fun zc184 => ?_)
          · exact absurd zc184 (by decide)
          · skip
            refine xi_iload hC dL_scripts_187 (pc' := 189) rfl rfl ?_
            refine xi_iconst (v := nI 2) hC dL_scripts_189 (pc' := 190) rfl (by decide +kernel) ?_
            refine xn_icmpne (tgt := 217) hC dL_scripts_190 (pc' := 193) rfl (by decide) (by omega) (by omega) (fun zc190 => ?_) (fun zc190 => ?_)
            · exact absurd zc190 (by decide)
            · skip
              refine xi_aload_n hC dL_scripts_193 (pc' := 194) rfl rfl rfl ?_
              refine xi_iconst (v := nI 0) hC dL_scripts_194 (pc' := 195) rfl (by decide +kernel) ?_
              refine xi_iconst (v := nI 0) hC dL_scripts_195 (pc' := 196) rfl (by decide +kernel) ?_
              refine xi_callV (As := [.int (nI 0), .int (nI 0)]) (rest := []) (c_X7_user l D b (n) (σ := σ84) (S := T85) (N := (N + 20)) (u := u) (w := w) hST85 hRσ84 (by omega) (x := (nI 0)) (y := (nI 0))) hC dL_scripts_196 (pc' := 199) rfl xw_m_L_18 xw_c_X7_user xw_ins_X7_user xw_sel_X7_user xw_ini_X7 xd_X7_user (xH_at.trans (xsh_7 kd_0)) rfl ⟨Nat.le_of_ble_eq_true rfl, Nat.le_of_ble_eq_true rfl⟩ rfl (Nat.le_of_ble_eq_true rfl) ⟨Nat.le_of_ble_eq_true rfl, Nat.le_of_ble_eq_true rfl⟩ ?_
              rintro _ _ ⟨r87, rfl, hO88, rfl⟩
              obtain rfl : r87 = (nI vi) := hO88 _ (su_0 (by omega) (by omega) hVT85)
              show xV _ _ _ _ _ _ _ _ _ _ _ _ _ _ _ _ _ (xH D b σ84) _ _ [.int (nI vi)]
              refine xi_iload hC dL_scripts_199 (pc' := 201) rfl rfl ?_
              refine xi_icmpne (tgt := 217) hC dL_scripts_201 (pc' := 204) rfl (by decide) (fun zc201 => ?_) (fun zc201 => ?_)
              · exact absurd rfl zc201
              · skip
                refine xi_aload_n hC dL_scripts_204 (pc' := 205) rfl rfl rfl ?_
                refine xi_callV (As := []) (rest := []) (c_X7_run l D b (n) (σ := σ84) (S := T85) (N := (N + 20)) (u := u) (w := w) hST85 hRσ84 (by omega) ) hC dL_scripts_205 (pc' := 208) rfl xw_m_L_104 xw_c_X7_run xw_ins_X7_run xw_sel_X7_run xw_ini_X7 xd_X7_run (xH_at.trans (xsh_7 kd_0)) rfl ⟨Nat.le_of_ble_eq_true rfl, Nat.le_of_ble_eq_true rfl⟩ rfl (Nat.le_of_ble_eq_true rfl) ⟨Nat.le_of_ble_eq_true rfl, Nat.le_of_ble_eq_true rfl⟩ ?_
                rintro _ _ ⟨r89, σ90, T91, rfl, hHσ90, hqT91, hRσ90, rfl⟩
                obtain ⟨eT91, fT91⟩ := run_q (v := vi) (by omega) hXT85 hqT91
                have gT91 := fT91.symm
                subst gT91
                obtain rfl : r89 = (-112) := eT91
                show xV _ _ _ _ _ _ _ _ _ _ _ _ _ _ _ _ _ (xH D b σ90) _ _ [.int (-112)]
                refine xi_bipush (v := -112) hC dL_scripts_208 (pc' := 210) rfl (by decide +kernel) ?_
                refine xi_icmpne (tgt := 217) hC dL_scripts_210 (pc' := 213) rfl (by decide) (fun zc210 => ?_) (fun zc210 => ?_)
                · exact absurd rfl zc210
                · skip
                  refine xi_iconst (v := nI 1) hC dL_scripts_213 (pc' := 214) rfl (by decide +kernel) ?_
                  refine xi_goto (tgt := 218) hC dL_scripts_214 (by decide) ?_
                  refine xb_ireturn hC dL_scripts_218 hr (by decide) rfl ?_
                  exact ⟨σ90, T85, rfl, hST85, hRσ90, rfl⟩
  · exact absurd zc9 (by decide)
