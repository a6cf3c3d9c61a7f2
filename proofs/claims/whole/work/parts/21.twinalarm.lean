set_option maxRecDepth 100000 in
set_option maxHeartbeats 4000000 in
theorem c_X8_alarmFor (l : Launch) (D : XD) (b n : Nat) {C S : XM} {u v i : Nat} (hU : MU S u) (hV : S m_viewOf i = nI v) (hv : v < 6) (hi : i < 5) : xM l yX8_alarmFor cX8_alarmFor 5 (some .int) 3 73 0 0 D b n [.ref (b + oMod), .int (nI i)] (xH D b (jn C S)) n (fun y h' => ∃ T : XM, y = some (.int (nI (al S u v i))) ∧ Sp S T ∧ (al S u v i = 2 → ∃ a c, fstP u u (rV S v) a c ∧ T oMod 20 = nI a ∧ T oMod 21 = nI c) ∧ h' = xH D b (jn C T)) := by
  refine xM.of (lv := [some (.ref (b + oMod)), some (.int (nI i)), none, none, none]) (by decide +kernel) rfl (List.forall_mem_cons.mpr ⟨rfl, List.forall_mem_cons.mpr ⟨rfl, fun _ h => absurd h List.not_mem_nil⟩⟩) (Nat.le_of_ble_eq_true rfl) rfl ?_
  intro p e s m args below meth c hC hr hnm
  obtain ⟨hu, hu2, hu5⟩ := id hU
  refine xi_aload_n hC dX8_alarmFor_0 (pc' := 1) rfl rfl rfl ?_
  refine xg8_viewOf hC dX8_alarmFor_1 (pc' := 4) rfl xw_f_X8_19 kd_oMod ?_
  refine xi_iload_n hC dX8_alarmFor_4 (pc' := 5) rfl rfl rfl ?_
  refine xt_l_i hC dX8_alarmFor_5 (pc' := 6) rfl (N := 5) kd_m_viewOf (by decide) (by decide) rfl (by omega) ?_
  refine xtop (y := (nI v)) (hV) ?_
  refine xi_istore_n (lv' := [some (.ref (b + oMod)), some (.int (nI i)), some (.int (nI v)), none, none]) hC dX8_alarmFor_6 (pc' := 7) rfl rfl (by decide) rfl ?_
  refine xi_aload_n hC dX8_alarmFor_7 (pc' := 8) rfl rfl rfl ?_
  refine xi_aload_n hC dX8_alarmFor_8 (pc' := 9) rfl rfl rfl ?_
  refine xg8_row hC dX8_alarmFor_9 (pc' := 12) rfl xw_f_X8_7 kd_oMod ?_
  refine xi_iload_n hC dX8_alarmFor_12 (pc' := 13) rfl rfl rfl ?_
  refine xi_iload_n hC dX8_alarmFor_13 (pc' := 14) rfl rfl rfl ?_
  refine xi_callS (As := [.int (nI v), .int (nI i)]) (rest := [.ref (b + m_row), .ref (b + oMod)]) (c_X8_entryAt l D b n (C := C) (S := S) (a := v) (c := i)) hC dX8_alarmFor_14 (pc' := 17) rfl xw_m_X8_94 xw_c_X8_entryAt xw_sta_X8_entryAt xw_ini_X8 xd_X8_entryAt ⟨Nat.le_of_ble_eq_true rfl, Nat.le_of_ble_eq_true rfl⟩ rfl (Nat.le_of_ble_eq_true rfl) ⟨Nat.le_of_ble_eq_true rfl, Nat.le_of_ble_eq_true rfl⟩ ?_
  rintro _ _ ⟨rfl, rfl⟩
  show xV _ _ _ _ _ _ _ _ _ _ _ _ _ _ _ _ _ (xH D b (jn C S)) _ _ [.int (nI (30 * v + 5 * i)), .ref (b + m_row), .ref (b + oMod)]
  refine xi_aload_n hC dX8_alarmFor_17 (pc' := 18) rfl rfl rfl ?_
  refine xg8_signedOf hC dX8_alarmFor_18 (pc' := 21) rfl xw_f_X8_35 kd_oMod ?_
  refine xi_iconst (v := nI 5) hC dX8_alarmFor_21 (pc' := 22) rfl (by decide +kernel) ?_
  refine xi_iload_n hC dX8_alarmFor_22 (pc' := 23) rfl rfl rfl ?_
  refine xn_imul hC dX8_alarmFor_23 (pc' := 24) rfl ?_
  refine xi_callV (As := [.ref (b + m_row), .int (nI (30 * v + 5 * i)), .ref (b + m_signedOf), .int (nI (5 * i))]) (rest := []) (c_X8_atMost l D b n (C := C) (S := S) (u := u) (oa := m_row) (Na := 180) (ob := m_signedOf) (Nb := 25) (fa := 30 * v + 5 * i) (fb := 5 * i) hU kd_m_row (by decide) (by decide) kd_m_signedOf (by decide) (by decide) (by have := bst_lt (S := S) (u := u) (v := v) (by omega); omega) (by have := bst_lt (S := S) (u := u) (v := v) (by omega); omega) ) hC dX8_alarmFor_24 (pc' := 27) rfl xw_m_X8_87 xw_c_X8_atMost xw_ins_X8_atMost xw_sel_X8_atMost xw_ini_X8 xd_X8_atMost (xH_at.trans (xsh_8 kd_oMod)) rfl ⟨Nat.le_of_ble_eq_true rfl, Nat.le_of_ble_eq_true rfl⟩ rfl (Nat.le_of_ble_eq_true rfl) ⟨Nat.le_of_ble_eq_true rfl, Nat.le_of_ble_eq_true rfl⟩ ?_
  rintro _ _ ⟨rfl, rfl⟩
  show xV _ _ _ _ _ _ _ _ _ _ _ _ _ _ _ _ _ (xH D b (jn C S)) _ _ [.int (bI (vle u (sl (S m_row) (30 * v + 5 * i)) (sl (S m_signedOf) (5 * i))))]
  refine xb_ifeq (tgt := 57) hC dX8_alarmFor_27 (pc' := 30) rfl (by decide) (fun zc27 => ?_) (fun zc27 => ?_)
  · skip
    refine xi_iconst (v := nI 0) hC dX8_alarmFor_57 (pc' := 58) rfl (by decide +kernel) ?_
    refine xi_istore_n (lv' := [some (.ref (b + oMod)), some (.int (nI i)), some (.int (nI v)), some (.int (nI 0)), none]) hC dX8_alarmFor_58 (pc' := 59) rfl rfl (by decide) rfl ?_
    refine xi_iload_n hC dX8_alarmFor_59 (pc' := 60) rfl rfl rfl ?_
    refine xn_ifne (tgt := 65) hC dX8_alarmFor_60 (pc' := 63) rfl (by decide) (by omega) (fun zc60 => ?_) (fun zc60 => ?_)
    · exact absurd zc60 (by decide)
    · skip
      refine xi_iconst (v := nI 1) hC dX8_alarmFor_63 (pc' := 64) rfl (by decide +kernel) ?_
      refine xi_ireturn hC dX8_alarmFor_64 hr rfl ?_
      exact ⟨S, by rw [al_1 (fun z => by first | exact zc27 z.1 | exact zc50 z.2)], Sp.rf, fun z => absurd (z.symm.trans (al_1 (fun z => by first | exact zc27 z.1 | exact zc50 z.2))) (by decide), rfl⟩
  · skip
    refine xi_aload_n hC dX8_alarmFor_30 (pc' := 31) rfl rfl rfl ?_
    refine xi_aload_n hC dX8_alarmFor_31 (pc' := 32) rfl rfl rfl ?_
    refine xg8_signedOf hC dX8_alarmFor_32 (pc' := 35) rfl xw_f_X8_35 kd_oMod ?_
    refine xi_iconst (v := nI 5) hC dX8_alarmFor_35 (pc' := 36) rfl (by decide +kernel) ?_
    refine xi_iload_n hC dX8_alarmFor_36 (pc' := 37) rfl rfl rfl ?_
    refine xn_imul hC dX8_alarmFor_37 (pc' := 38) rfl ?_
    refine xi_aload_n hC dX8_alarmFor_38 (pc' := 39) rfl rfl rfl ?_
    refine xg8_row hC dX8_alarmFor_39 (pc' := 42) rfl xw_f_X8_7 kd_oMod ?_
    refine xi_iload_n hC dX8_alarmFor_42 (pc' := 43) rfl rfl rfl ?_
    refine xi_iload_n hC dX8_alarmFor_43 (pc' := 44) rfl rfl rfl ?_
    refine xi_callS (As := [.int (nI v), .int (nI i)]) (rest := [.ref (b + m_row), .int (nI (5 * i)), .ref (b + m_signedOf), .ref (b + oMod)]) (c_X8_entryAt l D b n (C := C) (S := S) (a := v) (c := i)) hC dX8_alarmFor_44 (pc' := 47) rfl xw_m_X8_94 xw_c_X8_entryAt xw_sta_X8_entryAt xw_ini_X8 xd_X8_entryAt ⟨Nat.le_of_ble_eq_true rfl, Nat.le_of_ble_eq_true rfl⟩ rfl (Nat.le_of_ble_eq_true rfl) ⟨Nat.le_of_ble_eq_true rfl, Nat.le_of_ble_eq_true rfl⟩ ?_
    rintro _ _ ⟨rfl, rfl⟩
    show xV _ _ _ _ _ _ _ _ _ _ _ _ _ _ _ _ _ (xH D b (jn C S)) _ _ [.int (nI (30 * v + 5 * i)), .ref (b + m_row), .int (nI (5 * i)), .ref (b + m_signedOf), .ref (b + oMod)]
    refine xi_callV (As := [.ref (b + m_signedOf), .int (nI (5 * i)), .ref (b + m_row), .int (nI (30 * v + 5 * i))]) (rest := []) (c_X8_atMost l D b n (C := C) (S := S) (u := u) (oa := m_signedOf) (Na := 25) (ob := m_row) (Nb := 180) (fa := 5 * i) (fb := 30 * v + 5 * i) hU kd_m_signedOf (by decide) (by decide) kd_m_row (by decide) (by decide) (by have := bst_lt (S := S) (u := u) (v := v) (by omega); omega) (by have := bst_lt (S := S) (u := u) (v := v) (by omega); omega) ) hC dX8_alarmFor_47 (pc' := 50) rfl xw_m_X8_87 xw_c_X8_atMost xw_ins_X8_atMost xw_sel_X8_atMost xw_ini_X8 xd_X8_atMost (xH_at.trans (xsh_8 kd_oMod)) rfl ⟨Nat.le_of_ble_eq_true rfl, Nat.le_of_ble_eq_true rfl⟩ rfl (Nat.le_of_ble_eq_true rfl) ⟨Nat.le_of_ble_eq_true rfl, Nat.le_of_ble_eq_true rfl⟩ ?_
    rintro _ _ ⟨rfl, rfl⟩
    show xV _ _ _ _ _ _ _ _ _ _ _ _ _ _ _ _ _ (xH D b (jn C S)) _ _ [.int (bI (vle u (sl (S m_signedOf) (5 * i)) (sl (S m_row) (30 * v + 5 * i))))]
    refine xb_ifeq (tgt := 57) hC dX8_alarmFor_50 (pc' := 53) rfl (by decide) (fun zc50 => ?_) (fun zc50 => ?_)
    · skip
      refine xi_iconst (v := nI 0) hC dX8_alarmFor_57 (pc' := 58) rfl (by decide +kernel) ?_
      refine xi_istore_n (lv' := [some (.ref (b + oMod)), some (.int (nI i)), some (.int (nI v)), some (.int (nI 0)), none]) hC dX8_alarmFor_58 (pc' := 59) rfl rfl (by decide) rfl ?_
      refine xi_iload_n hC dX8_alarmFor_59 (pc' := 60) rfl rfl rfl ?_
      refine xn_ifne (tgt := 65) hC dX8_alarmFor_60 (pc' := 63) rfl (by decide) (by omega) (fun zc60 => ?_) (fun zc60 => ?_)
      · exact absurd zc60 (by decide)
      · skip
        refine xi_iconst (v := nI 1) hC dX8_alarmFor_63 (pc' := 64) rfl (by decide +kernel) ?_
        refine xi_ireturn hC dX8_alarmFor_64 hr rfl ?_
        exact ⟨S, by rw [al_1 (fun z => by first | exact zc27 z.1 | exact zc50 z.2)], Sp.rf, fun z => absurd (z.symm.trans (al_1 (fun z => by first | exact zc27 z.1 | exact zc50 z.2))) (by decide), rfl⟩
    · skip
      refine xi_iconst (v := nI 1) hC dX8_alarmFor_53 (pc' := 54) rfl (by decide +kernel) ?_
      refine xi_goto (tgt := 58) hC dX8_alarmFor_54 (by decide) ?_
      refine xi_istore_n (lv' := [some (.ref (b + oMod)), some (.int (nI i)), some (.int (nI v)), some (.int (nI 1)), none]) hC dX8_alarmFor_58 (pc' := 59) rfl rfl (by decide) rfl ?_
      refine xi_iload_n hC dX8_alarmFor_59 (pc' := 60) rfl rfl rfl ?_
      refine xn_ifne (tgt := 65) hC dX8_alarmFor_60 (pc' := 63) rfl (by decide) (by omega) (fun zc60 => ?_) (fun zc60 => ?_)
      · skip
        refine xi_aload_n hC dX8_alarmFor_65 (pc' := 66) rfl rfl rfl ?_
        refine xi_iload_n hC dX8_alarmFor_66 (pc' := 67) rfl rfl rfl ?_
        refine xi_callV (As := [.int (nI v)]) (rest := []) (c_X8_greatest l D b n (C := C) (S := S) (u := u) (v := v) hU (by omega)) hC dX8_alarmFor_67 (pc' := 70) rfl xw_m_X8_104 xw_c_X8_greatest xw_ins_X8_greatest xw_sel_X8_greatest xw_ini_X8 xd_X8_greatest (xH_at.trans (xsh_8 kd_oMod)) rfl ⟨Nat.le_of_ble_eq_true rfl, Nat.le_of_ble_eq_true rfl⟩ rfl (Nat.le_of_ble_eq_true rfl) ⟨Nat.le_of_ble_eq_true rfl, Nat.le_of_ble_eq_true rfl⟩ ?_
        rintro _ _ ⟨xg_2, T_1, rfl, hSp_3, hG_4, rfl⟩
        show xV _ _ _ _ _ _ _ _ _ _ _ _ _ _ _ _ _ (xH D b (jn C T_1)) _ _ [.int xg_2]
        rcases hG_4 with ⟨a, c, q1, q2, q3, rfl⟩ | ⟨q1, rfl⟩
        · skip
          refine xi_istore (lv' := [some (.ref (b + oMod)), some (.int (nI i)), some (.int (nI v)), some (.int (nI 1)), some (.int (-10005))]) hC dX8_alarmFor_70 (pc' := 72) rfl (by decide) rfl ?_
          refine xi_iload hC dX8_alarmFor_72 (pc' := 74) rfl rfl ?_
          refine xi_ifge (tgt := 79) hC dX8_alarmFor_74 (pc' := 77) rfl (by decide) (fun zc74 => ?_) (fun zc74 => ?_)
          · exact absurd zc74 (by decide)
          · skip
            refine xi_iconst (v := nI 2) hC dX8_alarmFor_77 (pc' := 78) rfl (by decide +kernel) ?_
            refine xi_ireturn hC dX8_alarmFor_78 hr rfl ?_
            exact ⟨_, by rw [al_2 ⟨zc27, zc50⟩ (fst_fkd q1)], hSp_3, fun _ => ⟨a, c, q1, q2, q3⟩, rfl⟩
        · skip
          have hbl := bst_lt (S := S) (u := u) (v := v) (by omega)
          refine xi_istore (lv' := [some (.ref (b + oMod)), some (.int (nI i)), some (.int (nI v)), some (.int (nI 1)), some (.int (nI (bst S u v)))]) hC dX8_alarmFor_70 (pc' := 72) rfl (by decide) rfl ?_
          refine xi_iload hC dX8_alarmFor_72 (pc' := 74) rfl rfl ?_
          refine xn_ifge (tgt := 79) hC dX8_alarmFor_74 (pc' := 77) rfl (by decide) (by omega) (fun zc74 => ?_) (fun zc74 => ?_)
          · skip
            refine xi_aload_n hC dX8_alarmFor_79 (pc' := 80) rfl rfl rfl ?_
            refine xi_aload_n hC dX8_alarmFor_80 (pc' := 81) rfl rfl rfl ?_
            refine xg8_knownOf hC dX8_alarmFor_81 (pc' := 84) rfl xw_f_X8_38 kd_oMod ?_
            refine xi_iconst (v := nI 5) hC dX8_alarmFor_84 (pc' := 85) rfl (by decide +kernel) ?_
            refine xi_iload_n hC dX8_alarmFor_85 (pc' := 86) rfl rfl rfl ?_
            refine xn_imul hC dX8_alarmFor_86 (pc' := 87) rfl ?_
            refine xi_aload_n hC dX8_alarmFor_87 (pc' := 88) rfl rfl rfl ?_
            refine xg8_row hC dX8_alarmFor_88 (pc' := 91) rfl xw_f_X8_7 kd_oMod ?_
            refine xi_iload_n hC dX8_alarmFor_91 (pc' := 92) rfl rfl rfl ?_
            refine xi_iload hC dX8_alarmFor_92 (pc' := 94) rfl rfl ?_
            refine xi_callS (As := [.int (nI v), .int (nI (bst S u v))]) (rest := [.ref (b + m_row), .int (nI (5 * i)), .ref (b + m_knownOf), .ref (b + oMod)]) (c_X8_entryAt l D b n (C := C) (S := T_1) (a := v) (c := bst S u v)) hC dX8_alarmFor_94 (pc' := 97) rfl xw_m_X8_94 xw_c_X8_entryAt xw_sta_X8_entryAt xw_ini_X8 xd_X8_entryAt ⟨Nat.le_of_ble_eq_true rfl, Nat.le_of_ble_eq_true rfl⟩ rfl (Nat.le_of_ble_eq_true rfl) ⟨Nat.le_of_ble_eq_true rfl, Nat.le_of_ble_eq_true rfl⟩ ?_
            rintro _ _ ⟨rfl, rfl⟩
            show xV _ _ _ _ _ _ _ _ _ _ _ _ _ _ _ _ _ (xH D b (jn C T_1)) _ _ [.int (nI (30 * v + 5 * (bst S u v))), .ref (b + m_row), .int (nI (5 * i)), .ref (b + m_knownOf), .ref (b + oMod)]
            refine xi_callV (As := [.ref (b + m_knownOf), .int (nI (5 * i)), .ref (b + m_row), .int (nI (30 * v + 5 * (bst S u v)))]) (rest := []) (c_X8_atMost l D b n (C := C) (S := T_1) (u := u) (oa := m_knownOf) (Na := 25) (ob := m_row) (Nb := 180) (fa := 5 * i) (fb := 30 * v + 5 * (bst S u v)) (hSp_3.mu hU) kd_m_knownOf (by decide) (by decide) kd_m_row (by decide) (by decide) (by have := bst_lt (S := S) (u := u) (v := v) (by omega); omega) (by have := bst_lt (S := S) (u := u) (v := v) (by omega); omega) ) hC dX8_alarmFor_97 (pc' := 100) rfl xw_m_X8_87 xw_c_X8_atMost xw_ins_X8_atMost xw_sel_X8_atMost xw_ini_X8 xd_X8_atMost (xH_at.trans (xsh_8 kd_oMod)) rfl ⟨Nat.le_of_ble_eq_true rfl, Nat.le_of_ble_eq_true rfl⟩ rfl (Nat.le_of_ble_eq_true rfl) ⟨Nat.le_of_ble_eq_true rfl, Nat.le_of_ble_eq_true rfl⟩ ?_
            rintro _ _ ⟨rfl, rfl⟩
            show xV _ _ _ _ _ _ _ _ _ _ _ _ _ _ _ _ _ (xH D b (jn C T_1)) _ _ [.int (bI (vle u (sl (T_1 m_knownOf) (5 * i)) (sl (T_1 m_row) (30 * v + 5 * (bst S u v)))))]
            refine xb_ifeq (tgt := 107) hC dX8_alarmFor_100 (pc' := 103) rfl (by decide) (fun zc100 => ?_) (fun zc100 => ?_)
            · skip
              refine xi_iconst (v := nI 3) hC dX8_alarmFor_107 (pc' := 108) rfl (by decide +kernel) ?_
              refine xi_ireturn hC dX8_alarmFor_108 hr rfl ?_
              have e1 : sl (T_1 m_row) (30 * v + 5 * bst S u v) = rV S v (bst S u v) := by rw [hSp_3.1 m_row (by decide)]; rfl
              have e2 : sl (T_1 m_knownOf) (5 * i) = rK S i := by rw [hSp_3.1 m_knownOf (by decide)]; rfl
              rw [e1, e2] at zc100
              exact ⟨_, by rw [al_3 ⟨zc27, zc50⟩ q1 zc100], hSp_3, fun z => absurd (z.symm.trans (al_3 ⟨zc27, zc50⟩ q1 zc100)) (by decide), rfl⟩
            · skip
              refine xi_iconst (v := nI 0) hC dX8_alarmFor_103 (pc' := 104) rfl (by decide +kernel) ?_
              refine xi_goto (tgt := 108) hC dX8_alarmFor_104 (by decide) ?_
              refine xi_ireturn hC dX8_alarmFor_108 hr rfl ?_
              have e1 : sl (T_1 m_row) (30 * v + 5 * bst S u v) = rV S v (bst S u v) := by rw [hSp_3.1 m_row (by decide)]; rfl
              have e2 : sl (T_1 m_knownOf) (5 * i) = rK S i := by rw [hSp_3.1 m_knownOf (by decide)]; rfl
              rw [e1, e2] at zc100
              exact ⟨_, by rw [al_0 ⟨zc27, zc50⟩ q1 zc100], hSp_3, fun z => absurd (z.symm.trans (al_0 ⟨zc27, zc50⟩ q1 zc100)) (by decide), rfl⟩
          · exact zc74.elim
      · exact absurd zc60 (by decide)

set_option maxRecDepth 100000 in
set_option maxHeartbeats 4000000 in
theorem c_X8_proves (l : Launch) (D : XD) (b n : Nat) {C S : XM} {oa Na ob Nb fa fb i : Nat} {d : Int32} (h1 : kd oa = 1000 + Na) (g1 : 585 ≤ oa) (n1 : Na < 1000) (h2 : kd ob = 1000 + Nb) (g2 : 585 ≤ ob) (n2 : Nb < 1000) (ha : fa + 5 ≤ Na) (hb : fb + 5 ≤ Nb) (hi : i < 5) (d1 : oa ≠ m_hasProof ∧ oa ≠ m_depthOf ∧ (oa ≠ m_proofOf ∨ fa + 5 ≤ 10 * i ∨ 10 * i + 5 ≤ fa)) (d2 : ob ≠ m_hasProof ∧ ob ≠ m_depthOf ∧ (ob ≠ m_proofOf ∨ fb + 5 ≤ 10 * i ∨ 10 * i + 10 ≤ fb)) : xM l yX8_proves cX8_proves 7 none 1 25 0 0 D b n [.ref (b + oMod), .int (nI i), .ref (b + oa), .int (nI fa), .ref (b + ob), .int (nI fb), .int d] (xH D b (jn C S)) n (fun y h' => y = none ∧ ∃ T : XM, mKeep S i d (sl (S oa) fa) (sl (S ob) fb) T ∧ h' = xH D b (jn C T)) := by
  refine xM.of (lv := [some (.ref (b + oMod)), some (.int (nI i)), some (.ref (b + oa)), some (.int (nI fa)), some (.ref (b + ob)), some (.int (nI fb)), some (.int d)]) (by decide +kernel) rfl (List.forall_mem_cons.mpr ⟨rfl, List.forall_mem_cons.mpr ⟨rfl, List.forall_mem_cons.mpr ⟨rfl, List.forall_mem_cons.mpr ⟨rfl, List.forall_mem_cons.mpr ⟨rfl, List.forall_mem_cons.mpr ⟨rfl, List.forall_mem_cons.mpr ⟨rfl, fun _ h => absurd h List.not_mem_nil⟩⟩⟩⟩⟩⟩⟩) (Nat.le_of_ble_eq_true rfl) rfl ?_
  intro p e s m args below meth c hC hr hnm
  refine xi_aload_n hC dX8_proves_0 (pc' := 1) rfl rfl rfl ?_
  refine xg8_hasProof hC dX8_proves_1 (pc' := 4) rfl xw_f_X8_25 kd_oMod ?_
  refine xi_iload_n hC dX8_proves_4 (pc' := 5) rfl rfl rfl ?_
  refine xt_l_b hC dX8_proves_5 (pc' := 6) rfl (N := 5) kd_m_hasProof (by decide) (by decide) rfl (by omega) ?_
  refine xi_ifne (tgt := 56) hC dX8_proves_6 (pc' := 9) rfl (by decide) (fun zc6 => ?_) (fun zc6 => ?_)
  · skip
    refine xi_return hC dX8_proves_56 hr rfl ?_
    exact ⟨rfl, S, Or.inl ⟨zc6, rfl⟩, rfl⟩
  · skip
    refine xi_aload_n hC dX8_proves_9 (pc' := 10) rfl rfl rfl ?_
    refine xg8_hasProof hC dX8_proves_10 (pc' := 13) rfl xw_f_X8_25 kd_oMod ?_
    refine xi_iload_n hC dX8_proves_13 (pc' := 14) rfl rfl rfl ?_
    refine xi_iconst (v := nI 1) hC dX8_proves_14 (pc' := 15) rfl (by decide +kernel) ?_
    refine xt_s_b hC dX8_proves_15 (pc' := 16) rfl (N := 5) kd_m_hasProof (by decide) (by decide) rfl (by omega) (by decide) ?_
    refine xi_aload_n hC dX8_proves_16 (pc' := 17) rfl rfl rfl ?_
    refine xg8_depthOf hC dX8_proves_17 (pc' := 20) rfl xw_f_X8_29 kd_oMod ?_
    refine xi_iload_n hC dX8_proves_20 (pc' := 21) rfl rfl rfl ?_
    refine xi_iload hC dX8_proves_21 (pc' := 23) rfl rfl ?_
    refine xt_s_i hC dX8_proves_23 (pc' := 24) rfl (N := 5) kd_m_depthOf (by decide) (by decide) rfl (by omega) ?_
    refine xi_aload_n hC dX8_proves_24 (pc' := 25) rfl rfl rfl ?_
    refine xi_aload_n hC dX8_proves_25 (pc' := 26) rfl rfl rfl ?_
    refine xi_iload_n hC dX8_proves_26 (pc' := 27) rfl rfl rfl ?_
    refine xi_aload_n hC dX8_proves_27 (pc' := 28) rfl rfl rfl ?_
    refine xg8_proofOf hC dX8_proves_28 (pc' := 31) rfl xw_f_X8_32 kd_oMod ?_
    refine xi_bipush (v := nI 10) hC dX8_proves_31 (pc' := 33) rfl (by decide +kernel) ?_
    refine xi_iload_n hC dX8_proves_33 (pc' := 34) rfl rfl rfl ?_
    refine xn_imul hC dX8_proves_34 (pc' := 35) rfl ?_
    refine xi_callV (As := [.ref (b + oa), .int (nI fa), .ref (b + m_proofOf), .int (nI (10 * i))]) (rest := []) (c_X8_copy l D b n (C := C) (S := (sw (sw S m_hasProof i (nI 1)) m_depthOf i d)) (oa := oa) (Na := Na) (ob := m_proofOf) (Nb := 50) (fa := fa) (fb := 10 * i) h1 g1 n1 kd_m_proofOf (by decide) (by decide) (by first | omega | assumption) (by first | omega | assumption)  d1.2.2) hC dX8_proves_35 (pc' := 38) rfl xw_m_X8_108 xw_c_X8_copy xw_ins_X8_copy xw_sel_X8_copy xw_ini_X8 xd_X8_copy (xH_at.trans (xsh_8 kd_oMod)) rfl ⟨Nat.le_of_ble_eq_true rfl, Nat.le_of_ble_eq_true rfl⟩ rfl (Nat.le_of_ble_eq_true rfl) ⟨Nat.le_of_ble_eq_true rfl, Nat.le_of_ble_eq_true rfl⟩ ?_
    rintro _ _ ⟨rfl, T_1, eT_2, fT_3, rfl⟩
    show xV _ _ _ _ _ _ _ _ _ _ _ _ _ _ _ _ _ (xH D b (jn C T_1)) _ _ []
    refine xi_aload_n hC dX8_proves_38 (pc' := 39) rfl rfl rfl ?_
    refine xi_aload hC dX8_proves_39 (pc' := 41) rfl rfl ?_
    refine xi_iload hC dX8_proves_41 (pc' := 43) rfl rfl ?_
    refine xi_aload_n hC dX8_proves_43 (pc' := 44) rfl rfl rfl ?_
    refine xg8_proofOf hC dX8_proves_44 (pc' := 47) rfl xw_f_X8_32 kd_oMod ?_
    refine xi_bipush (v := nI 10) hC dX8_proves_47 (pc' := 49) rfl (by decide +kernel) ?_
    refine xi_iload_n hC dX8_proves_49 (pc' := 50) rfl rfl rfl ?_
    refine xn_imul hC dX8_proves_50 (pc' := 51) rfl ?_
    refine xi_iconst (v := nI 5) hC dX8_proves_51 (pc' := 52) rfl (by decide +kernel) ?_
    refine xn_iadd hC dX8_proves_52 (pc' := 53) rfl ?_
    refine xi_callV (As := [.ref (b + ob), .int (nI fb), .ref (b + m_proofOf), .int (nI ((10 * i) + 5))]) (rest := []) (c_X8_copy l D b n (C := C) (S := T_1) (oa := ob) (Na := Nb) (ob := m_proofOf) (Nb := 50) (fa := fb) (fb := (10 * i) + 5) h2 g2 n2 kd_m_proofOf (by decide) (by decide) (by first | omega | assumption) (by first | omega | assumption)  (d2.2.2.imp id (fun z => by omega))) hC dX8_proves_53 (pc' := 56) rfl xw_m_X8_108 xw_c_X8_copy xw_ins_X8_copy xw_sel_X8_copy xw_ini_X8 xd_X8_copy (xH_at.trans (xsh_8 kd_oMod)) rfl ⟨Nat.le_of_ble_eq_true rfl, Nat.le_of_ble_eq_true rfl⟩ rfl (Nat.le_of_ble_eq_true rfl) ⟨Nat.le_of_ble_eq_true rfl, Nat.le_of_ble_eq_true rfl⟩ ?_
    rintro _ _ ⟨rfl, T_4, eT_5, fT_6, rfl⟩
    show xV _ _ _ _ _ _ _ _ _ _ _ _ _ _ _ _ _ (xH D b (jn C T_4)) _ _ []
    refine xi_return hC dX8_proves_56 hr rfl ?_
    refine ⟨rfl, _, Or.inr ⟨zc6, ?_⟩, rfl⟩
    have k1 : (sw (sw S m_hasProof i (nI 1)) m_depthOf i d) oa = S oa := by rw [sw_n d1.2.1, sw_n d1.1]
    have k2 : (sw (sw S m_hasProof i (nI 1)) m_depthOf i d) ob = S ob := by rw [sw_n d2.2.1, sw_n d2.1]
    have k3 : (sw (sw S m_hasProof i (nI 1)) m_depthOf i d) m_proofOf = S m_proofOf := by rw [sw_n (by decide), sw_n (by decide)]
    rw [k1, k3] at eT_2
    have k4 : cpy 5 (cpy 5 (S m_proofOf) (10 * i) (sl (S oa) fa)) (10 * i + 5) (sl (T_1 ob) fb) = cpy 5 (cpy 5 (S m_proofOf) (10 * i) (sl (S oa) fa)) (10 * i + 5) (sl (S ob) fb) := by
      refine cpy_congr (fun k hk => ?_)
      by_cases hq : ob = m_proofOf
      · subst hq
        show T_1 m_proofOf (fb + k) = S m_proofOf (fb + k)
        rw [eT_2, cpy_out (by rcases d2.2.2 with z | z; exact absurd rfl z; omega)]
      · show T_1 ob (fb + k) = S ob (fb + k)
        rw [fT_3 ob hq, k2]
    funext o
    by_cases hq : o = m_proofOf
    · subst hq
      rw [su_s, eT_5, eT_2, k4]
    · rw [su_n hq, fT_6 o hq, fT_3 o hq]

set_option maxRecDepth 100000 in
set_option maxHeartbeats 4000000 in
theorem c_X8_raises (l : Launch) (D : XD) (b n : Nat) {C S : XM} {u v i x : Nat} (hU : MU S u) (hV : S m_viewOf i = nI v) (hv : v < 6) (hi : i < 5) (hx : x = 1 ∨ (x = 2 ∧ ∃ a c, fstP u u (rV S v) a c ∧ S oMod 20 = nI a ∧ S oMod 21 = nI c) ∨ (x = 3 ∧ ¬ fkd u u (rV S v))) : xM l yX8_raises cX8_raises 5 none 3 73 0 0 D b n [.ref (b + oMod), .int (nI i), .int (nI x)] (xH D b (jn C S)) n (fun y h' => y = none ∧ ∃ T : XM, mRaise S u v i x T ∧ h' = xH D b (jn C T)) := by
  refine xM.of (lv := [some (.ref (b + oMod)), some (.int (nI i)), some (.int (nI x)), none, none]) (by decide +kernel) rfl (List.forall_mem_cons.mpr ⟨rfl, List.forall_mem_cons.mpr ⟨rfl, List.forall_mem_cons.mpr ⟨rfl, fun _ h => absurd h List.not_mem_nil⟩⟩⟩) (Nat.le_of_ble_eq_true rfl) rfl ?_
  intro p e s m args below meth c hC hr hnm
  obtain ⟨hu, hu2, hu5⟩ := id hU
  rcases hx with rfl | ⟨rfl, a, c, q1, q2, q3⟩ | ⟨rfl, q1⟩
  · skip
    refine xi_aload_n hC dX8_raises_0 (pc' := 1) rfl rfl rfl ?_
    refine xg8_viewOf hC dX8_raises_1 (pc' := 4) rfl xw_f_X8_19 kd_oMod ?_
    refine xi_iload_n hC dX8_raises_4 (pc' := 5) rfl rfl rfl ?_
    refine xt_l_i hC dX8_raises_5 (pc' := 6) rfl (N := 5) kd_m_viewOf (by decide) (by decide) rfl (by omega) ?_
    refine xtop (y := (nI v)) (hV) ?_
    refine xi_istore_n (lv' := [some (.ref (b + oMod)), some (.int (nI i)), some (.int (nI 1)), some (.int (nI v)), none]) hC dX8_raises_6 (pc' := 7) rfl rfl (by decide) rfl ?_
    refine xi_aload_n hC dX8_raises_7 (pc' := 8) rfl rfl rfl ?_
    refine xg8_alarmOf hC dX8_raises_8 (pc' := 11) rfl xw_f_X8_22 kd_oMod ?_
    refine xi_iload_n hC dX8_raises_11 (pc' := 12) rfl rfl rfl ?_
    refine xi_iload_n hC dX8_raises_12 (pc' := 13) rfl rfl rfl ?_
    refine xt_s_i hC dX8_raises_13 (pc' := 14) rfl (N := 5) kd_m_alarmOf (by decide) (by decide) rfl (by omega) ?_
    refine xi_iload_n hC dX8_raises_14 (pc' := 15) rfl rfl rfl ?_
    refine xi_iconst (v := nI 2) hC dX8_raises_15 (pc' := 16) rfl (by decide +kernel) ?_
    refine xn_icmpne (tgt := 49) hC dX8_raises_16 (pc' := 19) rfl (by decide) (by omega) (by omega) (fun zc16 => ?_) (fun zc16 => ?_)
    · skip
      refine xi_iload_n hC dX8_raises_49 (pc' := 50) rfl rfl rfl ?_
      refine xi_iconst (v := nI 3) hC dX8_raises_50 (pc' := 51) rfl (by decide +kernel) ?_
      refine xn_icmpne (tgt := 108) hC dX8_raises_51 (pc' := 54) rfl (by decide) (by omega) (by omega) (fun zc51 => ?_) (fun zc51 => ?_)
      · skip
        refine xi_return hC dX8_raises_108 hr rfl ?_
        exact ⟨rfl, _, Or.inl ⟨rfl, rfl⟩, rfl⟩
      · exact absurd zc51 (by decide)
    · exact absurd zc16 (by decide)
  · skip
    refine xi_aload_n hC dX8_raises_0 (pc' := 1) rfl rfl rfl ?_
    refine xg8_viewOf hC dX8_raises_1 (pc' := 4) rfl xw_f_X8_19 kd_oMod ?_
    refine xi_iload_n hC dX8_raises_4 (pc' := 5) rfl rfl rfl ?_
    refine xt_l_i hC dX8_raises_5 (pc' := 6) rfl (N := 5) kd_m_viewOf (by decide) (by decide) rfl (by omega) ?_
    refine xtop (y := (nI v)) (hV) ?_
    refine xi_istore_n (lv' := [some (.ref (b + oMod)), some (.int (nI i)), some (.int (nI 2)), some (.int (nI v)), none]) hC dX8_raises_6 (pc' := 7) rfl rfl (by decide) rfl ?_
    refine xi_aload_n hC dX8_raises_7 (pc' := 8) rfl rfl rfl ?_
    refine xg8_alarmOf hC dX8_raises_8 (pc' := 11) rfl xw_f_X8_22 kd_oMod ?_
    refine xi_iload_n hC dX8_raises_11 (pc' := 12) rfl rfl rfl ?_
    refine xi_iload_n hC dX8_raises_12 (pc' := 13) rfl rfl rfl ?_
    refine xt_s_i hC dX8_raises_13 (pc' := 14) rfl (N := 5) kd_m_alarmOf (by decide) (by decide) rfl (by omega) ?_
    refine xi_iload_n hC dX8_raises_14 (pc' := 15) rfl rfl rfl ?_
    refine xi_iconst (v := nI 2) hC dX8_raises_15 (pc' := 16) rfl (by decide +kernel) ?_
    refine xn_icmpne (tgt := 49) hC dX8_raises_16 (pc' := 19) rfl (by decide) (by omega) (by omega) (fun zc16 => ?_) (fun zc16 => ?_)
    · exact absurd zc16 (by decide)
    · skip
      refine xi_aload_n hC dX8_raises_19 (pc' := 20) rfl rfl rfl ?_
      refine xi_iload_n hC dX8_raises_20 (pc' := 21) rfl rfl rfl ?_
      refine xi_aload_n hC dX8_raises_21 (pc' := 22) rfl rfl rfl ?_
      refine xg8_row hC dX8_raises_22 (pc' := 25) rfl xw_f_X8_7 kd_oMod ?_
      refine xi_iload_n hC dX8_raises_25 (pc' := 26) rfl rfl rfl ?_
      refine xi_aload_n hC dX8_raises_26 (pc' := 27) rfl rfl rfl ?_
      refine xt_g_pairOne hC dX8_raises_27 (pc' := 30) rfl xw_f_X8_91 ?_
      refine xtop (y := (S oMod 20)) (by rw [sw_n (q := oMod) (o := m_alarmOf) (by first | (simp only [oMs, oVws, oScr, oSgn, oMod, oMem, oSig, oKno, oPro, oBox, oFst, oSnd, oLts, oLet, oNum, oVw, oEnt, oBef, oBk, oVs, oCon, oVec, m_row, m_keptOf, m_keptRow, m_viewOf, m_alarmOf, m_hasProof, m_depthOf, m_proofOf, m_signedOf, m_knownOf, m_doneOf, m_shownTo, m_sentBy, m_hasRead, m_readOf, m_lettersOf, m_letter, m_hand, m_text] <;> omega) | decide | omega | (simp only [oMs, oVws, oScr, oSgn, oMod, oMem, oSig, oKno, oPro, oBox, oFst, oSnd, oLts, oLet, oNum, oVw, oEnt, oBef, oBk, oVs, oCon, oVec, m_row, m_keptOf, m_keptRow, m_viewOf, m_alarmOf, m_hasProof, m_depthOf, m_proofOf, m_signedOf, m_knownOf, m_doneOf, m_shownTo, m_sentBy, m_hasRead, m_readOf, m_lettersOf, m_letter, m_hand, m_text] at * <;> omega))]) ?_
      refine xtop (y := (nI a)) (q2) ?_
      refine xi_callS (As := [.int (nI v), .int (nI a)]) (rest := [.ref (b + m_row), .int (nI i), .ref (b + oMod)]) (c_X8_entryAt l D b n (C := C) (S := (sw S m_alarmOf i (nI 2))) (a := v) (c := a)) hC dX8_raises_30 (pc' := 33) rfl xw_m_X8_94 xw_c_X8_entryAt xw_sta_X8_entryAt xw_ini_X8 xd_X8_entryAt ⟨Nat.le_of_ble_eq_true rfl, Nat.le_of_ble_eq_true rfl⟩ rfl (Nat.le_of_ble_eq_true rfl) ⟨Nat.le_of_ble_eq_true rfl, Nat.le_of_ble_eq_true rfl⟩ ?_
      rintro _ _ ⟨rfl, rfl⟩
      show xV _ _ _ _ _ _ _ _ _ _ _ _ _ _ _ _ _ (xH D b (jn C (sw S m_alarmOf i (nI 2)))) _ _ [.int (nI (30 * v + 5 * a)), .ref (b + m_row), .int (nI i), .ref (b + oMod)]
      refine xi_aload_n hC dX8_raises_33 (pc' := 34) rfl rfl rfl ?_
      refine xg8_row hC dX8_raises_34 (pc' := 37) rfl xw_f_X8_7 kd_oMod ?_
      refine xi_iload_n hC dX8_raises_37 (pc' := 38) rfl rfl rfl ?_
      refine xi_aload_n hC dX8_raises_38 (pc' := 39) rfl rfl rfl ?_
      refine xt_g_pairTwo hC dX8_raises_39 (pc' := 42) rfl xw_f_X8_101 ?_
      refine xtop (y := (S oMod 21)) (by rw [sw_n (q := oMod) (o := m_alarmOf) (by first | (simp only [oMs, oVws, oScr, oSgn, oMod, oMem, oSig, oKno, oPro, oBox, oFst, oSnd, oLts, oLet, oNum, oVw, oEnt, oBef, oBk, oVs, oCon, oVec, m_row, m_keptOf, m_keptRow, m_viewOf, m_alarmOf, m_hasProof, m_depthOf, m_proofOf, m_signedOf, m_knownOf, m_doneOf, m_shownTo, m_sentBy, m_hasRead, m_readOf, m_lettersOf, m_letter, m_hand, m_text] <;> omega) | decide | omega | (simp only [oMs, oVws, oScr, oSgn, oMod, oMem, oSig, oKno, oPro, oBox, oFst, oSnd, oLts, oLet, oNum, oVw, oEnt, oBef, oBk, oVs, oCon, oVec, m_row, m_keptOf, m_keptRow, m_viewOf, m_alarmOf, m_hasProof, m_depthOf, m_proofOf, m_signedOf, m_knownOf, m_doneOf, m_shownTo, m_sentBy, m_hasRead, m_readOf, m_lettersOf, m_letter, m_hand, m_text] at * <;> omega))]) ?_
      refine xtop (y := (nI c)) (q3) ?_
      refine xi_callS (As := [.int (nI v), .int (nI c)]) (rest := [.ref (b + m_row), .int (nI (30 * v + 5 * a)), .ref (b + m_row), .int (nI i), .ref (b + oMod)]) (c_X8_entryAt l D b n (C := C) (S := (sw S m_alarmOf i (nI 2))) (a := v) (c := c)) hC dX8_raises_42 (pc' := 45) rfl xw_m_X8_94 xw_c_X8_entryAt xw_sta_X8_entryAt xw_ini_X8 xd_X8_entryAt ⟨Nat.le_of_ble_eq_true rfl, Nat.le_of_ble_eq_true rfl⟩ rfl (Nat.le_of_ble_eq_true rfl) ⟨Nat.le_of_ble_eq_true rfl, Nat.le_of_ble_eq_true rfl⟩ ?_
      rintro _ _ ⟨rfl, rfl⟩
      show xV _ _ _ _ _ _ _ _ _ _ _ _ _ _ _ _ _ (xH D b (jn C (sw S m_alarmOf i (nI 2)))) _ _ [.int (nI (30 * v + 5 * c)), .ref (b + m_row), .int (nI (30 * v + 5 * a)), .ref (b + m_row), .int (nI i), .ref (b + oMod)]
      refine xi_iconst (v := nI 0) hC dX8_raises_45 (pc' := 46) rfl (by decide +kernel) ?_
      refine xi_callV (As := [.int (nI i), .ref (b + m_row), .int (nI (30 * v + 5 * a)), .ref (b + m_row), .int (nI (30 * v + 5 * c)), .int (nI 0)]) (rest := []) (c_X8_proves l D b n (C := C) (S := (sw S m_alarmOf i (nI 2))) (oa := m_row) (Na := 180) (ob := m_row) (Nb := 180) (fa := 30 * v + 5 * a) (fb := 30 * v + 5 * c) (i := i) (d := (nI 0)) kd_m_row (by decide) (by decide) kd_m_row (by decide) (by decide) (by first | omega | (have := q1.1; have := q1.2.1; omega) | (have := bst_lt (S := S) (u := u) (v := v) (by omega); omega)) (by first | omega | (have := q1.1; have := q1.2.1; omega) | (have := bst_lt (S := S) (u := u) (v := v) (by omega); omega)) (by omega) (by refine ⟨by decide, by decide, Or.inl (by decide)⟩) (by refine ⟨by decide, by decide, Or.inl (by decide)⟩)) hC dX8_raises_46 (pc' := 49) rfl xw_m_X8_112 xw_c_X8_proves xw_ins_X8_proves xw_sel_X8_proves xw_ini_X8 xd_X8_proves (xH_at.trans (xsh_8 kd_oMod)) rfl ⟨Nat.le_of_ble_eq_true rfl, Nat.le_of_ble_eq_true rfl⟩ rfl (Nat.le_of_ble_eq_true rfl) ⟨Nat.le_of_ble_eq_true rfl, Nat.le_of_ble_eq_true rfl⟩ ?_
      rintro _ _ ⟨rfl, T_1, hM_2, rfl⟩
      show xV _ _ _ _ _ _ _ _ _ _ _ _ _ _ _ _ _ (xH D b (jn C T_1)) _ _ []
      refine xi_iload_n hC dX8_raises_49 (pc' := 50) rfl rfl rfl ?_
      refine xi_iconst (v := nI 3) hC dX8_raises_50 (pc' := 51) rfl (by decide +kernel) ?_
      refine xn_icmpne (tgt := 108) hC dX8_raises_51 (pc' := 54) rfl (by decide) (by omega) (by omega) (fun zc51 => ?_) (fun zc51 => ?_)
      · skip
        refine xi_return hC dX8_raises_108 hr rfl ?_
        refine ⟨rfl, _, Or.inr (Or.inl ⟨rfl, a, c, q1, ?_⟩), rfl⟩
        have := hM_2
        rw [show (sw S m_alarmOf i (nI 2)) m_row = S m_row from sw_n (by decide)] at this
        exact this
      · exact absurd zc51 (by decide)
  · skip
    refine xi_aload_n hC dX8_raises_0 (pc' := 1) rfl rfl rfl ?_
    refine xg8_viewOf hC dX8_raises_1 (pc' := 4) rfl xw_f_X8_19 kd_oMod ?_
    refine xi_iload_n hC dX8_raises_4 (pc' := 5) rfl rfl rfl ?_
    refine xt_l_i hC dX8_raises_5 (pc' := 6) rfl (N := 5) kd_m_viewOf (by decide) (by decide) rfl (by omega) ?_
    refine xtop (y := (nI v)) (hV) ?_
    refine xi_istore_n (lv' := [some (.ref (b + oMod)), some (.int (nI i)), some (.int (nI 3)), some (.int (nI v)), none]) hC dX8_raises_6 (pc' := 7) rfl rfl (by decide) rfl ?_
    refine xi_aload_n hC dX8_raises_7 (pc' := 8) rfl rfl rfl ?_
    refine xg8_alarmOf hC dX8_raises_8 (pc' := 11) rfl xw_f_X8_22 kd_oMod ?_
    refine xi_iload_n hC dX8_raises_11 (pc' := 12) rfl rfl rfl ?_
    refine xi_iload_n hC dX8_raises_12 (pc' := 13) rfl rfl rfl ?_
    refine xt_s_i hC dX8_raises_13 (pc' := 14) rfl (N := 5) kd_m_alarmOf (by decide) (by decide) rfl (by omega) ?_
    refine xi_iload_n hC dX8_raises_14 (pc' := 15) rfl rfl rfl ?_
    refine xi_iconst (v := nI 2) hC dX8_raises_15 (pc' := 16) rfl (by decide +kernel) ?_
    refine xn_icmpne (tgt := 49) hC dX8_raises_16 (pc' := 19) rfl (by decide) (by omega) (by omega) (fun zc16 => ?_) (fun zc16 => ?_)
    · skip
      refine xi_iload_n hC dX8_raises_49 (pc' := 50) rfl rfl rfl ?_
      refine xi_iconst (v := nI 3) hC dX8_raises_50 (pc' := 51) rfl (by decide +kernel) ?_
      refine xn_icmpne (tgt := 108) hC dX8_raises_51 (pc' := 54) rfl (by decide) (by omega) (by omega) (fun zc51 => ?_) (fun zc51 => ?_)
      · exact absurd zc51 (by decide)
      · skip
        refine xi_aload_n hC dX8_raises_54 (pc' := 55) rfl rfl rfl ?_
        refine xi_iload_n hC dX8_raises_55 (pc' := 56) rfl rfl rfl ?_
        refine xi_callV (As := [.int (nI v)]) (rest := []) (c_X8_greatest l D b n (C := C) (S := (sw S m_alarmOf i (nI 3))) (u := u) (v := v) (show MU (sw S m_alarmOf i (nI 3)) u from ⟨(congrFun (sw_n (by decide)) 0).trans hu, hu2, hu5⟩) (by omega)) hC dX8_raises_56 (pc' := 59) rfl xw_m_X8_104 xw_c_X8_greatest xw_ins_X8_greatest xw_sel_X8_greatest xw_ini_X8 xd_X8_greatest (xH_at.trans (xsh_8 kd_oMod)) rfl ⟨Nat.le_of_ble_eq_true rfl, Nat.le_of_ble_eq_true rfl⟩ rfl (Nat.le_of_ble_eq_true rfl) ⟨Nat.le_of_ble_eq_true rfl, Nat.le_of_ble_eq_true rfl⟩ ?_
        rintro _ _ ⟨xg_4, T_3, rfl, hSp_5, hG_6, rfl⟩
        show xV _ _ _ _ _ _ _ _ _ _ _ _ _ _ _ _ _ (xH D b (jn C T_3)) _ _ [.int xg_4]
        have eV : rV (sw S m_alarmOf i (nI 3)) v = rV S v := by funext a; show sl ((sw S m_alarmOf i (nI 3)) m_row) _ = sl (S m_row) _; rw [sw_n (by decide)]
        have eB : bst (sw S m_alarmOf i (nI 3)) u v = bst S u v := by show gix (fun a c => vle u (rV (sw S m_alarmOf i (nI 3)) v a) (rV (sw S m_alarmOf i (nI 3)) v c)) _ = gix _ _; rw [eV]
        rw [eV] at hG_6
        obtain rfl : xg_4 = nI (bst S u v) := by
          rcases hG_6 with ⟨a, c, r1, -⟩ | ⟨-, r1⟩
          · exact absurd (fst_fkd r1) q1
          · rw [r1, eB]
        have hbl := bst_lt (S := S) (u := u) (v := v) (by omega)
        refine xi_istore (lv' := [some (.ref (b + oMod)), some (.int (nI i)), some (.int (nI 3)), some (.int (nI v)), some (.int (nI (bst S u v)))]) hC dX8_raises_59 (pc' := 61) rfl (by decide) rfl ?_
        refine xi_aload_n hC dX8_raises_61 (pc' := 62) rfl rfl rfl ?_
        refine xi_aload_n hC dX8_raises_62 (pc' := 63) rfl rfl rfl ?_
        refine xg8_knownOf hC dX8_raises_63 (pc' := 66) rfl xw_f_X8_38 kd_oMod ?_
        refine xi_iconst (v := nI 5) hC dX8_raises_66 (pc' := 67) rfl (by decide +kernel) ?_
        refine xi_iload_n hC dX8_raises_67 (pc' := 68) rfl rfl rfl ?_
        refine xn_imul hC dX8_raises_68 (pc' := 69) rfl ?_
        refine xi_aload_n hC dX8_raises_69 (pc' := 70) rfl rfl rfl ?_
        refine xg8_row hC dX8_raises_70 (pc' := 73) rfl xw_f_X8_7 kd_oMod ?_
        refine xi_iload_n hC dX8_raises_73 (pc' := 74) rfl rfl rfl ?_
        refine xi_iload hC dX8_raises_74 (pc' := 76) rfl rfl ?_
        refine xi_callS (As := [.int (nI v), .int (nI (bst S u v))]) (rest := [.ref (b + m_row), .int (nI (5 * i)), .ref (b + m_knownOf), .ref (b + oMod)]) (c_X8_entryAt l D b n (C := C) (S := T_3) (a := v) (c := bst S u v)) hC dX8_raises_76 (pc' := 79) rfl xw_m_X8_94 xw_c_X8_entryAt xw_sta_X8_entryAt xw_ini_X8 xd_X8_entryAt ⟨Nat.le_of_ble_eq_true rfl, Nat.le_of_ble_eq_true rfl⟩ rfl (Nat.le_of_ble_eq_true rfl) ⟨Nat.le_of_ble_eq_true rfl, Nat.le_of_ble_eq_true rfl⟩ ?_
        rintro _ _ ⟨rfl, rfl⟩
        show xV _ _ _ _ _ _ _ _ _ _ _ _ _ _ _ _ _ (xH D b (jn C T_3)) _ _ [.int (nI (30 * v + 5 * (bst S u v))), .ref (b + m_row), .int (nI (5 * i)), .ref (b + m_knownOf), .ref (b + oMod)]
        refine xi_callV (As := [.ref (b + m_knownOf), .int (nI (5 * i)), .ref (b + m_row), .int (nI (30 * v + 5 * (bst S u v)))]) (rest := []) (c_X8_areApart l D b n (C := C) (S := T_3) (u := u) (oa := m_knownOf) (Na := 25) (ob := m_row) (Nb := 180) (fa := 5 * i) (fb := 30 * v + 5 * (bst S u v)) (hSp_5.mu (show MU (sw S m_alarmOf i (nI 3)) u from ⟨(congrFun (sw_n (by decide)) 0).trans hu, hu2, hu5⟩)) kd_m_knownOf (by decide) (by decide) kd_m_row (by decide) (by decide) (by first | omega | (have := q1.1; have := q1.2.1; omega) | (have := bst_lt (S := S) (u := u) (v := v) (by omega); omega)) (by first | omega | (have := q1.1; have := q1.2.1; omega) | (have := bst_lt (S := S) (u := u) (v := v) (by omega); omega)) ) hC dX8_raises_79 (pc' := 82) rfl xw_m_X8_98 xw_c_X8_areApart xw_ins_X8_areApart xw_sel_X8_areApart xw_ini_X8 xd_X8_areApart (xH_at.trans (xsh_8 kd_oMod)) rfl ⟨Nat.le_of_ble_eq_true rfl, Nat.le_of_ble_eq_true rfl⟩ rfl (Nat.le_of_ble_eq_true rfl) ⟨Nat.le_of_ble_eq_true rfl, Nat.le_of_ble_eq_true rfl⟩ ?_
        rintro _ _ ⟨rfl, rfl⟩
        show xV _ _ _ _ _ _ _ _ _ _ _ _ _ _ _ _ _ (xH D b (jn C T_3)) _ _ [.int (bI (rel u (sl (T_3 m_knownOf) (5 * i)) (sl (T_3 m_row) (30 * v + 5 * (bst S u v))) = 2))]
        refine xb_ifeq (tgt := 108) hC dX8_raises_82 (pc' := 85) rfl (by decide) (fun zc82 => ?_) (fun zc82 => ?_)
        · skip
          refine xi_return hC dX8_raises_108 hr rfl ?_
          have eR : sl (T_3 m_row) (30 * v + 5 * bst S u v) = rV S v (bst S u v) := by rw [hSp_5.1 m_row (by decide), sw_n (by decide)]; rfl
          have eK : sl (T_3 m_knownOf) (5 * i) = rK S i := by rw [hSp_5.1 m_knownOf (by decide), sw_n (by decide)]; rfl
          rw [eR, eK] at zc82
          refine ⟨rfl, _, Or.inr (Or.inr ⟨rfl, _, hSp_5, Or.inr ⟨zc82, rfl⟩⟩), rfl⟩
        · skip
          refine xi_aload_n hC dX8_raises_85 (pc' := 86) rfl rfl rfl ?_
          refine xi_iload_n hC dX8_raises_86 (pc' := 87) rfl rfl rfl ?_
          refine xi_aload_n hC dX8_raises_87 (pc' := 88) rfl rfl rfl ?_
          refine xg8_knownOf hC dX8_raises_88 (pc' := 91) rfl xw_f_X8_38 kd_oMod ?_
          refine xi_iconst (v := nI 5) hC dX8_raises_91 (pc' := 92) rfl (by decide +kernel) ?_
          refine xi_iload_n hC dX8_raises_92 (pc' := 93) rfl rfl rfl ?_
          refine xn_imul hC dX8_raises_93 (pc' := 94) rfl ?_
          refine xi_aload_n hC dX8_raises_94 (pc' := 95) rfl rfl rfl ?_
          refine xg8_row hC dX8_raises_95 (pc' := 98) rfl xw_f_X8_7 kd_oMod ?_
          refine xi_iload_n hC dX8_raises_98 (pc' := 99) rfl rfl rfl ?_
          refine xi_iload hC dX8_raises_99 (pc' := 101) rfl rfl ?_
          refine xi_callS (As := [.int (nI v), .int (nI (bst S u v))]) (rest := [.ref (b + m_row), .int (nI (5 * i)), .ref (b + m_knownOf), .int (nI i), .ref (b + oMod)]) (c_X8_entryAt l D b n (C := C) (S := T_3) (a := v) (c := bst S u v)) hC dX8_raises_101 (pc' := 104) rfl xw_m_X8_94 xw_c_X8_entryAt xw_sta_X8_entryAt xw_ini_X8 xd_X8_entryAt ⟨Nat.le_of_ble_eq_true rfl, Nat.le_of_ble_eq_true rfl⟩ rfl (Nat.le_of_ble_eq_true rfl) ⟨Nat.le_of_ble_eq_true rfl, Nat.le_of_ble_eq_true rfl⟩ ?_
          rintro _ _ ⟨rfl, rfl⟩
          show xV _ _ _ _ _ _ _ _ _ _ _ _ _ _ _ _ _ (xH D b (jn C T_3)) _ _ [.int (nI (30 * v + 5 * (bst S u v))), .ref (b + m_row), .int (nI (5 * i)), .ref (b + m_knownOf), .int (nI i), .ref (b + oMod)]
          refine xi_iconst (v := nI 0) hC dX8_raises_104 (pc' := 105) rfl (by decide +kernel) ?_
          refine xi_callV (As := [.int (nI i), .ref (b + m_knownOf), .int (nI (5 * i)), .ref (b + m_row), .int (nI (30 * v + 5 * (bst S u v))), .int (nI 0)]) (rest := []) (c_X8_proves l D b n (C := C) (S := T_3) (oa := m_knownOf) (Na := 25) (ob := m_row) (Nb := 180) (fa := 5 * i) (fb := 30 * v + 5 * (bst S u v)) (i := i) (d := (nI 0)) kd_m_knownOf (by decide) (by decide) kd_m_row (by decide) (by decide) (by first | omega | (have := q1.1; have := q1.2.1; omega) | (have := bst_lt (S := S) (u := u) (v := v) (by omega); omega)) (by first | omega | (have := q1.1; have := q1.2.1; omega) | (have := bst_lt (S := S) (u := u) (v := v) (by omega); omega)) (by omega) (by refine ⟨by decide, by decide, Or.inl (by decide)⟩) (by refine ⟨by decide, by decide, Or.inl (by decide)⟩)) hC dX8_raises_105 (pc' := 108) rfl xw_m_X8_112 xw_c_X8_proves xw_ins_X8_proves xw_sel_X8_proves xw_ini_X8 xd_X8_proves (xH_at.trans (xsh_8 kd_oMod)) rfl ⟨Nat.le_of_ble_eq_true rfl, Nat.le_of_ble_eq_true rfl⟩ rfl (Nat.le_of_ble_eq_true rfl) ⟨Nat.le_of_ble_eq_true rfl, Nat.le_of_ble_eq_true rfl⟩ ?_
          rintro _ _ ⟨rfl, T_7, hM_8, rfl⟩
          show xV _ _ _ _ _ _ _ _ _ _ _ _ _ _ _ _ _ (xH D b (jn C T_7)) _ _ []
          refine xi_return hC dX8_raises_108 hr rfl ?_
          have eR : sl (T_3 m_row) (30 * v + 5 * bst S u v) = rV S v (bst S u v) := by rw [hSp_5.1 m_row (by decide), sw_n (by decide)]; rfl
          have eK : sl (T_3 m_knownOf) (5 * i) = rK S i := by rw [hSp_5.1 m_knownOf (by decide), sw_n (by decide)]; rfl
          rw [eR, eK] at zc82
          have hK := hM_8
          rw [eR, eK] at hK
          exact ⟨rfl, _, Or.inr (Or.inr ⟨rfl, _, hSp_5, Or.inl ⟨zc82, hK⟩⟩), rfl⟩
    · exact absurd zc16 (by decide)
