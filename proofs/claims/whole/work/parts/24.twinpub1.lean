
theorem alm_pos {x : Int32} {a : Nat} (h : x = nI a) (ha : a < 2 ^ 31) : 0 < x ↔ 0 < a := by
  rw [h, ← nI_0]; exact nI_ltI (by decide) ha
theorem mKeep.out {S T : XM} {i : Nat} {d : Int32} {f1 f2 : Nat → Int32} (h : mKeep S i d f1 f2 T) {o : Nat} (h1 : o ≠ m_hasProof) (h2 : o ≠ m_depthOf) (h3 : o ≠ m_proofOf) : T o = S o := by
  rcases h with ⟨-, rfl⟩ | ⟨-, rfl⟩
  · rfl
  · rw [su_n h3, sw_n h2, sw_n h1]
theorem mRaise.out {S T : XM} {u v i x : Nat} (h : mRaise S u v i x T) {o : Nat} (h0 : o ≠ oMod) (h1 : o ≠ m_hasProof) (h2 : o ≠ m_depthOf) (h3 : o ≠ m_proofOf) (h4 : o ≠ m_alarmOf) : T o = S o := by
  rcases h with ⟨-, rfl⟩ | ⟨-, a, c, -, q⟩ | ⟨-, T1, q, q2⟩
  · exact sw_n h4
  · rw [q.out h1 h2 h3]; exact sw_n h4
  · have e : T1 o = S o := (q.1 o h0).trans (sw_n h4)
    rcases q2 with ⟨-, q3⟩ | ⟨-, rfl⟩
    · rw [q3.out h1 h2 h3]; exact e
    · exact e
theorem mRaise.m {S T : XM} {u v i x : Nat} (h : mRaise S u v i x T) {k : Nat} (h0 : k ≠ 20) (h1 : k ≠ 21) : T oMod k = S oMod k := by
  rcases h with ⟨-, rfl⟩ | ⟨-, a, c, -, q⟩ | ⟨-, T1, q, q2⟩
  · rw [sw_n (by decide)]
  · rw [q.out (by decide) (by decide) (by decide), sw_n (by decide)]
  · have e : T1 oMod k = S oMod k := (q.2 k h0 h1).trans (by rw [sw_n (by decide)])
    rcases q2 with ⟨-, q3⟩ | ⟨-, rfl⟩
    · rw [q3.out (by decide) (by decide) (by decide)]; exact e
    · exact e
/-- what no operation changes -/
theorem mOper.out {S T : XM} {u v i k : Nat} (h : mOper S u v i k T) {o : Nat} (h0 : o = m_viewOf ∨ o = m_hasRead ∨ o = m_readOf ∨ o = m_lettersOf ∨ o = m_letter ∨ o = m_text) : T o = S o := by
  have hne : o ≠ oMod ∧ o ≠ m_shownTo ∧ o ≠ m_signedOf ∧ o ≠ m_knownOf ∧ o ≠ m_row ∧ o ≠ m_sentBy ∧ o ≠ m_doneOf ∧ o ≠ m_keptOf ∧ o ≠ m_keptRow ∧ o ≠ m_alarmOf ∧ o ≠ m_hasProof ∧ o ≠ m_depthOf ∧ o ≠ m_proofOf := by
    rcases h0 with rfl | rfl | rfl | rfl | rfl | rfl <;> decide
  obtain ⟨n0, n1, n2, n3, n4, n5, n6, n7, n8, n9, n10, n11, n12⟩ := hne
  rcases h with ⟨-, T1, q, q2⟩ | ⟨-, -, -, -, -, -, -, -, -, -, -, -, q⟩
  · rw [q2.out n0 n10 n11 n12 n9, q.1 o n0, sw_n n1]
  · exact q o n0 n1 n2 n3 n4 n5 n6 n7 n8
theorem mOper.m {S T : XM} {u v i k : Nat} (h : mOper S u v i k T) {j : Nat} (h2 : j ≠ 2) (h0 : j ≠ 20) (h1 : j ≠ 21) : T oMod j = S oMod j := by
  rcases h with ⟨-, T1, q, q2⟩ | ⟨-, -, -, -, -, -, -, -, -, -, -, q, -⟩
  · rw [q2.m h0 h1, q.2 j h0 h1, sw_n (by decide)]
  · exact q j h2 h0 h1
theorem rng15 {y : Int32} (h : nI 1 ≤ y ∧ y ≤ nI 5) : ∃ z, 1 ≤ z ∧ z ≤ 5 ∧ y = nI z := by
  obtain ⟨j, hj, rfl⟩ := nI_of (x := y) (fun q => absurd (Int32.lt_of_le_of_lt h.1 q) (by decide))
  exact ⟨j, (nI_leI (by decide) hj).mp h.1, (nI_leI hj (by decide)).mp h.2, rfl⟩
theorem rng03 {y : Int32} (h : nI 0 ≤ y ∧ y ≤ nI 3) : y = nI 0 ∨ y = nI 1 ∨ y = nI 2 ∨ y = nI 3 := by
  obtain ⟨j, hj, rfl⟩ := nI_of (x := y) (fun q => absurd (Int32.lt_of_le_of_lt h.1 q) (by decide))
  have := (nI_leI hj (by decide)).mp h.2
  rcases (show j = 0 ∨ j = 1 ∨ j = 2 ∨ j = 3 by omega) with rfl | rfl | rfl | rfl
  · exact Or.inl rfl
  · exact Or.inr (Or.inl rfl)
  · exact Or.inr (Or.inr (Or.inl rfl))
  · exact Or.inr (Or.inr (Or.inr rfl))
theorem rng25 {y : Int32} (h : nI 2 ≤ y ∧ y ≤ nI 5) : ∃ z, 2 ≤ z ∧ z ≤ 5 ∧ y = nI z := by
  obtain ⟨j, hj, rfl⟩ := nI_of (x := y) (fun q => absurd (Int32.lt_of_le_of_lt h.1 q) (by decide))
  exact ⟨j, (nI_leI (by decide) hj).mp h.1, (nI_leI hj (by decide)).mp h.2, rfl⟩
set_option maxRecDepth 100000 in
set_option maxHeartbeats 4000000 in
theorem c_X8_write (l : Launch) (D : XD) (b n : Nat) {C S : XM} {u w : Nat} (hW : MW S u w) {x y : Int32} : xM l yX8_write cX8_write 4 (some .int) 5 121 0 0 D b n [.ref (b + oMod), .int x, .int y] (xH D b (jn C S)) n (fun y' h' => ∃ (r : Int32) (T : XM), y' = some (.int r) ∧ s_write S u x y r T ∧ h' = xH D b (jn C T)) := by
  refine xM.of (lv := [some (.ref (b + oMod)), some (.int x), some (.int y), none]) (by decide +kernel) rfl (List.forall_mem_cons.mpr ⟨rfl, List.forall_mem_cons.mpr ⟨rfl, List.forall_mem_cons.mpr ⟨rfl, fun _ h => absurd h List.not_mem_nil⟩⟩⟩) (Nat.le_of_ble_eq_true rfl) rfl ?_
  intro p e s m args below meth c hC hr hnm
  obtain ⟨hU, hN, hVw, hKp, hLt, hTx, hAl⟩ := id hW
  obtain ⟨hu, hu2, hu5⟩ := id hU
  obtain ⟨hn, hw1, hw6⟩ := id hN
  refine xi_aload_n hC dX8_write_0 (pc' := 1) rfl rfl rfl ?_
  refine xi_iload_n hC dX8_write_1 (pc' := 2) rfl rfl rfl ?_
  refine xi_callV (As := [.int x]) (rest := []) (c_X8_noUser l D b n (C := C) (S := S) (x := x) hU) hC dX8_write_2 (pc' := 5) rfl xw_m_X8_126 xw_c_X8_noUser xw_ins_X8_noUser xw_sel_X8_noUser xw_ini_X8 xd_X8_noUser (xH_at.trans (xsh_8 kd_oMod)) rfl ⟨Nat.le_of_ble_eq_true rfl, Nat.le_of_ble_eq_true rfl⟩ rfl (Nat.le_of_ble_eq_true rfl) ⟨Nat.le_of_ble_eq_true rfl, Nat.le_of_ble_eq_true rfl⟩ ?_
  rintro _ _ ⟨rfl, rfl⟩
  show xV _ _ _ _ _ _ _ _ _ _ _ _ _ _ _ _ _ (xH D b (jn C S)) _ _ [.int (bI (¬ isU u x))]
  refine xb_ifeq (tgt := 12) hC dX8_write_5 (pc' := 8) rfl (by decide) (fun zc5 => ?_) (fun zc5 => ?_)
  · skip
    obtain ⟨i, hi, rfl⟩ := Classical.not_not.mp zc5
    refine xi_iload_n hC dX8_write_12 (pc' := 13) rfl rfl rfl ?_
    refine xi_sipush (v := -1000) hC dX8_write_13 (pc' := 16) rfl (by decide +kernel) ?_
    refine xi_sipush (v := nI 1000) hC dX8_write_16 (pc' := 19) rfl (by decide +kernel) ?_
    refine xi_callS (As := [.int y, .int (-1000), .int (nI 1000)]) (rest := []) (c_X8_in l D b n (C := C) (S := S) (x := y) (lo := (-1000)) (hi := (nI 1000))) hC dX8_write_19 (pc' := 22) rfl xw_m_X8_83 xw_c_X8_in xw_sta_X8_in xw_ini_X8 xd_X8_in ⟨Nat.le_of_ble_eq_true rfl, Nat.le_of_ble_eq_true rfl⟩ rfl (Nat.le_of_ble_eq_true rfl) ⟨Nat.le_of_ble_eq_true rfl, Nat.le_of_ble_eq_true rfl⟩ ?_
    rintro _ _ ⟨rfl, rfl⟩
    show xV _ _ _ _ _ _ _ _ _ _ _ _ _ _ _ _ _ (xH D b (jn C S)) _ _ [.int (bI ((-1000) ≤ y ∧ y ≤ (nI 1000)))]
    refine xb_ifne (tgt := 29) hC dX8_write_22 (pc' := 25) rfl (by decide) (fun zc22 => ?_) (fun zc22 => ?_)
    · skip
      obtain ⟨a, ha5, hae⟩ := hAl i (by omega)
      obtain ⟨v, hvw, hV⟩ := hVw i (by omega)
      obtain ⟨k, hk5, hk⟩ := hKp v hvw
      refine xi_aload_n hC dX8_write_29 (pc' := 30) rfl rfl rfl ?_
      refine xg8_alarmOf hC dX8_write_30 (pc' := 33) rfl xw_f_X8_22 kd_oMod ?_
      refine xi_iload_n hC dX8_write_33 (pc' := 34) rfl rfl rfl ?_
      refine xt_l_i hC dX8_write_34 (pc' := 35) rfl (N := 5) kd_m_alarmOf (by decide) (by decide) rfl (by omega) ?_
      refine xtop (y := (nI a)) (hae) ?_
      refine xn_ifle (tgt := 42) hC dX8_write_35 (pc' := 38) rfl (by decide) (by omega) (fun zc35 => ?_) (fun zc35 => ?_)
      · skip
        refine xi_aload_n hC dX8_write_42 (pc' := 43) rfl rfl rfl ?_
        refine xi_iload_n hC dX8_write_43 (pc' := 44) rfl rfl rfl ?_
        refine xi_callV (As := [.int (nI i)]) (rest := []) (c_X8_operate l D b n (C := C) (S := S) (u := u) (v := v) (i := i) (k := k) hU hV (by omega) (by omega) hk hk5) hC dX8_write_44 (pc' := 47) rfl xw_m_X8_130 xw_c_X8_operate xw_ins_X8_operate xw_sel_X8_operate xw_ini_X8 xd_X8_operate (xH_at.trans (xsh_8 kd_oMod)) rfl ⟨Nat.le_of_ble_eq_true rfl, Nat.le_of_ble_eq_true rfl⟩ rfl (Nat.le_of_ble_eq_true rfl) ⟨Nat.le_of_ble_eq_true rfl, Nat.le_of_ble_eq_true rfl⟩ ?_
        rintro _ _ ⟨T_1, rfl, hO_2, rfl⟩
        show xV _ _ _ _ _ _ _ _ _ _ _ _ _ _ _ _ _ (xH D b (jn C T_1)) _ _ [.int (nI (al S u v i))]
        have hal4 : al S u v i < 4 := by rcases al_cases S u v i with ⟨q, -⟩ | ⟨-, ⟨q, -⟩ | ⟨-, ⟨q, -⟩ | ⟨q, -⟩⟩⟩ <;> omega
        refine xi_istore_n (lv' := [some (.ref (b + oMod)), some (.int (nI i)), some (.int y), some (.int (nI (al S u v i)))]) hC dX8_write_47 (pc' := 48) rfl rfl (by decide) rfl ?_
        refine xi_iload_n hC dX8_write_48 (pc' := 49) rfl rfl rfl ?_
        refine xn_ifne (tgt := 72) hC dX8_write_49 (pc' := 52) rfl (by decide) (by omega) (fun zc49 => ?_) (fun zc49 => ?_)
        · skip
          refine xi_iload_n hC dX8_write_72 (pc' := 73) rfl rfl rfl ?_
          refine xi_ireturn hC dX8_write_73 hr rfl ?_
          refine ⟨_, _, rfl, ⟨fun q => absurd ⟨i, hi, rfl⟩ q, fun i' hi' e1 => ?_⟩, rfl⟩
          obtain rfl := nI_inj (by omega) (by omega) e1
          refine ⟨fun q => absurd zc22 q, fun _ => ⟨fun q => absurd ((alm_pos hae (by omega)).mp q) (by omega), fun _ v' k' hv' hk' e2 e3 => ?_⟩⟩
          obtain rfl := nI_inj (by omega) (by omega) (hV.symm.trans e2)
          obtain rfl := nI_inj (by omega) (by omega) (hk.symm.trans e3)
          exact ⟨_, hO_2, rfl, fun q => absurd q zc49, fun _ => rfl⟩
        · skip
          refine xi_aload_n hC dX8_write_52 (pc' := 53) rfl rfl rfl ?_
          refine xg8_row hC dX8_write_53 (pc' := 56) rfl xw_f_X8_7 kd_oMod ?_
          refine xi_bipush (v := nI 30) hC dX8_write_56 (pc' := 58) rfl (by decide +kernel) ?_
          refine xi_aload_n hC dX8_write_58 (pc' := 59) rfl rfl rfl ?_
          refine xg8_viewOf hC dX8_write_59 (pc' := 62) rfl xw_f_X8_19 kd_oMod ?_
          refine xi_iload_n hC dX8_write_62 (pc' := 63) rfl rfl rfl ?_
          refine xt_l_i hC dX8_write_63 (pc' := 64) rfl (N := 5) kd_m_viewOf (by decide) (by decide) rfl (by omega) ?_
          refine xtop (y := (nI v)) ((congrFun (hO_2.out (Or.inl rfl)) i).trans hV) ?_
          refine xn_imul hC dX8_write_64 (pc' := 65) rfl ?_
          refine xi_bipush (v := nI 25) hC dX8_write_65 (pc' := 67) rfl (by decide +kernel) ?_
          refine xn_iadd hC dX8_write_67 (pc' := 68) rfl ?_
          refine xi_iload_n hC dX8_write_68 (pc' := 69) rfl rfl rfl ?_
          refine xn_iadd hC dX8_write_69 (pc' := 70) rfl ?_
          refine xi_iload_n hC dX8_write_70 (pc' := 71) rfl rfl rfl ?_
          refine xt_s_i hC dX8_write_71 (pc' := 72) rfl (N := 180) kd_m_row (by decide) (by decide) rfl (by omega) ?_
          refine xi_iload_n hC dX8_write_72 (pc' := 73) rfl rfl rfl ?_
          refine xi_ireturn hC dX8_write_73 hr rfl ?_
          refine ⟨_, _, rfl, ⟨fun q => absurd ⟨i, hi, rfl⟩ q, fun i' hi' e1 => ?_⟩, rfl⟩
          obtain rfl := nI_inj (by omega) (by omega) e1
          refine ⟨fun q => absurd zc22 q, fun _ => ⟨fun q => absurd ((alm_pos hae (by omega)).mp q) (by omega), fun _ v' k' hv' hk' e2 e3 => ?_⟩⟩
          obtain rfl := nI_inj (by omega) (by omega) (hV.symm.trans e2)
          obtain rfl := nI_inj (by omega) (by omega) (hk.symm.trans e3)
          exact ⟨_, hO_2, rfl, fun _ => rfl, fun q => absurd zc49 q⟩
      · skip
        refine xi_sipush (v := -10003) hC dX8_write_38 (pc' := 41) rfl (by decide +kernel) ?_
        refine xi_ireturn hC dX8_write_41 hr rfl ?_
        refine ⟨_, S, rfl, ⟨fun q => absurd ⟨i, hi, rfl⟩ q, fun i' hi' e1 => ?_⟩, rfl⟩
        obtain rfl := nI_inj (by omega) (by omega) e1
        exact ⟨fun q => absurd zc22 q, fun _ => ⟨fun _ => ⟨rfl, rfl⟩, fun q => absurd ((alm_pos hae (by omega)).mpr (by omega)) q⟩⟩
    · skip
      refine xi_sipush (v := -10002) hC dX8_write_25 (pc' := 28) rfl (by decide +kernel) ?_
      refine xi_ireturn hC dX8_write_28 hr rfl ?_
      refine ⟨_, S, rfl, ⟨fun q => absurd ⟨i, hi, rfl⟩ q, fun i' hi' e1 => ⟨fun _ => ⟨rfl, rfl⟩, fun q => absurd q zc22⟩⟩, rfl⟩
  · skip
    refine xi_sipush (v := -10001) hC dX8_write_8 (pc' := 11) rfl (by decide +kernel) ?_
    refine xi_ireturn hC dX8_write_11 hr rfl ?_
    exact ⟨_, S, rfl, ⟨fun _ => ⟨rfl, rfl⟩, fun i h e => absurd ⟨i, h, e⟩ zc5⟩, rfl⟩

set_option maxRecDepth 100000 in
set_option maxHeartbeats 4000000 in
theorem c_X8_read (l : Launch) (D : XD) (b n : Nat) {C S : XM} {u w : Nat} (hW : MW S u w) {x y : Int32} : xM l yX8_read cX8_read 4 (some .int) 5 121 0 0 D b n [.ref (b + oMod), .int x, .int y] (xH D b (jn C S)) n (fun y' h' => ∃ (r : Int32) (T : XM), y' = some (.int r) ∧ s_read S u x y r T ∧ h' = xH D b (jn C T)) := by
  refine xM.of (lv := [some (.ref (b + oMod)), some (.int x), some (.int y), none]) (by decide +kernel) rfl (List.forall_mem_cons.mpr ⟨rfl, List.forall_mem_cons.mpr ⟨rfl, List.forall_mem_cons.mpr ⟨rfl, fun _ h => absurd h List.not_mem_nil⟩⟩⟩) (Nat.le_of_ble_eq_true rfl) rfl ?_
  intro p e s m args below meth c hC hr hnm
  obtain ⟨hU, hN, hVw, hKp, hLt, hTx, hAl⟩ := id hW
  obtain ⟨hu, hu2, hu5⟩ := id hU
  obtain ⟨hn, hw1, hw6⟩ := id hN
  refine xi_aload_n hC dX8_read_0 (pc' := 1) rfl rfl rfl ?_
  refine xi_iload_n hC dX8_read_1 (pc' := 2) rfl rfl rfl ?_
  refine xi_callV (As := [.int x]) (rest := []) (c_X8_noUser l D b n (C := C) (S := S) (x := x) hU) hC dX8_read_2 (pc' := 5) rfl xw_m_X8_126 xw_c_X8_noUser xw_ins_X8_noUser xw_sel_X8_noUser xw_ini_X8 xd_X8_noUser (xH_at.trans (xsh_8 kd_oMod)) rfl ⟨Nat.le_of_ble_eq_true rfl, Nat.le_of_ble_eq_true rfl⟩ rfl (Nat.le_of_ble_eq_true rfl) ⟨Nat.le_of_ble_eq_true rfl, Nat.le_of_ble_eq_true rfl⟩ ?_
  rintro _ _ ⟨rfl, rfl⟩
  show xV _ _ _ _ _ _ _ _ _ _ _ _ _ _ _ _ _ (xH D b (jn C S)) _ _ [.int (bI (¬ isU u x))]
  refine xb_ifne (tgt := 16) hC dX8_read_5 (pc' := 8) rfl (by decide) (fun zc5 => ?_) (fun zc5 => ?_)
  · skip
    refine xi_sipush (v := -10001) hC dX8_read_16 (pc' := 19) rfl (by decide +kernel) ?_
    refine xi_ireturn hC dX8_read_19 hr rfl ?_
    exact ⟨_, S, rfl, ⟨fun _ => ⟨rfl, rfl⟩, fun i j h1 h2 e1 e2 => by first | exact absurd (show ∃ k, _ from ⟨j, h2, e2⟩) zc13 | exact absurd (show ∃ k, _ from ⟨i, h1, e1⟩) zc5⟩, rfl⟩
  · skip
    refine xi_aload_n hC dX8_read_8 (pc' := 9) rfl rfl rfl ?_
    refine xi_iload_n hC dX8_read_9 (pc' := 10) rfl rfl rfl ?_
    refine xi_callV (As := [.int y]) (rest := []) (c_X8_noUser l D b n (C := C) (S := S) (x := y) hU) hC dX8_read_10 (pc' := 13) rfl xw_m_X8_126 xw_c_X8_noUser xw_ins_X8_noUser xw_sel_X8_noUser xw_ini_X8 xd_X8_noUser (xH_at.trans (xsh_8 kd_oMod)) rfl ⟨Nat.le_of_ble_eq_true rfl, Nat.le_of_ble_eq_true rfl⟩ rfl (Nat.le_of_ble_eq_true rfl) ⟨Nat.le_of_ble_eq_true rfl, Nat.le_of_ble_eq_true rfl⟩ ?_
    rintro _ _ ⟨rfl, rfl⟩
    show xV _ _ _ _ _ _ _ _ _ _ _ _ _ _ _ _ _ (xH D b (jn C S)) _ _ [.int (bI (¬ isU u y))]
    refine xb_ifeq (tgt := 20) hC dX8_read_13 (pc' := 16) rfl (by decide) (fun zc13 => ?_) (fun zc13 => ?_)
    · skip
      obtain ⟨i, hi, rfl⟩ := Classical.not_not.mp zc5
      obtain ⟨j, hj, rfl⟩ := Classical.not_not.mp zc13
      obtain ⟨a, ha5, hae⟩ := hAl i (by omega)
      obtain ⟨v, hvw, hV⟩ := hVw i (by omega)
      obtain ⟨k, hk5, hk⟩ := hKp v hvw
      refine xi_aload_n hC dX8_read_20 (pc' := 21) rfl rfl rfl ?_
      refine xg8_alarmOf hC dX8_read_21 (pc' := 24) rfl xw_f_X8_22 kd_oMod ?_
      refine xi_iload_n hC dX8_read_24 (pc' := 25) rfl rfl rfl ?_
      refine xt_l_i hC dX8_read_25 (pc' := 26) rfl (N := 5) kd_m_alarmOf (by decide) (by decide) rfl (by omega) ?_
      refine xtop (y := (nI a)) (hae) ?_
      refine xn_ifle (tgt := 33) hC dX8_read_26 (pc' := 29) rfl (by decide) (by omega) (fun zc26 => ?_) (fun zc26 => ?_)
      · skip
        refine xi_aload_n hC dX8_read_33 (pc' := 34) rfl rfl rfl ?_
        refine xi_iload_n hC dX8_read_34 (pc' := 35) rfl rfl rfl ?_
        refine xi_callV (As := [.int (nI i)]) (rest := []) (c_X8_operate l D b n (C := C) (S := S) (u := u) (v := v) (i := i) (k := k) hU hV (by omega) (by omega) hk hk5) hC dX8_read_35 (pc' := 38) rfl xw_m_X8_130 xw_c_X8_operate xw_ins_X8_operate xw_sel_X8_operate xw_ini_X8 xd_X8_operate (xH_at.trans (xsh_8 kd_oMod)) rfl ⟨Nat.le_of_ble_eq_true rfl, Nat.le_of_ble_eq_true rfl⟩ rfl (Nat.le_of_ble_eq_true rfl) ⟨Nat.le_of_ble_eq_true rfl, Nat.le_of_ble_eq_true rfl⟩ ?_
        rintro _ _ ⟨T_1, rfl, hO_2, rfl⟩
        show xV _ _ _ _ _ _ _ _ _ _ _ _ _ _ _ _ _ (xH D b (jn C T_1)) _ _ [.int (nI (al S u v i))]
        have hal4 : al S u v i < 4 := by rcases al_cases S u v i with ⟨q, -⟩ | ⟨-, ⟨q, -⟩ | ⟨-, ⟨q, -⟩ | ⟨q, -⟩⟩⟩ <;> omega
        refine xi_istore_n (lv' := [some (.ref (b + oMod)), some (.int (nI i)), some (.int (nI j)), some (.int (nI (al S u v i)))]) hC dX8_read_38 (pc' := 39) rfl rfl (by decide) rfl ?_
        refine xi_iload_n hC dX8_read_39 (pc' := 40) rfl rfl rfl ?_
        refine xn_ifne (tgt := 75) hC dX8_read_40 (pc' := 43) rfl (by decide) (by omega) (fun zc40 => ?_) (fun zc40 => ?_)
        · skip
          refine xi_iload_n hC dX8_read_75 (pc' := 76) rfl rfl rfl ?_
          refine xi_ireturn hC dX8_read_76 hr rfl ?_
          refine ⟨_, _, rfl, ⟨fun q => absurd ⟨⟨i, hi, rfl⟩, ⟨j, hj, rfl⟩⟩ q, fun i' j' hi' hj' e1 e4 => ?_⟩, rfl⟩
          obtain rfl := nI_inj (by omega) (by omega) e1
          obtain rfl := nI_inj (by omega) (by omega) e4
          refine ⟨fun q => absurd ((alm_pos hae (by omega)).mp q) (by omega), fun _ v' k' hv' hk' e2 e3 => ?_⟩
          obtain rfl := nI_inj (by omega) (by omega) (hV.symm.trans e2)
          obtain rfl := nI_inj (by omega) (by omega) (hk.symm.trans e3)
          exact ⟨_, hO_2, rfl, fun q => absurd q zc40, fun _ => rfl⟩
        · skip
          refine xi_aload_n hC dX8_read_43 (pc' := 44) rfl rfl rfl ?_
          refine xg8_hasRead hC dX8_read_44 (pc' := 47) rfl xw_f_X8_50 kd_oMod ?_
          refine xi_iload_n hC dX8_read_47 (pc' := 48) rfl rfl rfl ?_
          refine xi_iconst (v := nI 1) hC dX8_read_48 (pc' := 49) rfl (by decide +kernel) ?_
          refine xt_s_b hC dX8_read_49 (pc' := 50) rfl (N := 5) kd_m_hasRead (by decide) (by decide) rfl (by omega) (by decide) ?_
          refine xi_aload_n hC dX8_read_50 (pc' := 51) rfl rfl rfl ?_
          refine xg8_readOf hC dX8_read_51 (pc' := 54) rfl xw_f_X8_53 kd_oMod ?_
          refine xi_iload_n hC dX8_read_54 (pc' := 55) rfl rfl rfl ?_
          refine xi_aload_n hC dX8_read_55 (pc' := 56) rfl rfl rfl ?_
          refine xg8_row hC dX8_read_56 (pc' := 59) rfl xw_f_X8_7 kd_oMod ?_
          refine xi_bipush (v := nI 30) hC dX8_read_59 (pc' := 61) rfl (by decide +kernel) ?_
          refine xi_aload_n hC dX8_read_61 (pc' := 62) rfl rfl rfl ?_
          refine xg8_viewOf hC dX8_read_62 (pc' := 65) rfl xw_f_X8_19 kd_oMod ?_
          refine xi_iload_n hC dX8_read_65 (pc' := 66) rfl rfl rfl ?_
          refine xt_l_i hC dX8_read_66 (pc' := 67) rfl (N := 5) kd_m_viewOf (by decide) (by decide) rfl (by omega) ?_
          refine xtop (y := (T_1 m_viewOf i)) (by rw [sw_n (q := m_viewOf) (o := m_hasRead) (by first | (simp only [oMs, oVws, oScr, oSgn, oMod, oMem, oSig, oKno, oPro, oBox, oFst, oSnd, oLts, oLet, oNum, oVw, oEnt, oBef, oBk, oVs, oCon, oVec, m_row, m_keptOf, m_keptRow, m_viewOf, m_alarmOf, m_hasProof, m_depthOf, m_proofOf, m_signedOf, m_knownOf, m_doneOf, m_shownTo, m_sentBy, m_hasRead, m_readOf, m_lettersOf, m_letter, m_hand, m_text] <;> omega) | decide | omega | (simp only [oMs, oVws, oScr, oSgn, oMod, oMem, oSig, oKno, oPro, oBox, oFst, oSnd, oLts, oLet, oNum, oVw, oEnt, oBef, oBk, oVs, oCon, oVec, m_row, m_keptOf, m_keptRow, m_viewOf, m_alarmOf, m_hasProof, m_depthOf, m_proofOf, m_signedOf, m_knownOf, m_doneOf, m_shownTo, m_sentBy, m_hasRead, m_readOf, m_lettersOf, m_letter, m_hand, m_text] at * <;> omega))]) ?_
          refine xtop (y := (nI v)) ((congrFun (hO_2.out (Or.inl rfl)) i).trans hV) ?_
          refine xn_imul hC dX8_read_67 (pc' := 68) rfl ?_
          refine xi_bipush (v := nI 25) hC dX8_read_68 (pc' := 70) rfl (by decide +kernel) ?_
          refine xn_iadd hC dX8_read_70 (pc' := 71) rfl ?_
          refine xi_iload_n hC dX8_read_71 (pc' := 72) rfl rfl rfl ?_
          refine xn_iadd hC dX8_read_72 (pc' := 73) rfl ?_
          refine xt_l_i hC dX8_read_73 (pc' := 74) rfl (N := 180) kd_m_row (by decide) (by decide) rfl (by omega) ?_
          refine xtop (y := (T_1 m_row (((30 * v) + 25) + j))) (by rw [sw_n (q := m_row) (o := m_hasRead) (by first | (simp only [oMs, oVws, oScr, oSgn, oMod, oMem, oSig, oKno, oPro, oBox, oFst, oSnd, oLts, oLet, oNum, oVw, oEnt, oBef, oBk, oVs, oCon, oVec, m_row, m_keptOf, m_keptRow, m_viewOf, m_alarmOf, m_hasProof, m_depthOf, m_proofOf, m_signedOf, m_knownOf, m_doneOf, m_shownTo, m_sentBy, m_hasRead, m_readOf, m_lettersOf, m_letter, m_hand, m_text] <;> omega) | decide | omega | (simp only [oMs, oVws, oScr, oSgn, oMod, oMem, oSig, oKno, oPro, oBox, oFst, oSnd, oLts, oLet, oNum, oVw, oEnt, oBef, oBk, oVs, oCon, oVec, m_row, m_keptOf, m_keptRow, m_viewOf, m_alarmOf, m_hasProof, m_depthOf, m_proofOf, m_signedOf, m_knownOf, m_doneOf, m_shownTo, m_sentBy, m_hasRead, m_readOf, m_lettersOf, m_letter, m_hand, m_text] at * <;> omega))]) ?_
          refine xt_s_i hC dX8_read_74 (pc' := 75) rfl (N := 5) kd_m_readOf (by decide) (by decide) rfl (by omega) ?_
          refine xi_iload_n hC dX8_read_75 (pc' := 76) rfl rfl rfl ?_
          refine xi_ireturn hC dX8_read_76 hr rfl ?_
          refine ⟨_, _, rfl, ⟨fun q => absurd ⟨⟨i, hi, rfl⟩, ⟨j, hj, rfl⟩⟩ q, fun i' j' hi' hj' e1 e4 => ?_⟩, rfl⟩
          obtain rfl := nI_inj (by omega) (by omega) e1
          obtain rfl := nI_inj (by omega) (by omega) e4
          refine ⟨fun q => absurd ((alm_pos hae (by omega)).mp q) (by omega), fun _ v' k' hv' hk' e2 e3 => ?_⟩
          obtain rfl := nI_inj (by omega) (by omega) (hV.symm.trans e2)
          obtain rfl := nI_inj (by omega) (by omega) (hk.symm.trans e3)
          exact ⟨_, hO_2, rfl, fun _ => rfl, fun q => absurd zc40 q⟩
      · skip
        refine xi_sipush (v := -10003) hC dX8_read_29 (pc' := 32) rfl (by decide +kernel) ?_
        refine xi_ireturn hC dX8_read_32 hr rfl ?_
        refine ⟨_, S, rfl, ⟨fun q => absurd ⟨⟨i, hi, rfl⟩, ⟨j, hj, rfl⟩⟩ q, fun i' j' hi' hj' e1 e2 => ?_⟩, rfl⟩
        obtain rfl := nI_inj (by omega) (by omega) e1
        exact ⟨fun _ => ⟨rfl, rfl⟩, fun q => absurd ((alm_pos hae (by omega)).mpr (by omega)) q⟩
    · skip
      refine xi_sipush (v := -10001) hC dX8_read_16 (pc' := 19) rfl (by decide +kernel) ?_
      refine xi_ireturn hC dX8_read_19 hr rfl ?_
      exact ⟨_, S, rfl, ⟨fun _ => ⟨rfl, rfl⟩, fun i j h1 h2 e1 e2 => by first | exact absurd (show ∃ k, _ from ⟨j, h2, e2⟩) zc13 | exact absurd (show ∃ k, _ from ⟨i, h1, e1⟩) zc5⟩, rfl⟩

set_option maxRecDepth 100000 in
set_option maxHeartbeats 4000000 in
theorem c_X8_lastRead (l : Launch) (D : XD) (b n : Nat) {C S : XM} {u w : Nat} (hW : MW S u w) {x : Int32} : xM l yX8_lastRead cX8_lastRead 2 (some .int) 2 43 0 0 D b n [.ref (b + oMod), .int x] (xH D b (jn C S)) n (fun y' h' => ∃ r : Int32, y' = some (.int r) ∧ s_last S u x r ∧ h' = xH D b (jn C S)) := by
  refine xM.of (lv := [some (.ref (b + oMod)), some (.int x)]) (by decide +kernel) rfl (List.forall_mem_cons.mpr ⟨rfl, List.forall_mem_cons.mpr ⟨rfl, fun _ h => absurd h List.not_mem_nil⟩⟩) (Nat.le_of_ble_eq_true rfl) rfl ?_
  intro p e s m args below meth c hC hr hnm
  obtain ⟨hU, hN, hVw, hKp, hLt, hTx, hAl⟩ := id hW
  obtain ⟨hu, hu2, hu5⟩ := id hU
  obtain ⟨hn, hw1, hw6⟩ := id hN
  refine xi_aload_n hC dX8_lastRead_0 (pc' := 1) rfl rfl rfl ?_
  refine xi_iload_n hC dX8_lastRead_1 (pc' := 2) rfl rfl rfl ?_
  refine xi_callV (As := [.int x]) (rest := []) (c_X8_noUser l D b n (C := C) (S := S) (x := x) hU) hC dX8_lastRead_2 (pc' := 5) rfl xw_m_X8_126 xw_c_X8_noUser xw_ins_X8_noUser xw_sel_X8_noUser xw_ini_X8 xd_X8_noUser (xH_at.trans (xsh_8 kd_oMod)) rfl ⟨Nat.le_of_ble_eq_true rfl, Nat.le_of_ble_eq_true rfl⟩ rfl (Nat.le_of_ble_eq_true rfl) ⟨Nat.le_of_ble_eq_true rfl, Nat.le_of_ble_eq_true rfl⟩ ?_
  rintro _ _ ⟨rfl, rfl⟩
  show xV _ _ _ _ _ _ _ _ _ _ _ _ _ _ _ _ _ (xH D b (jn C S)) _ _ [.int (bI (¬ isU u x))]
  refine xb_ifeq (tgt := 12) hC dX8_lastRead_5 (pc' := 8) rfl (by decide) (fun zc5 => ?_) (fun zc5 => ?_)
  · skip
    obtain ⟨i, hi, rfl⟩ := Classical.not_not.mp zc5
    refine xi_aload_n hC dX8_lastRead_12 (pc' := 13) rfl rfl rfl ?_
    refine xg8_hasRead hC dX8_lastRead_13 (pc' := 16) rfl xw_f_X8_50 kd_oMod ?_
    refine xi_iload_n hC dX8_lastRead_16 (pc' := 17) rfl rfl rfl ?_
    refine xt_l_b hC dX8_lastRead_17 (pc' := 18) rfl (N := 5) kd_m_hasRead (by decide) (by decide) rfl (by omega) ?_
    refine xi_ifeq (tgt := 30) hC dX8_lastRead_18 (pc' := 21) rfl (by decide) (fun zc18 => ?_) (fun zc18 => ?_)
    · skip
      refine xi_sipush (v := -10005) hC dX8_lastRead_30 (pc' := 33) rfl (by decide +kernel) ?_
      refine xi_ireturn hC dX8_lastRead_33 hr rfl ?_
      refine ⟨_, rfl, ⟨fun q => absurd ⟨i, hi, rfl⟩ q, fun i' hi' e1 => ?_⟩, rfl⟩
      obtain rfl := nI_inj (by omega) (by omega) e1
      first
        | exact ⟨fun _ => rfl, fun q => absurd zc18 q⟩
        | exact ⟨fun q => absurd q zc18, fun _ => rfl⟩
    · skip
      refine xi_aload_n hC dX8_lastRead_21 (pc' := 22) rfl rfl rfl ?_
      refine xg8_readOf hC dX8_lastRead_22 (pc' := 25) rfl xw_f_X8_53 kd_oMod ?_
      refine xi_iload_n hC dX8_lastRead_25 (pc' := 26) rfl rfl rfl ?_
      refine xt_l_i hC dX8_lastRead_26 (pc' := 27) rfl (N := 5) kd_m_readOf (by decide) (by decide) rfl (by omega) ?_
      refine xi_goto (tgt := 33) hC dX8_lastRead_27 (by decide) ?_
      refine xi_ireturn hC dX8_lastRead_33 hr rfl ?_
      refine ⟨_, rfl, ⟨fun q => absurd ⟨i, hi, rfl⟩ q, fun i' hi' e1 => ?_⟩, rfl⟩
      obtain rfl := nI_inj (by omega) (by omega) e1
      first
        | exact ⟨fun _ => rfl, fun q => absurd zc18 q⟩
        | exact ⟨fun q => absurd q zc18, fun _ => rfl⟩
  · skip
    refine xi_sipush (v := -10001) hC dX8_lastRead_8 (pc' := 11) rfl (by decide +kernel) ?_
    refine xi_ireturn hC dX8_lastRead_11 hr rfl ?_
    exact ⟨_, rfl, ⟨fun _ => rfl, fun i h e => absurd ⟨i, h, e⟩ zc5⟩, rfl⟩

set_option maxRecDepth 100000 in
set_option maxHeartbeats 4000000 in
theorem c_X8_check (l : Launch) (D : XD) (b n : Nat) {C S : XM} {u w : Nat} (hW : MW S u w) {x : Int32} : xM l yX8_check cX8_check 2 (some .int) 4 97 0 0 D b n [.ref (b + oMod), .int x] (xH D b (jn C S)) n (fun y' h' => ∃ (r : Int32) (T : XM), y' = some (.int r) ∧ s_check S u x r T ∧ h' = xH D b (jn C T)) := by
  refine xM.of (lv := [some (.ref (b + oMod)), some (.int x)]) (by decide +kernel) rfl (List.forall_mem_cons.mpr ⟨rfl, List.forall_mem_cons.mpr ⟨rfl, fun _ h => absurd h List.not_mem_nil⟩⟩) (Nat.le_of_ble_eq_true rfl) rfl ?_
  intro p e s m args below meth c hC hr hnm
  obtain ⟨hU, hN, hVw, hKp, hLt, hTx, hAl⟩ := id hW
  obtain ⟨hu, hu2, hu5⟩ := id hU
  obtain ⟨hn, hw1, hw6⟩ := id hN
  refine xi_aload_n hC dX8_check_0 (pc' := 1) rfl rfl rfl ?_
  refine xi_iload_n hC dX8_check_1 (pc' := 2) rfl rfl rfl ?_
  refine xi_callV (As := [.int x]) (rest := []) (c_X8_noUser l D b n (C := C) (S := S) (x := x) hU) hC dX8_check_2 (pc' := 5) rfl xw_m_X8_126 xw_c_X8_noUser xw_ins_X8_noUser xw_sel_X8_noUser xw_ini_X8 xd_X8_noUser (xH_at.trans (xsh_8 kd_oMod)) rfl ⟨Nat.le_of_ble_eq_true rfl, Nat.le_of_ble_eq_true rfl⟩ rfl (Nat.le_of_ble_eq_true rfl) ⟨Nat.le_of_ble_eq_true rfl, Nat.le_of_ble_eq_true rfl⟩ ?_
  rintro _ _ ⟨rfl, rfl⟩
  show xV _ _ _ _ _ _ _ _ _ _ _ _ _ _ _ _ _ (xH D b (jn C S)) _ _ [.int (bI (¬ isU u x))]
  refine xb_ifeq (tgt := 12) hC dX8_check_5 (pc' := 8) rfl (by decide) (fun zc5 => ?_) (fun zc5 => ?_)
  · skip
    obtain ⟨i, hi, rfl⟩ := Classical.not_not.mp zc5
    obtain ⟨a, ha5, hae⟩ := hAl i (by omega)
    obtain ⟨v, hvw, hV⟩ := hVw i (by omega)
    obtain ⟨k, hk5, hk⟩ := hKp v hvw
    refine xi_aload_n hC dX8_check_12 (pc' := 13) rfl rfl rfl ?_
    refine xg8_alarmOf hC dX8_check_13 (pc' := 16) rfl xw_f_X8_22 kd_oMod ?_
    refine xi_iload_n hC dX8_check_16 (pc' := 17) rfl rfl rfl ?_
    refine xt_l_i hC dX8_check_17 (pc' := 18) rfl (N := 5) kd_m_alarmOf (by decide) (by decide) rfl (by omega) ?_
    refine xtop (y := (nI a)) (hae) ?_
    refine xn_ifle (tgt := 27) hC dX8_check_18 (pc' := 21) rfl (by decide) (by omega) (fun zc18 => ?_) (fun zc18 => ?_)
    · skip
      refine xi_aload_n hC dX8_check_27 (pc' := 28) rfl rfl rfl ?_
      refine xi_iload_n hC dX8_check_28 (pc' := 29) rfl rfl rfl ?_
      refine xi_callV (As := [.int (nI i)]) (rest := []) (c_X8_alarmFor l D b n (C := C) (S := S) (u := u) (v := v) (i := i) hU hV (by omega) (by omega)) hC dX8_check_29 (pc' := 32) rfl xw_m_X8_116 xw_c_X8_alarmFor xw_ins_X8_alarmFor xw_sel_X8_alarmFor xw_ini_X8 xd_X8_alarmFor (xH_at.trans (xsh_8 kd_oMod)) rfl ⟨Nat.le_of_ble_eq_true rfl, Nat.le_of_ble_eq_true rfl⟩ rfl (Nat.le_of_ble_eq_true rfl) ⟨Nat.le_of_ble_eq_true rfl, Nat.le_of_ble_eq_true rfl⟩ ?_
      rintro _ _ ⟨T_1, rfl, hSp_2, hP_3, rfl⟩
      show xV _ _ _ _ _ _ _ _ _ _ _ _ _ _ _ _ _ (xH D b (jn C T_1)) _ _ [.int (nI (al S u v i))]
      refine xi_ireturn hC dX8_check_32 hr rfl ?_
      refine ⟨_, _, rfl, ⟨hSp_2, fun q => absurd ⟨i, hi, rfl⟩ q, fun i' hi' e1 => ?_⟩, rfl⟩
      obtain rfl := nI_inj (by omega) (by omega) e1
      refine ⟨fun q => absurd ((alm_pos hae (by omega)).mp q) (by omega), fun _ v' hv' e2 => ?_⟩
      obtain rfl := nI_inj (by omega) (by omega) (hV.symm.trans e2)
      rfl
    · skip
      refine xi_sipush (v := -10003) hC dX8_check_21 (pc' := 24) rfl (by decide +kernel) ?_
      refine xi_goto (tgt := 32) hC dX8_check_24 (by decide) ?_
      refine xi_ireturn hC dX8_check_32 hr rfl ?_
      refine ⟨_, _, rfl, ⟨Sp.rf, fun q => absurd ⟨i, hi, rfl⟩ q, fun i' hi' e1 => ?_⟩, rfl⟩
      obtain rfl := nI_inj (by omega) (by omega) e1
      exact ⟨fun _ => rfl, fun q => absurd ((alm_pos hae (by omega)).mpr (by omega)) q⟩
  · skip
    refine xi_sipush (v := -10001) hC dX8_check_8 (pc' := 11) rfl (by decide +kernel) ?_
    refine xi_ireturn hC dX8_check_11 hr rfl ?_
    exact ⟨_, S, rfl, ⟨Sp.rf, fun _ => rfl, fun i h e => absurd ⟨i, h, e⟩ zc5⟩, rfl⟩

set_option maxRecDepth 100000 in
set_option maxHeartbeats 4000000 in
theorem c_X8_attach (l : Launch) (D : XD) (b n : Nat) {C S : XM} {u w : Nat} (hW : MW S u w) {x y : Int32} : xM l yX8_attach cX8_attach 4 (some .int) 2 43 0 0 D b n [.ref (b + oMod), .int x, .int y] (xH D b (jn C S)) n (fun y' h' => ∃ (r : Int32) (T : XM), y' = some (.int r) ∧ s_attach S u w x y r T ∧ h' = xH D b (jn C T)) := by
  refine xM.of (lv := [some (.ref (b + oMod)), some (.int x), some (.int y), none]) (by decide +kernel) rfl (List.forall_mem_cons.mpr ⟨rfl, List.forall_mem_cons.mpr ⟨rfl, List.forall_mem_cons.mpr ⟨rfl, fun _ h => absurd h List.not_mem_nil⟩⟩⟩) (Nat.le_of_ble_eq_true rfl) rfl ?_
  intro p e s m args below meth c hC hr hnm
  obtain ⟨hU, hN, hVw, hKp, hLt, hTx, hAl⟩ := id hW
  obtain ⟨hu, hu2, hu5⟩ := id hU
  obtain ⟨hn, hw1, hw6⟩ := id hN
  refine xi_aload_n hC dX8_attach_0 (pc' := 1) rfl rfl rfl ?_
  refine xi_iload_n hC dX8_attach_1 (pc' := 2) rfl rfl rfl ?_
  refine xi_callV (As := [.int x]) (rest := []) (c_X8_noUser l D b n (C := C) (S := S) (x := x) hU) hC dX8_attach_2 (pc' := 5) rfl xw_m_X8_126 xw_c_X8_noUser xw_ins_X8_noUser xw_sel_X8_noUser xw_ini_X8 xd_X8_noUser (xH_at.trans (xsh_8 kd_oMod)) rfl ⟨Nat.le_of_ble_eq_true rfl, Nat.le_of_ble_eq_true rfl⟩ rfl (Nat.le_of_ble_eq_true rfl) ⟨Nat.le_of_ble_eq_true rfl, Nat.le_of_ble_eq_true rfl⟩ ?_
  rintro _ _ ⟨rfl, rfl⟩
  show xV _ _ _ _ _ _ _ _ _ _ _ _ _ _ _ _ _ (xH D b (jn C S)) _ _ [.int (bI (¬ isU u x))]
  refine xb_ifne (tgt := 16) hC dX8_attach_5 (pc' := 8) rfl (by decide) (fun zc5 => ?_) (fun zc5 => ?_)
  · skip
    refine xi_sipush (v := -10001) hC dX8_attach_16 (pc' := 19) rfl (by decide +kernel) ?_
    refine xi_ireturn hC dX8_attach_19 hr rfl ?_
    exact ⟨_, S, rfl, ⟨fun _ => ⟨rfl, rfl⟩, fun i j h1 h2 e1 e2 => by first | exact absurd (show ∃ k, _ from ⟨j, h2, e2⟩) zc13 | exact absurd (show ∃ k, _ from ⟨i, h1, e1⟩) zc5⟩, rfl⟩
  · skip
    refine xi_aload_n hC dX8_attach_8 (pc' := 9) rfl rfl rfl ?_
    refine xi_iload_n hC dX8_attach_9 (pc' := 10) rfl rfl rfl ?_
    refine xi_callV (As := [.int y]) (rest := []) (c_X8_noView l D b n (C := C) (S := S) (x := y) hN) hC dX8_attach_10 (pc' := 13) rfl xw_m_X8_133 xw_c_X8_noView xw_ins_X8_noView xw_sel_X8_noView xw_ini_X8 xd_X8_noView (xH_at.trans (xsh_8 kd_oMod)) rfl ⟨Nat.le_of_ble_eq_true rfl, Nat.le_of_ble_eq_true rfl⟩ rfl (Nat.le_of_ble_eq_true rfl) ⟨Nat.le_of_ble_eq_true rfl, Nat.le_of_ble_eq_true rfl⟩ ?_
    rintro _ _ ⟨rfl, rfl⟩
    show xV _ _ _ _ _ _ _ _ _ _ _ _ _ _ _ _ _ (xH D b (jn C S)) _ _ [.int (bI (¬ isU w y))]
    refine xb_ifeq (tgt := 20) hC dX8_attach_13 (pc' := 16) rfl (by decide) (fun zc13 => ?_) (fun zc13 => ?_)
    · skip
      obtain ⟨i, hi, rfl⟩ := Classical.not_not.mp zc5
      obtain ⟨v, hv, rfl⟩ := Classical.not_not.mp zc13
      refine xi_aload_n hC dX8_attach_20 (pc' := 21) rfl rfl rfl ?_
      refine xg8_viewOf hC dX8_attach_21 (pc' := 24) rfl xw_f_X8_19 kd_oMod ?_
      refine xi_iload_n hC dX8_attach_24 (pc' := 25) rfl rfl rfl ?_
      refine xt_l_i hC dX8_attach_25 (pc' := 26) rfl (N := 5) kd_m_viewOf (by decide) (by decide) rfl (by omega) ?_
      refine xi_istore_n (lv' := [some (.ref (b + oMod)), some (.int (nI i)), some (.int (nI v)), some (.int (S m_viewOf i))]) hC dX8_attach_26 (pc' := 27) rfl rfl (by decide) rfl ?_
      refine xi_aload_n hC dX8_attach_27 (pc' := 28) rfl rfl rfl ?_
      refine xg8_viewOf hC dX8_attach_28 (pc' := 31) rfl xw_f_X8_19 kd_oMod ?_
      refine xi_iload_n hC dX8_attach_31 (pc' := 32) rfl rfl rfl ?_
      refine xi_iload_n hC dX8_attach_32 (pc' := 33) rfl rfl rfl ?_
      refine xt_s_i hC dX8_attach_33 (pc' := 34) rfl (N := 5) kd_m_viewOf (by decide) (by decide) rfl (by omega) ?_
      refine xi_iload_n hC dX8_attach_34 (pc' := 35) rfl rfl rfl ?_
      refine xi_ireturn hC dX8_attach_35 hr rfl ?_
      refine ⟨_, _, rfl, ⟨fun q => absurd ⟨⟨i, hi, rfl⟩, ⟨v, hv, rfl⟩⟩ q, fun i' v' hi' hv' e1 e2 => ?_⟩, rfl⟩
      obtain rfl := nI_inj (by omega) (by omega) e1
      obtain rfl := nI_inj (by omega) (by omega) e2
      exact ⟨rfl, rfl⟩
    · skip
      refine xi_sipush (v := -10001) hC dX8_attach_16 (pc' := 19) rfl (by decide +kernel) ?_
      refine xi_ireturn hC dX8_attach_19 hr rfl ?_
      exact ⟨_, S, rfl, ⟨fun _ => ⟨rfl, rfl⟩, fun i j h1 h2 e1 e2 => by first | exact absurd (show ∃ k, _ from ⟨j, h2, e2⟩) zc13 | exact absurd (show ∃ k, _ from ⟨i, h1, e1⟩) zc5⟩, rfl⟩

set_option maxRecDepth 100000 in
set_option maxHeartbeats 4000000 in
theorem c_X8_rollBack (l : Launch) (D : XD) (b n : Nat) {C S : XM} {u w : Nat} (hW : MW S u w) {x y : Int32} : xM l yX8_rollBack cX8_rollBack 4 (some .int) 2 43 0 0 D b n [.ref (b + oMod), .int x, .int y] (xH D b (jn C S)) n (fun y' h' => ∃ (r : Int32) (T : XM), y' = some (.int r) ∧ s_roll S w x y r T ∧ h' = xH D b (jn C T)) := by
  refine xM.of (lv := [some (.ref (b + oMod)), some (.int x), some (.int y), none]) (by decide +kernel) rfl (List.forall_mem_cons.mpr ⟨rfl, List.forall_mem_cons.mpr ⟨rfl, List.forall_mem_cons.mpr ⟨rfl, fun _ h => absurd h List.not_mem_nil⟩⟩⟩) (Nat.le_of_ble_eq_true rfl) rfl ?_
  intro p e s m args below meth c hC hr hnm
  obtain ⟨hU, hN, hVw, hKp, hLt, hTx, hAl⟩ := id hW
  obtain ⟨hu, hu2, hu5⟩ := id hU
  obtain ⟨hn, hw1, hw6⟩ := id hN
  refine xi_aload_n hC dX8_rollBack_0 (pc' := 1) rfl rfl rfl ?_
  refine xi_iload_n hC dX8_rollBack_1 (pc' := 2) rfl rfl rfl ?_
  refine xi_callV (As := [.int x]) (rest := []) (c_X8_noView l D b n (C := C) (S := S) (x := x) hN) hC dX8_rollBack_2 (pc' := 5) rfl xw_m_X8_133 xw_c_X8_noView xw_ins_X8_noView xw_sel_X8_noView xw_ini_X8 xd_X8_noView (xH_at.trans (xsh_8 kd_oMod)) rfl ⟨Nat.le_of_ble_eq_true rfl, Nat.le_of_ble_eq_true rfl⟩ rfl (Nat.le_of_ble_eq_true rfl) ⟨Nat.le_of_ble_eq_true rfl, Nat.le_of_ble_eq_true rfl⟩ ?_
  rintro _ _ ⟨rfl, rfl⟩
  show xV _ _ _ _ _ _ _ _ _ _ _ _ _ _ _ _ _ (xH D b (jn C S)) _ _ [.int (bI (¬ isU w x))]
  refine xb_ifeq (tgt := 12) hC dX8_rollBack_5 (pc' := 8) rfl (by decide) (fun zc5 => ?_) (fun zc5 => ?_)
  · skip
    obtain ⟨v, hv, rfl⟩ := Classical.not_not.mp zc5
    obtain ⟨k, hk5, hk⟩ := hKp v hv
    refine xi_iload_n hC dX8_rollBack_12 (pc' := 13) rfl rfl rfl ?_
    refine xi_iconst (v := nI 1) hC dX8_rollBack_13 (pc' := 14) rfl (by decide +kernel) ?_
    refine xi_iconst (v := nI 5) hC dX8_rollBack_14 (pc' := 15) rfl (by decide +kernel) ?_
    refine xi_callS (As := [.int y, .int (nI 1), .int (nI 5)]) (rest := []) (c_X8_in l D b n (C := C) (S := S) (x := y) (lo := (nI 1)) (hi := (nI 5))) hC dX8_rollBack_15 (pc' := 18) rfl xw_m_X8_83 xw_c_X8_in xw_sta_X8_in xw_ini_X8 xd_X8_in ⟨Nat.le_of_ble_eq_true rfl, Nat.le_of_ble_eq_true rfl⟩ rfl (Nat.le_of_ble_eq_true rfl) ⟨Nat.le_of_ble_eq_true rfl, Nat.le_of_ble_eq_true rfl⟩ ?_
    rintro _ _ ⟨rfl, rfl⟩
    show xV _ _ _ _ _ _ _ _ _ _ _ _ _ _ _ _ _ (xH D b (jn C S)) _ _ [.int (bI ((nI 1) ≤ y ∧ y ≤ (nI 5)))]
    refine xb_ifne (tgt := 25) hC dX8_rollBack_18 (pc' := 21) rfl (by decide) (fun zc18 => ?_) (fun zc18 => ?_)
    · skip
      obtain ⟨z, hz1, hz5, rfl⟩ := rng15 zc18
      refine xi_aload_n hC dX8_rollBack_25 (pc' := 26) rfl rfl rfl ?_
      refine xg8_keptOf hC dX8_rollBack_26 (pc' := 29) rfl xw_f_X8_13 kd_oMod ?_
      refine xi_iload_n hC dX8_rollBack_29 (pc' := 30) rfl rfl rfl ?_
      refine xt_l_i hC dX8_rollBack_30 (pc' := 31) rfl (N := 6) kd_m_keptOf (by decide) (by decide) rfl (by omega) ?_
      refine xtop (y := (nI k)) (hk) ?_
      refine xi_iload_n hC dX8_rollBack_31 (pc' := 32) rfl rfl rfl ?_
      refine xn_icmpge (tgt := 39) hC dX8_rollBack_32 (pc' := 35) rfl (by decide) (by omega) (by omega) (fun zc32 => ?_) (fun zc32 => ?_)
      · skip
        refine xi_aload_n hC dX8_rollBack_39 (pc' := 40) rfl rfl rfl ?_
        refine xg8_keptOf hC dX8_rollBack_40 (pc' := 43) rfl xw_f_X8_13 kd_oMod ?_
        refine xi_iload_n hC dX8_rollBack_43 (pc' := 44) rfl rfl rfl ?_
        refine xi_dup2 hC dX8_rollBack_44 (pc' := 45) rfl rfl rfl ?_
        refine xt_l_i hC dX8_rollBack_45 (pc' := 46) rfl (N := 6) kd_m_keptOf (by decide) (by decide) rfl (by omega) ?_
        refine xtop (y := (nI k)) (hk) ?_
        refine xi_iload_n hC dX8_rollBack_46 (pc' := 47) rfl rfl rfl ?_
        refine xn_isub hC dX8_rollBack_47 (pc' := 48) rfl (by omega) ?_
        refine xt_s_i hC dX8_rollBack_48 (pc' := 49) rfl (N := 6) kd_m_keptOf (by decide) (by decide) rfl (by omega) ?_
        refine xi_iconst (v := nI 0) hC dX8_rollBack_49 (pc' := 50) rfl (by decide +kernel) ?_
        refine xi_istore_n (lv' := [some (.ref (b + oMod)), some (.int (nI v)), some (.int (nI z)), some (.int (nI 0))]) hC dX8_rollBack_50 (pc' := 51) rfl rfl (by decide) rfl ?_
        refine xstate (congrArg (jn C) ((su_self (o := m_row)).trans (congrArg (su _ m_row) (show sw S m_keptOf v (nI (k - z)) m_row = cpy 0 (S m_row) (30 * v) (sl (S m_keptRow) (150 * v + 30 * (k - z))) from by rw [sw_n (by decide), cpy_0])))) ?_
        have L51 : ∀ (d : Nat) (j : Nat), 30 - j < d → (j ≤ 30) → xV p l e (xR 2 43 0 0) s m args below meth c D b 4 0 0 (MQ below (xQ D b n (fun y' h' => ∃ (r : Int32) (T : XM), y' = some (.int r) ∧ s_roll S w (nI v) (nI z) r T ∧ h' = xH D b (jn C T))) args s 0 0 (fun q => b ≤ q)) n (xH D b (jn C (su (sw S m_keptOf v (nI (k - z))) m_row (cpy j (S m_row) (30 * v) (sl (S m_keptRow) (150 * v + 30 * (k - z))))))) 51 [some (.ref (b + oMod)), some (.int (nI v)), some (.int (nI z)), some (.int (nI j))] [] := by
          intro d
          induction d with
          | zero => intro j h; exact absurd h (Nat.not_lt_zero _)
          | succ d ih51 =>
            intro j hd51 hj
            refine xi_iload_n hC dX8_rollBack_51 (pc' := 52) rfl rfl rfl ?_
            refine xi_bipush (v := nI 30) hC dX8_rollBack_52 (pc' := 54) rfl (by decide +kernel) ?_
            refine xn_icmpge (tgt := 96) hC dX8_rollBack_54 (pc' := 57) rfl (by decide) (by omega) (by omega) (fun zc54 => ?_) (fun zc54 => ?_)
            · skip
              refine xi_aload_n hC dX8_rollBack_96 (pc' := 97) rfl rfl rfl ?_
              refine xg8_keptOf hC dX8_rollBack_97 (pc' := 100) rfl xw_f_X8_13 kd_oMod ?_
              refine xi_iload_n hC dX8_rollBack_100 (pc' := 101) rfl rfl rfl ?_
              refine xt_l_i hC dX8_rollBack_101 (pc' := 102) rfl (N := 6) kd_m_keptOf (by decide) (by decide) rfl (by omega) ?_
              refine xtop (y := (nI (k - z))) (by rw [su_n (q := m_keptOf) (o := m_row) (by first | (simp only [oMs, oVws, oScr, oSgn, oMod, oMem, oSig, oKno, oPro, oBox, oFst, oSnd, oLts, oLet, oNum, oVw, oEnt, oBef, oBk, oVs, oCon, oVec, m_row, m_keptOf, m_keptRow, m_viewOf, m_alarmOf, m_hasProof, m_depthOf, m_proofOf, m_signedOf, m_knownOf, m_doneOf, m_shownTo, m_sentBy, m_hasRead, m_readOf, m_lettersOf, m_letter, m_hand, m_text] <;> omega) | decide | omega | (simp only [oMs, oVws, oScr, oSgn, oMod, oMem, oSig, oKno, oPro, oBox, oFst, oSnd, oLts, oLet, oNum, oVw, oEnt, oBef, oBk, oVs, oCon, oVec, m_row, m_keptOf, m_keptRow, m_viewOf, m_alarmOf, m_hasProof, m_depthOf, m_proofOf, m_signedOf, m_knownOf, m_doneOf, m_shownTo, m_sentBy, m_hasRead, m_readOf, m_lettersOf, m_letter, m_hand, m_text] at * <;> omega)), sw_s]) ?_
              refine xi_ireturn hC dX8_rollBack_102 hr rfl ?_
              obtain rfl : j = 30 := by omega
              refine ⟨_, _, rfl, ⟨fun q => absurd ⟨v, hv, rfl⟩ q, fun v' hv' e1 => ?_⟩, rfl⟩
              obtain rfl := nI_inj (by omega) (by omega) e1
              refine ⟨fun q => absurd zc18 q, fun z' k' q1 q2 q3 q4 q5 => ?_⟩
              obtain rfl := nI_inj (by omega) (by omega) q3
              obtain rfl := nI_inj (by omega) (by omega) (hk.symm.trans q5)
              exact ⟨fun q => by omega, fun _ => ⟨rfl, by rw [su_n (by decide), sw_o], su_s, fun o q1 q2 => by rw [su_n q2, sw_n q1]⟩⟩
            · skip
              refine xi_aload_n hC dX8_rollBack_57 (pc' := 58) rfl rfl rfl ?_
              refine xg8_row hC dX8_rollBack_58 (pc' := 61) rfl xw_f_X8_7 kd_oMod ?_
              refine xi_bipush (v := nI 30) hC dX8_rollBack_61 (pc' := 63) rfl (by decide +kernel) ?_
              refine xi_iload_n hC dX8_rollBack_63 (pc' := 64) rfl rfl rfl ?_
              refine xn_imul hC dX8_rollBack_64 (pc' := 65) rfl ?_
              refine xi_iload_n hC dX8_rollBack_65 (pc' := 66) rfl rfl rfl ?_
              refine xn_iadd hC dX8_rollBack_66 (pc' := 67) rfl ?_
              refine xi_aload_n hC dX8_rollBack_67 (pc' := 68) rfl rfl rfl ?_
              refine xg8_keptRow hC dX8_rollBack_68 (pc' := 71) rfl xw_f_X8_16 kd_oMod ?_
              refine xi_sipush (v := nI 150) hC dX8_rollBack_71 (pc' := 74) rfl (by decide +kernel) ?_
              refine xi_iload_n hC dX8_rollBack_74 (pc' := 75) rfl rfl rfl ?_
              refine xn_imul hC dX8_rollBack_75 (pc' := 76) rfl ?_
              refine xi_bipush (v := nI 30) hC dX8_rollBack_76 (pc' := 78) rfl (by decide +kernel) ?_
              refine xi_aload_n hC dX8_rollBack_78 (pc' := 79) rfl rfl rfl ?_
              refine xg8_keptOf hC dX8_rollBack_79 (pc' := 82) rfl xw_f_X8_13 kd_oMod ?_
              refine xi_iload_n hC dX8_rollBack_82 (pc' := 83) rfl rfl rfl ?_
              refine xt_l_i hC dX8_rollBack_83 (pc' := 84) rfl (N := 6) kd_m_keptOf (by decide) (by decide) rfl (by omega) ?_
              refine xtop (y := (nI (k - z))) (by rw [su_n (q := m_keptOf) (o := m_row) (by first | (simp only [oMs, oVws, oScr, oSgn, oMod, oMem, oSig, oKno, oPro, oBox, oFst, oSnd, oLts, oLet, oNum, oVw, oEnt, oBef, oBk, oVs, oCon, oVec, m_row, m_keptOf, m_keptRow, m_viewOf, m_alarmOf, m_hasProof, m_depthOf, m_proofOf, m_signedOf, m_knownOf, m_doneOf, m_shownTo, m_sentBy, m_hasRead, m_readOf, m_lettersOf, m_letter, m_hand, m_text] <;> omega) | decide | omega | (simp only [oMs, oVws, oScr, oSgn, oMod, oMem, oSig, oKno, oPro, oBox, oFst, oSnd, oLts, oLet, oNum, oVw, oEnt, oBef, oBk, oVs, oCon, oVec, m_row, m_keptOf, m_keptRow, m_viewOf, m_alarmOf, m_hasProof, m_depthOf, m_proofOf, m_signedOf, m_knownOf, m_doneOf, m_shownTo, m_sentBy, m_hasRead, m_readOf, m_lettersOf, m_letter, m_hand, m_text] at * <;> omega)), sw_s]) ?_
              refine xn_imul hC dX8_rollBack_84 (pc' := 85) rfl ?_
              refine xn_iadd hC dX8_rollBack_85 (pc' := 86) rfl ?_
              refine xi_iload_n hC dX8_rollBack_86 (pc' := 87) rfl rfl rfl ?_
              refine xn_iadd hC dX8_rollBack_87 (pc' := 88) rfl ?_
              refine xt_l_i hC dX8_rollBack_88 (pc' := 89) rfl (N := 900) kd_m_keptRow (by decide) (by decide) rfl (by omega) ?_
              refine xtop (y := (S m_keptRow (((150 * v) + (30 * (k - z))) + j))) (by rw [su_n (q := m_keptRow) (o := m_row) (by first | (simp only [oMs, oVws, oScr, oSgn, oMod, oMem, oSig, oKno, oPro, oBox, oFst, oSnd, oLts, oLet, oNum, oVw, oEnt, oBef, oBk, oVs, oCon, oVec, m_row, m_keptOf, m_keptRow, m_viewOf, m_alarmOf, m_hasProof, m_depthOf, m_proofOf, m_signedOf, m_knownOf, m_doneOf, m_shownTo, m_sentBy, m_hasRead, m_readOf, m_lettersOf, m_letter, m_hand, m_text] <;> omega) | decide | omega | (simp only [oMs, oVws, oScr, oSgn, oMod, oMem, oSig, oKno, oPro, oBox, oFst, oSnd, oLts, oLet, oNum, oVw, oEnt, oBef, oBk, oVs, oCon, oVec, m_row, m_keptOf, m_keptRow, m_viewOf, m_alarmOf, m_hasProof, m_depthOf, m_proofOf, m_signedOf, m_knownOf, m_doneOf, m_shownTo, m_sentBy, m_hasRead, m_readOf, m_lettersOf, m_letter, m_hand, m_text] at * <;> omega)), sw_n (q := m_keptRow) (o := m_keptOf) (by first | (simp only [oMs, oVws, oScr, oSgn, oMod, oMem, oSig, oKno, oPro, oBox, oFst, oSnd, oLts, oLet, oNum, oVw, oEnt, oBef, oBk, oVs, oCon, oVec, m_row, m_keptOf, m_keptRow, m_viewOf, m_alarmOf, m_hasProof, m_depthOf, m_proofOf, m_signedOf, m_knownOf, m_doneOf, m_shownTo, m_sentBy, m_hasRead, m_readOf, m_lettersOf, m_letter, m_hand, m_text] <;> omega) | decide | omega | (simp only [oMs, oVws, oScr, oSgn, oMod, oMem, oSig, oKno, oPro, oBox, oFst, oSnd, oLts, oLet, oNum, oVw, oEnt, oBef, oBk, oVs, oCon, oVec, m_row, m_keptOf, m_keptRow, m_viewOf, m_alarmOf, m_hasProof, m_depthOf, m_proofOf, m_signedOf, m_knownOf, m_doneOf, m_shownTo, m_sentBy, m_hasRead, m_readOf, m_lettersOf, m_letter, m_hand, m_text] at * <;> omega))]) ?_
              refine xtop (y := (sl (S m_keptRow) (150 * v + 30 * (k - z)) j)) (rfl) ?_
              refine xt_s_i hC dX8_rollBack_89 (pc' := 90) rfl (N := 180) kd_m_row (by decide) (by decide) rfl (by omega) ?_
              refine xstate (congrArg (jn C) sw_su) ?_
              refine xstate (congrArg (jn C) (congrArg (su _ m_row) cpy_s)) ?_
              refine xn_iinc (lv' := [some (.ref (b + oMod)), some (.int (nI v)), some (.int (nI z)), some (.int (nI (j + 1)))]) hC dX8_rollBack_90 (pc' := 93) rfl rfl (by decide) rfl ?_
              refine xi_goto (tgt := 51) hC dX8_rollBack_93 (by decide) ?_
              refine ih51 _ (by omega) ?_
              · omega
        refine L51 _ _ (Nat.lt_succ_self _) ?_
        · omega
      · skip
        refine xi_sipush (v := -10005) hC dX8_rollBack_35 (pc' := 38) rfl (by decide +kernel) ?_
        refine xi_ireturn hC dX8_rollBack_38 hr rfl ?_
        refine ⟨_, S, rfl, ⟨fun q => absurd ⟨v, hv, rfl⟩ q, fun v' hv' e1 => ?_⟩, rfl⟩
        obtain rfl := nI_inj (by omega) (by omega) e1
        refine ⟨fun q => absurd zc18 q, fun z' k' q1 q2 q3 q4 q5 => ?_⟩
        obtain rfl := nI_inj (by omega) (by omega) q3
        obtain rfl := nI_inj (by omega) (by omega) (hk.symm.trans q5)
        exact ⟨fun _ => ⟨rfl, rfl⟩, fun q => by omega⟩
    · skip
      refine xi_sipush (v := -10002) hC dX8_rollBack_21 (pc' := 24) rfl (by decide +kernel) ?_
      refine xi_ireturn hC dX8_rollBack_24 hr rfl ?_
      exact ⟨_, S, rfl, ⟨fun q => absurd ⟨v, hv, rfl⟩ q, fun v' hv' e1 => ⟨fun _ => ⟨rfl, rfl⟩, fun z k' q1 q2 q3 => absurd ⟨by rw [q3]; exact nI_le q1 (by omega), by rw [q3]; exact nI_le q2 (by omega)⟩ zc18⟩⟩, rfl⟩
  · skip
    refine xi_sipush (v := -10001) hC dX8_rollBack_8 (pc' := 11) rfl (by decide +kernel) ?_
    refine xi_ireturn hC dX8_rollBack_11 hr rfl ?_
    exact ⟨_, S, rfl, ⟨fun _ => ⟨rfl, rfl⟩, fun i h e => absurd ⟨i, h, e⟩ zc5⟩, rfl⟩
