set_option maxRecDepth 100000 in
set_option maxHeartbeats 4000000 in
theorem c_X7_write (l : Launch) (D : XD) (b n : Nat) {σ S : XM} {N u w : Nat} (hS : SI N S u w) (hR : RR σ S u w) (hN : N + 1 < 2 ^ 31) {x y : Int32}  : xM l yX7_write cX7_write 4 (some .int) 4 93 0 0 D b n [.ref (b + 0), .int x, .int y] (xH D b σ) n (fun y' h' => ∃ (r : Int32) (τ : XM), y' = some (.int r) ∧ Hi τ σ ∧ (∀ (r' : Int32) (T : XM), s_write S u x y r' T → r = r' ∧ RR τ T u w) ∧ h' = xH D b τ) := by
  refine xM.of (lv := [some (.ref (b + 0)), some (.int x), some (.int y), none]) (by decide +kernel) rfl (List.forall_mem_cons.mpr ⟨rfl, List.forall_mem_cons.mpr ⟨rfl, List.forall_mem_cons.mpr ⟨rfl, fun _ h => absurd h List.not_mem_nil⟩⟩⟩) (Nat.le_of_ble_eq_true rfl) rfl ?_
  intro p e s m args below meth c hC hr hnm
  obtain ⟨hU, hn, hVw, hKp, hLt, hTx, hAl⟩ := id hS.1
  obtain ⟨hu, hu2, hu5⟩ := id hU
  obtain ⟨hn1, hw1, hw6⟩ := id hn
  obtain ⟨r3, r4, hMm, hVv, hTt⟩ := id hR
  refine xi_aload_n hC dX7_write_0 (pc' := 1) rfl rfl rfl ?_
  refine xi_iload_n hC dX7_write_1 (pc' := 2) rfl rfl rfl ?_
  refine xi_callV (As := [.int x]) (rest := []) (c_X7_isUser l D b n (σ := σ) (u := u) (x := x) r3 (by omega)) hC dX7_write_2 (pc' := 5) rfl xw_m_X7_41 xw_c_X7_isUser xw_ins_X7_isUser xw_sel_X7_isUser xw_ini_X7 xd_X7_isUser (xH_at.trans (xsh_7 kd_0)) rfl ⟨Nat.le_of_ble_eq_true rfl, Nat.le_of_ble_eq_true rfl⟩ rfl (Nat.le_of_ble_eq_true rfl) ⟨Nat.le_of_ble_eq_true rfl, Nat.le_of_ble_eq_true rfl⟩ ?_
  rintro _ _ ⟨rfl, rfl⟩
  show xV _ _ _ _ _ _ _ _ _ _ _ _ _ _ _ _ _ (xH D b σ) _ _ [.int (bI (isU u x))]
  refine xb_ifne (tgt := 12) hC dX7_write_5 (pc' := 8) rfl (by decide) (fun zc5 => ?_) (fun zc5 => ?_)
  · skip
    obtain ⟨i, hi, rfl⟩ := zc5
    refine xi_iload_n hC dX7_write_12 (pc' := 13) rfl rfl rfl ?_
    refine xi_sipush (v := -1000) hC dX7_write_13 (pc' := 16) rfl (by decide +kernel) ?_
    refine xi_icmplt (tgt := 26) hC dX7_write_16 (pc' := 19) rfl (by decide) (fun zc16 => ?_) (fun zc16 => ?_)
    · skip
      refine xi_sipush (v := -10002) hC dX7_write_26 (pc' := 29) rfl (by decide +kernel) ?_
      refine xi_ireturn hC dX7_write_29 hr rfl ?_
      refine ⟨_, σ, rfl, Hi.rf, fun r' T hs => ?_, rfl⟩
      obtain ⟨q1, q2⟩ := (hs.2 i hi rfl).1 (fun q => by first | exact i_not_lt.mpr q.1 zc16 | exact zc23 q.2)
      subst q2
      exact ⟨q1.symm, hR⟩
    · skip
      refine xi_iload_n hC dX7_write_19 (pc' := 20) rfl rfl rfl ?_
      refine xi_sipush (v := nI 1000) hC dX7_write_20 (pc' := 23) rfl (by decide +kernel) ?_
      refine xi_icmple (tgt := 30) hC dX7_write_23 (pc' := 26) rfl (by decide) (fun zc23 => ?_) (fun zc23 => ?_)
      · skip
        have hin : inR y := ⟨i_not_lt.mp zc16, zc23⟩
        obtain ⟨a, ha5, hae⟩ := hAl i (by omega)
        obtain ⟨v, hvw, hV⟩ := hVw i (by omega)
        obtain ⟨k, hk5, hk⟩ := hKp v hvw
        refine xi_aload_n hC dX7_write_30 (pc' := 31) rfl rfl rfl ?_
        refine xg7_members hC dX7_write_31 (pc' := 34) rfl xw_f_X7_11 kd_0 ?_
        refine xi_iload_n hC dX7_write_34 (pc' := 35) rfl rfl rfl ?_
        refine xa_members hC dX7_write_35 (pc' := 36) rfl kd_oMs rfl (by omega) ?_
        refine xg2_alarm hC dX7_write_36 (pc' := 39) rfl xw_f_X7_45 (kd_oMem (by omega)) ?_
        refine xtop (y := (nI a)) (((hMm i (by omega)).1.2.1).trans hae) ?_
        refine xn_ifeq (tgt := 46) hC dX7_write_39 (pc' := 42) rfl (by decide) (by omega) (fun zc39 => ?_) (fun zc39 => ?_)
        · skip
          refine xi_aload_n hC dX7_write_46 (pc' := 47) rfl rfl rfl ?_
          refine xi_iload_n hC dX7_write_47 (pc' := 48) rfl rfl rfl ?_
          refine xi_callV (As := [.int (nI i)]) (rest := []) (c_X7_operate l D b n (σ := σ) (S := S) (N := N) (u := u) (w := w) (i := i) (v := v) (k := k) hS hR hN hi hvw hV hk5 hk (by rw [hae, show a = 0 by omega])) hC dX7_write_48 (pc' := 51) rfl xw_m_X7_48 xw_c_X7_operate xw_ins_X7_operate xw_sel_X7_operate xw_ini_X7 xd_X7_operate (xH_at.trans (xsh_7 kd_0)) rfl ⟨Nat.le_of_ble_eq_true rfl, Nat.le_of_ble_eq_true rfl⟩ rfl (Nat.le_of_ble_eq_true rfl) ⟨Nat.le_of_ble_eq_true rfl, Nat.le_of_ble_eq_true rfl⟩ ?_
          rintro _ _ ⟨τ_1, rfl, hH_2, hO_3, rfl⟩
          show xV _ _ _ _ _ _ _ _ _ _ _ _ _ _ _ _ _ (xH D b τ_1) _ _ [.int (nI (al S u v i))]
          have hal4 := al_lt S u v i
          refine xi_istore_n (lv' := [some (.ref (b + 0)), some (.int (nI i)), some (.int y), some (.int (nI (al S u v i)))]) hC dX7_write_51 (pc' := 52) rfl rfl (by decide) rfl ?_
          refine xi_iload_n hC dX7_write_52 (pc' := 53) rfl rfl rfl ?_
          refine xn_ifne (tgt := 67) hC dX7_write_53 (pc' := 56) rfl (by decide) (by omega) (fun zc53 => ?_) (fun zc53 => ?_)
          · skip
            refine xi_iload_n hC dX7_write_67 (pc' := 68) rfl rfl rfl ?_
            refine xi_ireturn hC dX7_write_68 hr rfl ?_
            refine ⟨_, _, rfl, hH_2, fun r' T hs => ?_, rfl⟩
            obtain ⟨T1, h1, h2, h3, h4⟩ := ((hs.2 i hi rfl).2 hin).2 (fun q => absurd ((alm_pos hae (by omega)).mp q) (by omega)) v k (by omega) hk5 hV hk
            refine ⟨h2.symm, ?_⟩
            rw [h4 zc53]
            exact hO_3 T1 h1
          · skip
            obtain ⟨T0, hT0⟩ := mOper_ex S u v i k
            have hv4 : τ_1 (oMem i) 4 = nI v := ((hO_3 T0 hT0).2.2.1 i (by omega)).1.1.trans ((congrFun (hT0.out (Or.inl rfl)) i).trans hV)
            refine xi_aload_n hC dX7_write_56 (pc' := 57) rfl rfl rfl ?_
            refine xi_iload_n hC dX7_write_57 (pc' := 58) rfl rfl rfl ?_
            refine xi_callV (As := [.int (nI i)]) (rest := []) (c_X7_entriesShownTo l D b n (σ := τ_1) (i := i) (v := v) (by omega) (by omega) hv4) hC dX7_write_58 (pc' := 61) rfl xw_m_X7_52 xw_c_X7_entriesShownTo xw_ins_X7_entriesShownTo xw_sel_X7_entriesShownTo xw_ini_X7 xd_X7_entriesShownTo (xH_at.trans (xsh_7 kd_0)) rfl ⟨Nat.le_of_ble_eq_true rfl, Nat.le_of_ble_eq_true rfl⟩ rfl (Nat.le_of_ble_eq_true rfl) ⟨Nat.le_of_ble_eq_true rfl, Nat.le_of_ble_eq_true rfl⟩ ?_
            rintro _ _ ⟨rfl, rfl⟩
            show xV _ _ _ _ _ _ _ _ _ _ _ _ _ _ _ _ _ (xH D b τ_1) _ _ [.ref (b + (oEnt (oVw v)))]
            refine xg1_contents hC dX7_write_61 (pc' := 64) rfl xw_f_X7_56 (kd_oEnt (kd_oVw (by omega))) ?_
            refine xi_iload_n hC dX7_write_64 (pc' := 65) rfl rfl rfl ?_
            refine xi_iload_n hC dX7_write_65 (pc' := 66) rfl rfl rfl ?_
            refine xs_i hC dX7_write_66 (pc' := 67) rfl (N := 5) (kd_oCon (kd_oEnt (kd_oVw (by omega)))) (by decide) rfl (by omega) ?_
            refine xi_iload_n hC dX7_write_67 (pc' := 68) rfl rfl rfl ?_
            refine xi_ireturn hC dX7_write_68 hr rfl ?_
            refine ⟨_, _, rfl, fun o ho => by rw [sw_n (by simp only [oNum, oKno, oSig, oPro, oFst, oSnd, oBox, oLet, oLts, oMem, oVw, oEnt, oBef, oBk, oVs, oVec, oCon] at * <;> omega)]; exact hH_2 o ho, fun r' T hs => ?_, rfl⟩
            obtain ⟨T1, h1, h2, h3, h4⟩ := ((hs.2 i hi rfl).2 hin).2 (fun q => absurd ((alm_pos hae (by omega)).mp q) (by omega)) v k (by omega) hk5 hV hk
            refine ⟨h2.symm, ?_⟩
            rw [h3 zc53]
            exact R_con (hO_3 T1 h1) hw6 hvw (by omega)
        · skip
          refine xi_sipush (v := -10003) hC dX7_write_42 (pc' := 45) rfl (by decide +kernel) ?_
          refine xi_ireturn hC dX7_write_45 hr rfl ?_
          refine ⟨_, σ, rfl, Hi.rf, fun r' T hs => ?_, rfl⟩
          obtain ⟨q1, q2⟩ := ((hs.2 i hi rfl).2 hin).1 ((alm_pos hae (by omega)).mpr (by omega))
          subst q2
          exact ⟨q1.symm, hR⟩
      · skip
        refine xi_sipush (v := -10002) hC dX7_write_26 (pc' := 29) rfl (by decide +kernel) ?_
        refine xi_ireturn hC dX7_write_29 hr rfl ?_
        refine ⟨_, σ, rfl, Hi.rf, fun r' T hs => ?_, rfl⟩
        obtain ⟨q1, q2⟩ := (hs.2 i hi rfl).1 (fun q => by first | exact i_not_lt.mpr q.1 zc16 | exact zc23 q.2)
        subst q2
        exact ⟨q1.symm, hR⟩
  · skip
    refine xi_sipush (v := -10001) hC dX7_write_8 (pc' := 11) rfl (by decide +kernel) ?_
    refine xi_ireturn hC dX7_write_11 hr rfl ?_
    refine ⟨_, σ, rfl, Hi.rf, fun r' T hs => ?_, rfl⟩
    obtain ⟨q1, q2⟩ := hs.1 zc5
    subst q2
    exact ⟨q1.symm, hR⟩
set_option maxRecDepth 100000 in
set_option maxHeartbeats 4000000 in
theorem c_X7_read (l : Launch) (D : XD) (b n : Nat) {σ S : XM} {N u w : Nat} (hS : SI N S u w) (hR : RR σ S u w) (hN : N + 1 < 2 ^ 31) {x y : Int32}  : xM l yX7_read cX7_read 4 (some .int) 4 93 0 0 D b n [.ref (b + 0), .int x, .int y] (xH D b σ) n (fun y' h' => ∃ (r : Int32) (τ : XM), y' = some (.int r) ∧ Hi τ σ ∧ (∀ (r' : Int32) (T : XM), s_read S u x y r' T → r = r' ∧ RR τ T u w) ∧ h' = xH D b τ) := by
  refine xM.of (lv := [some (.ref (b + 0)), some (.int x), some (.int y), none]) (by decide +kernel) rfl (List.forall_mem_cons.mpr ⟨rfl, List.forall_mem_cons.mpr ⟨rfl, List.forall_mem_cons.mpr ⟨rfl, fun _ h => absurd h List.not_mem_nil⟩⟩⟩) (Nat.le_of_ble_eq_true rfl) rfl ?_
  intro p e s m args below meth c hC hr hnm
  obtain ⟨hU, hn, hVw, hKp, hLt, hTx, hAl⟩ := id hS.1
  obtain ⟨hu, hu2, hu5⟩ := id hU
  obtain ⟨hn1, hw1, hw6⟩ := id hn
  obtain ⟨r3, r4, hMm, hVv, hTt⟩ := id hR
  refine xi_aload_n hC dX7_read_0 (pc' := 1) rfl rfl rfl ?_
  refine xi_iload_n hC dX7_read_1 (pc' := 2) rfl rfl rfl ?_
  refine xi_callV (As := [.int x]) (rest := []) (c_X7_isUser l D b n (σ := σ) (u := u) (x := x) r3 (by omega)) hC dX7_read_2 (pc' := 5) rfl xw_m_X7_41 xw_c_X7_isUser xw_ins_X7_isUser xw_sel_X7_isUser xw_ini_X7 xd_X7_isUser (xH_at.trans (xsh_7 kd_0)) rfl ⟨Nat.le_of_ble_eq_true rfl, Nat.le_of_ble_eq_true rfl⟩ rfl (Nat.le_of_ble_eq_true rfl) ⟨Nat.le_of_ble_eq_true rfl, Nat.le_of_ble_eq_true rfl⟩ ?_
  rintro _ _ ⟨rfl, rfl⟩
  show xV _ _ _ _ _ _ _ _ _ _ _ _ _ _ _ _ _ (xH D b σ) _ _ [.int (bI (isU u x))]
  refine xb_ifeq (tgt := 16) hC dX7_read_5 (pc' := 8) rfl (by decide) (fun zc5 => ?_) (fun zc5 => ?_)
  · skip
    refine xi_sipush (v := -10001) hC dX7_read_16 (pc' := 19) rfl (by decide +kernel) ?_
    refine xi_ireturn hC dX7_read_19 hr rfl ?_
    refine ⟨_, σ, rfl, Hi.rf, fun r' T hs => ?_, rfl⟩
    obtain ⟨q1, q2⟩ := (hs.1 (fun q => by first | exact zc5 q.1 | exact zc13 q.2))
    subst q2
    exact ⟨q1.symm, hR⟩
  · skip
    refine xi_aload_n hC dX7_read_8 (pc' := 9) rfl rfl rfl ?_
    refine xi_iload_n hC dX7_read_9 (pc' := 10) rfl rfl rfl ?_
    refine xi_callV (As := [.int y]) (rest := []) (c_X7_isUser l D b n (σ := σ) (u := u) (x := y) r3 (by omega)) hC dX7_read_10 (pc' := 13) rfl xw_m_X7_41 xw_c_X7_isUser xw_ins_X7_isUser xw_sel_X7_isUser xw_ini_X7 xd_X7_isUser (xH_at.trans (xsh_7 kd_0)) rfl ⟨Nat.le_of_ble_eq_true rfl, Nat.le_of_ble_eq_true rfl⟩ rfl (Nat.le_of_ble_eq_true rfl) ⟨Nat.le_of_ble_eq_true rfl, Nat.le_of_ble_eq_true rfl⟩ ?_
    rintro _ _ ⟨rfl, rfl⟩
    show xV _ _ _ _ _ _ _ _ _ _ _ _ _ _ _ _ _ (xH D b σ) _ _ [.int (bI (isU u y))]
    refine xb_ifne (tgt := 20) hC dX7_read_13 (pc' := 16) rfl (by decide) (fun zc13 => ?_) (fun zc13 => ?_)
    · skip
      obtain ⟨i, hi, rfl⟩ := zc5
      obtain ⟨j, hj, rfl⟩ := zc13
      obtain ⟨a, ha5, hae⟩ := hAl i (by omega)
      obtain ⟨v, hvw, hV⟩ := hVw i (by omega)
      obtain ⟨k, hk5, hk⟩ := hKp v hvw
      refine xi_aload_n hC dX7_read_20 (pc' := 21) rfl rfl rfl ?_
      refine xg7_members hC dX7_read_21 (pc' := 24) rfl xw_f_X7_11 kd_0 ?_
      refine xi_iload_n hC dX7_read_24 (pc' := 25) rfl rfl rfl ?_
      refine xa_members hC dX7_read_25 (pc' := 26) rfl kd_oMs rfl (by omega) ?_
      refine xg2_alarm hC dX7_read_26 (pc' := 29) rfl xw_f_X7_45 (kd_oMem (by omega)) ?_
      refine xtop (y := (nI a)) (((hMm i (by omega)).1.2.1).trans hae) ?_
      refine xn_ifeq (tgt := 36) hC dX7_read_29 (pc' := 32) rfl (by decide) (by omega) (fun zc29 => ?_) (fun zc29 => ?_)
      · skip
        refine xi_aload_n hC dX7_read_36 (pc' := 37) rfl rfl rfl ?_
        refine xi_iload_n hC dX7_read_37 (pc' := 38) rfl rfl rfl ?_
        refine xi_callV (As := [.int (nI i)]) (rest := []) (c_X7_operate l D b n (σ := σ) (S := S) (N := N) (u := u) (w := w) (i := i) (v := v) (k := k) hS hR hN hi hvw hV hk5 hk (by rw [hae, show a = 0 by omega])) hC dX7_read_38 (pc' := 41) rfl xw_m_X7_48 xw_c_X7_operate xw_ins_X7_operate xw_sel_X7_operate xw_ini_X7 xd_X7_operate (xH_at.trans (xsh_7 kd_0)) rfl ⟨Nat.le_of_ble_eq_true rfl, Nat.le_of_ble_eq_true rfl⟩ rfl (Nat.le_of_ble_eq_true rfl) ⟨Nat.le_of_ble_eq_true rfl, Nat.le_of_ble_eq_true rfl⟩ ?_
        rintro _ _ ⟨τ_1, rfl, hH_2, hO_3, rfl⟩
        show xV _ _ _ _ _ _ _ _ _ _ _ _ _ _ _ _ _ (xH D b τ_1) _ _ [.int (nI (al S u v i))]
        have hal4 := al_lt S u v i
        refine xi_istore_n (lv' := [some (.ref (b + 0)), some (.int (nI i)), some (.int (nI j)), some (.int (nI (al S u v i)))]) hC dX7_read_41 (pc' := 42) rfl rfl (by decide) rfl ?_
        refine xi_iload_n hC dX7_read_42 (pc' := 43) rfl rfl rfl ?_
        refine xn_ifne (tgt := 65) hC dX7_read_43 (pc' := 46) rfl (by decide) (by omega) (fun zc43 => ?_) (fun zc43 => ?_)
        · skip
          refine xi_iload_n hC dX7_read_65 (pc' := 66) rfl rfl rfl ?_
          refine xi_ireturn hC dX7_read_66 hr rfl ?_
          refine ⟨_, _, rfl, hH_2, fun r' T hs => ?_, rfl⟩
          obtain ⟨T1, h1, h2, h3, h4⟩ := (hs.2 i j hi hj rfl rfl).2 (fun q => absurd ((alm_pos hae (by omega)).mp q) (by omega)) v k (by omega) hk5 hV hk
          refine ⟨h2.symm, ?_⟩
          rw [h4 zc43]
          exact hO_3 T1 h1
        · skip
          obtain ⟨T0, hT0⟩ := mOper_ex S u v i k
          have hv4 : τ_1 (oMem i) 4 = nI v := ((hO_3 T0 hT0).2.2.1 i (by omega)).1.1.trans ((congrFun (hT0.out (Or.inl rfl)) i).trans hV)
          refine xi_aload_n hC dX7_read_46 (pc' := 47) rfl rfl rfl ?_
          refine xg7_members hC dX7_read_47 (pc' := 50) rfl xw_f_X7_11 kd_0 ?_
          refine xi_iload_n hC dX7_read_50 (pc' := 51) rfl rfl rfl ?_
          refine xa_members hC dX7_read_51 (pc' := 52) rfl kd_oMs rfl (by omega) ?_
          refine xi_aload_n hC dX7_read_52 (pc' := 53) rfl rfl rfl ?_
          refine xi_iload_n hC dX7_read_53 (pc' := 54) rfl rfl rfl ?_
          refine xi_callV (As := [.int (nI i)]) (rest := [.ref (b + (oMem i))]) (c_X7_entriesShownTo l D b n (σ := τ_1) (i := i) (v := v) (by omega) (by omega) hv4) hC dX7_read_54 (pc' := 57) rfl xw_m_X7_52 xw_c_X7_entriesShownTo xw_ins_X7_entriesShownTo xw_sel_X7_entriesShownTo xw_ini_X7 xd_X7_entriesShownTo (xH_at.trans (xsh_7 kd_0)) rfl ⟨Nat.le_of_ble_eq_true rfl, Nat.le_of_ble_eq_true rfl⟩ rfl (Nat.le_of_ble_eq_true rfl) ⟨Nat.le_of_ble_eq_true rfl, Nat.le_of_ble_eq_true rfl⟩ ?_
          rintro _ _ ⟨rfl, rfl⟩
          show xV _ _ _ _ _ _ _ _ _ _ _ _ _ _ _ _ _ (xH D b τ_1) _ _ [.ref (b + (oEnt (oVw v))), .ref (b + (oMem i))]
          refine xg1_contents hC dX7_read_57 (pc' := 60) rfl xw_f_X7_56 (kd_oEnt (kd_oVw (by omega))) ?_
          refine xi_iload_n hC dX7_read_60 (pc' := 61) rfl rfl rfl ?_
          refine xl_i hC dX7_read_61 (pc' := 62) rfl (N := 5) (kd_oCon (kd_oEnt (kd_oVw (by omega)))) (by decide) rfl (by omega) ?_
          refine xi_callV (As := [.int (τ_1 (oCon (oEnt (oVw v))) j)]) (rest := []) (c_X2_hear l D b n (σ := τ_1) (x := (τ_1 (oCon (oEnt (oVw v))) j)) (kd_oMem (by omega))) hC dX7_read_62 (pc' := 65) rfl xw_m_X7_62 xw_c_X2_hear xw_ins_X2_hear xw_sel_X2_hear xw_ini_X2 xd_X2_hear (xH_at.trans (xsh_2 (kd_oMem (by omega)))) rfl ⟨Nat.le_of_ble_eq_true rfl, Nat.le_of_ble_eq_true rfl⟩ rfl (Nat.le_of_ble_eq_true rfl) ⟨Nat.le_of_ble_eq_true rfl, Nat.le_of_ble_eq_true rfl⟩ ?_
          rintro _ _ ⟨rfl, rfl⟩
          show xV _ _ _ _ _ _ _ _ _ _ _ _ _ _ _ _ _ (xH D b (sw (sw τ_1 (oMem i) 7 (τ_1 (oCon (oEnt (oVw v))) j)) (oMem i) 6 (nI 1))) _ _ []
          refine xi_iload_n hC dX7_read_65 (pc' := 66) rfl rfl rfl ?_
          refine xi_ireturn hC dX7_read_66 hr rfl ?_
          refine ⟨_, _, rfl, fun o ho => by rw [sw_n (by simp only [oNum, oKno, oSig, oPro, oFst, oSnd, oBox, oLet, oLts, oMem, oVw, oEnt, oBef, oBk, oVs, oVec, oCon] at * <;> omega), sw_n (by simp only [oNum, oKno, oSig, oPro, oFst, oSnd, oBox, oLet, oLts, oMem, oVw, oEnt, oBef, oBk, oVs, oVec, oCon] at * <;> omega)]; exact hH_2 o ho, fun r' T hs => ?_, rfl⟩
          obtain ⟨T1, h1, h2, h3, h4⟩ := (hs.2 i j hi hj rfl rfl).2 (fun q => absurd ((alm_pos hae (by omega)).mp q) (by omega)) v k (by omega) hk5 hV hk
          refine ⟨h2.symm, ?_⟩
          have e := (((hO_3 T1 h1).2.2.2.1 v hvw).1 j (by omega)).2
          rw [h3 zc43, ← e]
          exact R_hear (hO_3 T1 h1) hw6 (by omega)
      · skip
        refine xi_sipush (v := -10003) hC dX7_read_32 (pc' := 35) rfl (by decide +kernel) ?_
        refine xi_ireturn hC dX7_read_35 hr rfl ?_
        refine ⟨_, σ, rfl, Hi.rf, fun r' T hs => ?_, rfl⟩
        obtain ⟨q1, q2⟩ := (hs.2 i j hi hj rfl rfl).1 ((alm_pos hae (by omega)).mpr (by omega))
        subst q2
        exact ⟨q1.symm, hR⟩
    · skip
      refine xi_sipush (v := -10001) hC dX7_read_16 (pc' := 19) rfl (by decide +kernel) ?_
      refine xi_ireturn hC dX7_read_19 hr rfl ?_
      refine ⟨_, σ, rfl, Hi.rf, fun r' T hs => ?_, rfl⟩
      obtain ⟨q1, q2⟩ := (hs.1 (fun q => by first | exact zc5 q.1 | exact zc13 q.2))
      subst q2
      exact ⟨q1.symm, hR⟩
set_option maxRecDepth 100000 in
set_option maxHeartbeats 4000000 in
theorem c_X7_lastRead (l : Launch) (D : XD) (b n : Nat) {σ S : XM} {N u w : Nat} (hS : SI N S u w) (hR : RR σ S u w) (hN : N + 1 < 2 ^ 31) {x : Int32}  : xM l yX7_lastRead cX7_lastRead 2 (some .int) 1 21 0 0 D b n [.ref (b + 0), .int x] (xH D b σ) n (fun y' h' => ∃ r : Int32, y' = some (.int r) ∧ (∀ r' : Int32, s_last S u x r' → r = r') ∧ h' = xH D b σ) := by
  refine xM.of (lv := [some (.ref (b + 0)), some (.int x)]) (by decide +kernel) rfl (List.forall_mem_cons.mpr ⟨rfl, List.forall_mem_cons.mpr ⟨rfl, fun _ h => absurd h List.not_mem_nil⟩⟩) (Nat.le_of_ble_eq_true rfl) rfl ?_
  intro p e s m args below meth c hC hr hnm
  obtain ⟨hU, hn, hVw, hKp, hLt, hTx, hAl⟩ := id hS.1
  obtain ⟨hu, hu2, hu5⟩ := id hU
  obtain ⟨hn1, hw1, hw6⟩ := id hn
  obtain ⟨r3, r4, hMm, hVv, hTt⟩ := id hR
  refine xi_aload_n hC dX7_lastRead_0 (pc' := 1) rfl rfl rfl ?_
  refine xi_iload_n hC dX7_lastRead_1 (pc' := 2) rfl rfl rfl ?_
  refine xi_callV (As := [.int x]) (rest := []) (c_X7_isUser l D b n (σ := σ) (u := u) (x := x) r3 (by omega)) hC dX7_lastRead_2 (pc' := 5) rfl xw_m_X7_41 xw_c_X7_isUser xw_ins_X7_isUser xw_sel_X7_isUser xw_ini_X7 xd_X7_isUser (xH_at.trans (xsh_7 kd_0)) rfl ⟨Nat.le_of_ble_eq_true rfl, Nat.le_of_ble_eq_true rfl⟩ rfl (Nat.le_of_ble_eq_true rfl) ⟨Nat.le_of_ble_eq_true rfl, Nat.le_of_ble_eq_true rfl⟩ ?_
  rintro _ _ ⟨rfl, rfl⟩
  show xV _ _ _ _ _ _ _ _ _ _ _ _ _ _ _ _ _ (xH D b σ) _ _ [.int (bI (isU u x))]
  refine xb_ifne (tgt := 12) hC dX7_lastRead_5 (pc' := 8) rfl (by decide) (fun zc5 => ?_) (fun zc5 => ?_)
  · skip
    obtain ⟨i, hi, rfl⟩ := zc5
    refine xi_aload_n hC dX7_lastRead_12 (pc' := 13) rfl rfl rfl ?_
    refine xg7_members hC dX7_lastRead_13 (pc' := 16) rfl xw_f_X7_11 kd_0 ?_
    refine xi_iload_n hC dX7_lastRead_16 (pc' := 17) rfl rfl rfl ?_
    refine xa_members hC dX7_lastRead_17 (pc' := 18) rfl kd_oMs rfl (by omega) ?_
    refine xg2_hasHeard hC dX7_lastRead_18 (pc' := 21) rfl xw_f_X7_66 (kd_oMem (by omega)) ?_
    refine xi_ifne (tgt := 28) hC dX7_lastRead_21 (pc' := 24) rfl (by decide) (fun zc21 => ?_) (fun zc21 => ?_)
    · skip
      refine xi_aload_n hC dX7_lastRead_28 (pc' := 29) rfl rfl rfl ?_
      refine xg7_members hC dX7_lastRead_29 (pc' := 32) rfl xw_f_X7_11 kd_0 ?_
      refine xi_iload_n hC dX7_lastRead_32 (pc' := 33) rfl rfl rfl ?_
      refine xa_members hC dX7_lastRead_33 (pc' := 34) rfl kd_oMs rfl (by omega) ?_
      refine xg2_heard hC dX7_lastRead_34 (pc' := 37) rfl xw_f_X7_70 (kd_oMem (by omega)) ?_
      refine xi_ireturn hC dX7_lastRead_37 hr rfl ?_
      exact ⟨_, rfl, fun r' hs => Eq.symm (((hs.2 i hi rfl).2 (fun q => zc21 (((hMm i (by omega)).1.2.2.2.2.2.1).trans q))).trans ((hMm i (by omega)).1.2.2.2.2.2.2 (fun q => zc21 (((hMm i (by omega)).1.2.2.2.2.2.1).trans q))).symm), rfl⟩
    · skip
      refine xi_sipush (v := -10005) hC dX7_lastRead_24 (pc' := 27) rfl (by decide +kernel) ?_
      refine xi_ireturn hC dX7_lastRead_27 hr rfl ?_
      exact ⟨_, rfl, fun r' hs => Eq.symm ((hs.2 i hi rfl).1 (((hMm i (by omega)).1.2.2.2.2.2.1).symm.trans zc21)), rfl⟩
  · skip
    refine xi_sipush (v := -10001) hC dX7_lastRead_8 (pc' := 11) rfl (by decide +kernel) ?_
    refine xi_ireturn hC dX7_lastRead_11 hr rfl ?_
    exact ⟨_, rfl, fun r' hs => Eq.symm (hs.1 zc5), rfl⟩
set_option maxRecDepth 100000 in
set_option maxHeartbeats 4000000 in
theorem c_X7_check (l : Launch) (D : XD) (b n : Nat) {σ S : XM} {N u w : Nat} (hS : SI N S u w) (hR : RR σ S u w) (hN : N + 1 < 2 ^ 31) {x : Int32}  : xM l yX7_check cX7_check 2 (some .int) 3 69 0 0 D b n [.ref (b + 0), .int x] (xH D b σ) n (fun y' h' => ∃ r : Int32, y' = some (.int r) ∧ (∀ (r' : Int32) (T : XM), s_check S u x r' T → r = r') ∧ h' = xH D b σ) := by
  refine xM.of (lv := [some (.ref (b + 0)), some (.int x)]) (by decide +kernel) rfl (List.forall_mem_cons.mpr ⟨rfl, List.forall_mem_cons.mpr ⟨rfl, fun _ h => absurd h List.not_mem_nil⟩⟩) (Nat.le_of_ble_eq_true rfl) rfl ?_
  intro p e s m args below meth c hC hr hnm
  obtain ⟨hU, hn, hVw, hKp, hLt, hTx, hAl⟩ := id hS.1
  obtain ⟨hu, hu2, hu5⟩ := id hU
  obtain ⟨hn1, hw1, hw6⟩ := id hn
  obtain ⟨r3, r4, hMm, hVv, hTt⟩ := id hR
  refine xi_aload_n hC dX7_check_0 (pc' := 1) rfl rfl rfl ?_
  refine xi_iload_n hC dX7_check_1 (pc' := 2) rfl rfl rfl ?_
  refine xi_callV (As := [.int x]) (rest := []) (c_X7_isUser l D b n (σ := σ) (u := u) (x := x) r3 (by omega)) hC dX7_check_2 (pc' := 5) rfl xw_m_X7_41 xw_c_X7_isUser xw_ins_X7_isUser xw_sel_X7_isUser xw_ini_X7 xd_X7_isUser (xH_at.trans (xsh_7 kd_0)) rfl ⟨Nat.le_of_ble_eq_true rfl, Nat.le_of_ble_eq_true rfl⟩ rfl (Nat.le_of_ble_eq_true rfl) ⟨Nat.le_of_ble_eq_true rfl, Nat.le_of_ble_eq_true rfl⟩ ?_
  rintro _ _ ⟨rfl, rfl⟩
  show xV _ _ _ _ _ _ _ _ _ _ _ _ _ _ _ _ _ (xH D b σ) _ _ [.int (bI (isU u x))]
  refine xb_ifne (tgt := 12) hC dX7_check_5 (pc' := 8) rfl (by decide) (fun zc5 => ?_) (fun zc5 => ?_)
  · skip
    obtain ⟨i, hi, rfl⟩ := zc5
    obtain ⟨a, ha5, hae⟩ := hAl i (by omega)
    obtain ⟨v, hvw, hV⟩ := hVw i (by omega)
    obtain ⟨k, hk5, hk⟩ := hKp v hvw
    refine xi_aload_n hC dX7_check_12 (pc' := 13) rfl rfl rfl ?_
    refine xg7_members hC dX7_check_13 (pc' := 16) rfl xw_f_X7_11 kd_0 ?_
    refine xi_iload_n hC dX7_check_16 (pc' := 17) rfl rfl rfl ?_
    refine xa_members hC dX7_check_17 (pc' := 18) rfl kd_oMs rfl (by omega) ?_
    refine xg2_alarm hC dX7_check_18 (pc' := 21) rfl xw_f_X7_45 (kd_oMem (by omega)) ?_
    refine xtop (y := (nI a)) (((hMm i (by omega)).1.2.1).trans hae) ?_
    refine xn_ifeq (tgt := 28) hC dX7_check_21 (pc' := 24) rfl (by decide) (by omega) (fun zc21 => ?_) (fun zc21 => ?_)
    · skip
      refine xi_aload_n hC dX7_check_28 (pc' := 29) rfl rfl rfl ?_
      refine xi_iload_n hC dX7_check_29 (pc' := 30) rfl rfl rfl ?_
      refine xi_callV (As := [.int (nI i)]) (rest := []) (c_X7_alarmAhead l D b n (σ := σ) (S := S) (N := N) (u := u) (w := w) (i := i) (v := v) hS hR hN hi hvw hV) hC dX7_check_30 (pc' := 33) rfl xw_m_X7_73 xw_c_X7_alarmAhead xw_ins_X7_alarmAhead xw_sel_X7_alarmAhead xw_ini_X7 xd_X7_alarmAhead (xH_at.trans (xsh_7 kd_0)) rfl ⟨Nat.le_of_ble_eq_true rfl, Nat.le_of_ble_eq_true rfl⟩ rfl (Nat.le_of_ble_eq_true rfl) ⟨Nat.le_of_ble_eq_true rfl, Nat.le_of_ble_eq_true rfl⟩ ?_
      rintro _ _ ⟨rfl, rfl⟩
      show xV _ _ _ _ _ _ _ _ _ _ _ _ _ _ _ _ _ (xH D b σ) _ _ [.int (nI (al S u v i))]
      refine xi_ireturn hC dX7_check_33 hr rfl ?_
      exact ⟨_, rfl, fun r' T hs => Eq.symm ((hs.2.2 i hi rfl).2 (fun q => absurd ((alm_pos hae (by omega)).mp q) (by omega)) v (by omega) hV), rfl⟩
    · skip
      refine xi_sipush (v := -10003) hC dX7_check_24 (pc' := 27) rfl (by decide +kernel) ?_
      refine xi_ireturn hC dX7_check_27 hr rfl ?_
      exact ⟨_, rfl, fun r' T hs => Eq.symm ((hs.2.2 i hi rfl).1 ((alm_pos hae (by omega)).mpr (by omega))), rfl⟩
  · skip
    refine xi_sipush (v := -10001) hC dX7_check_8 (pc' := 11) rfl (by decide +kernel) ?_
    refine xi_ireturn hC dX7_check_11 hr rfl ?_
    exact ⟨_, rfl, fun r' T hs => Eq.symm (hs.2.1 zc5), rfl⟩
set_option maxRecDepth 100000 in
set_option maxHeartbeats 4000000 in
theorem c_X7_attach (l : Launch) (D : XD) (b n : Nat) {σ S : XM} {N u w : Nat} (hS : SI N S u w) (hR : RR σ S u w) (hN : N + 1 < 2 ^ 31) {x y : Int32}  : xM l yX7_attach cX7_attach 4 (some .int) 1 21 0 0 D b n [.ref (b + 0), .int x, .int y] (xH D b σ) n (fun y' h' => ∃ (r : Int32) (τ : XM), y' = some (.int r) ∧ Hi τ σ ∧ (∀ (r' : Int32) (T : XM), s_attach S u w x y r' T → r = r' ∧ RR τ T u w) ∧ h' = xH D b τ) := by
  refine xM.of (lv := [some (.ref (b + 0)), some (.int x), some (.int y), none]) (by decide +kernel) rfl (List.forall_mem_cons.mpr ⟨rfl, List.forall_mem_cons.mpr ⟨rfl, List.forall_mem_cons.mpr ⟨rfl, fun _ h => absurd h List.not_mem_nil⟩⟩⟩) (Nat.le_of_ble_eq_true rfl) rfl ?_
  intro p e s m args below meth c hC hr hnm
  obtain ⟨hU, hn, hVw, hKp, hLt, hTx, hAl⟩ := id hS.1
  obtain ⟨hu, hu2, hu5⟩ := id hU
  obtain ⟨hn1, hw1, hw6⟩ := id hn
  obtain ⟨r3, r4, hMm, hVv, hTt⟩ := id hR
  refine xi_aload_n hC dX7_attach_0 (pc' := 1) rfl rfl rfl ?_
  refine xi_iload_n hC dX7_attach_1 (pc' := 2) rfl rfl rfl ?_
  refine xi_callV (As := [.int x]) (rest := []) (c_X7_isUser l D b n (σ := σ) (u := u) (x := x) r3 (by omega)) hC dX7_attach_2 (pc' := 5) rfl xw_m_X7_41 xw_c_X7_isUser xw_ins_X7_isUser xw_sel_X7_isUser xw_ini_X7 xd_X7_isUser (xH_at.trans (xsh_7 kd_0)) rfl ⟨Nat.le_of_ble_eq_true rfl, Nat.le_of_ble_eq_true rfl⟩ rfl (Nat.le_of_ble_eq_true rfl) ⟨Nat.le_of_ble_eq_true rfl, Nat.le_of_ble_eq_true rfl⟩ ?_
  rintro _ _ ⟨rfl, rfl⟩
  show xV _ _ _ _ _ _ _ _ _ _ _ _ _ _ _ _ _ (xH D b σ) _ _ [.int (bI (isU u x))]
  refine xb_ifeq (tgt := 16) hC dX7_attach_5 (pc' := 8) rfl (by decide) (fun zc5 => ?_) (fun zc5 => ?_)
  · skip
    refine xi_sipush (v := -10001) hC dX7_attach_16 (pc' := 19) rfl (by decide +kernel) ?_
    refine xi_ireturn hC dX7_attach_19 hr rfl ?_
    refine ⟨_, σ, rfl, Hi.rf, fun r' T hs => ?_, rfl⟩
    obtain ⟨q1, q2⟩ := (hs.1 (fun q => by first | exact zc5 q.1 | exact zc13 q.2))
    subst q2
    exact ⟨q1.symm, hR⟩
  · skip
    refine xi_aload_n hC dX7_attach_8 (pc' := 9) rfl rfl rfl ?_
    refine xi_iload_n hC dX7_attach_9 (pc' := 10) rfl rfl rfl ?_
    refine xi_callV (As := [.int y]) (rest := []) (c_X7_isView l D b n (σ := σ) (u := w) (x := y) r4 hw6) hC dX7_attach_10 (pc' := 13) rfl xw_m_X7_76 xw_c_X7_isView xw_ins_X7_isView xw_sel_X7_isView xw_ini_X7 xd_X7_isView (xH_at.trans (xsh_7 kd_0)) rfl ⟨Nat.le_of_ble_eq_true rfl, Nat.le_of_ble_eq_true rfl⟩ rfl (Nat.le_of_ble_eq_true rfl) ⟨Nat.le_of_ble_eq_true rfl, Nat.le_of_ble_eq_true rfl⟩ ?_
    rintro _ _ ⟨rfl, rfl⟩
    show xV _ _ _ _ _ _ _ _ _ _ _ _ _ _ _ _ _ (xH D b σ) _ _ [.int (bI (isU w y))]
    refine xb_ifne (tgt := 20) hC dX7_attach_13 (pc' := 16) rfl (by decide) (fun zc13 => ?_) (fun zc13 => ?_)
    · skip
      obtain ⟨i, hi, rfl⟩ := zc5
      obtain ⟨v, hv, rfl⟩ := zc13
      refine xi_aload_n hC dX7_attach_20 (pc' := 21) rfl rfl rfl ?_
      refine xg7_members hC dX7_attach_21 (pc' := 24) rfl xw_f_X7_11 kd_0 ?_
      refine xi_iload_n hC dX7_attach_24 (pc' := 25) rfl rfl rfl ?_
      refine xa_members hC dX7_attach_25 (pc' := 26) rfl kd_oMs rfl (by omega) ?_
      refine xg2_view hC dX7_attach_26 (pc' := 29) rfl xw_f_X7_90 (kd_oMem (by omega)) ?_
      refine xi_istore_n (lv' := [some (.ref (b + 0)), some (.int (nI i)), some (.int (nI v)), some (.int (σ (oMem i) 4))]) hC dX7_attach_29 (pc' := 30) rfl rfl (by decide) rfl ?_
      refine xi_aload_n hC dX7_attach_30 (pc' := 31) rfl rfl rfl ?_
      refine xg7_members hC dX7_attach_31 (pc' := 34) rfl xw_f_X7_11 kd_0 ?_
      refine xi_iload_n hC dX7_attach_34 (pc' := 35) rfl rfl rfl ?_
      refine xa_members hC dX7_attach_35 (pc' := 36) rfl kd_oMs rfl (by omega) ?_
      refine xi_iload_n hC dX7_attach_36 (pc' := 37) rfl rfl rfl ?_
      refine xp2_view hC dX7_attach_37 (pc' := 40) rfl xw_f_X7_90 (kd_oMem (by omega)) ?_
      refine xi_iload_n hC dX7_attach_40 (pc' := 41) rfl rfl rfl ?_
      refine xi_ireturn hC dX7_attach_41 hr rfl ?_
      refine ⟨_, _, rfl, fun o ho => sw_n (by simp only [oNum, oKno, oSig, oPro, oFst, oSnd, oBox, oLet, oLts, oMem, oVw, oEnt, oBef, oBk, oVs, oVec, oCon] at * <;> omega), fun r' T hs => ?_, rfl⟩
      obtain ⟨q1, q2⟩ := hs.2 i v hi hv rfl rfl
      subst q2
      exact ⟨((hMm i (by omega)).1.1).trans q1.symm, R_vw hR hw6 (by omega)⟩
    · skip
      refine xi_sipush (v := -10001) hC dX7_attach_16 (pc' := 19) rfl (by decide +kernel) ?_
      refine xi_ireturn hC dX7_attach_19 hr rfl ?_
      refine ⟨_, σ, rfl, Hi.rf, fun r' T hs => ?_, rfl⟩
      obtain ⟨q1, q2⟩ := (hs.1 (fun q => by first | exact zc5 q.1 | exact zc13 q.2))
      subst q2
      exact ⟨q1.symm, hR⟩
set_option maxRecDepth 100000 in
set_option maxHeartbeats 4000000 in
theorem c_X7_sendLetter (l : Launch) (D : XD) (b n : Nat) {σ S : XM} {N u w : Nat} (hS : SI N S u w) (hR : RR σ S u w) (hN : N + 1 < 2 ^ 31) {x y : Int32}  : xM l yX7_sendLetter cX7_sendLetter 4 (some .int) 2 43 0 0 D b n [.ref (b + 0), .int x, .int y] (xH D b σ) n (fun y' h' => ∃ (r : Int32) (τ : XM), y' = some (.int r) ∧ Hi τ σ ∧ (∀ (r' : Int32) (T : XM), s_send S u x y r' T → r = r' ∧ RR τ T u w) ∧ h' = xH D b τ) := by
  refine xM.of (lv := [some (.ref (b + 0)), some (.int x), some (.int y), none]) (by decide +kernel) rfl (List.forall_mem_cons.mpr ⟨rfl, List.forall_mem_cons.mpr ⟨rfl, List.forall_mem_cons.mpr ⟨rfl, fun _ h => absurd h List.not_mem_nil⟩⟩⟩) (Nat.le_of_ble_eq_true rfl) rfl ?_
  intro p e s m args below meth c hC hr hnm
  obtain ⟨hU, hn, hVw, hKp, hLt, hTx, hAl⟩ := id hS.1
  obtain ⟨hu, hu2, hu5⟩ := id hU
  obtain ⟨hn1, hw1, hw6⟩ := id hn
  obtain ⟨r3, r4, hMm, hVv, hTt⟩ := id hR
  refine xi_aload_n hC dX7_sendLetter_0 (pc' := 1) rfl rfl rfl ?_
  refine xi_iload_n hC dX7_sendLetter_1 (pc' := 2) rfl rfl rfl ?_
  refine xi_callV (As := [.int x]) (rest := []) (c_X7_isUser l D b n (σ := σ) (u := u) (x := x) r3 (by omega)) hC dX7_sendLetter_2 (pc' := 5) rfl xw_m_X7_41 xw_c_X7_isUser xw_ins_X7_isUser xw_sel_X7_isUser xw_ini_X7 xd_X7_isUser (xH_at.trans (xsh_7 kd_0)) rfl ⟨Nat.le_of_ble_eq_true rfl, Nat.le_of_ble_eq_true rfl⟩ rfl (Nat.le_of_ble_eq_true rfl) ⟨Nat.le_of_ble_eq_true rfl, Nat.le_of_ble_eq_true rfl⟩ ?_
  rintro _ _ ⟨rfl, rfl⟩
  show xV _ _ _ _ _ _ _ _ _ _ _ _ _ _ _ _ _ (xH D b σ) _ _ [.int (bI (isU u x))]
  refine xb_ifeq (tgt := 16) hC dX7_sendLetter_5 (pc' := 8) rfl (by decide) (fun zc5 => ?_) (fun zc5 => ?_)
  · skip
    refine xi_sipush (v := -10001) hC dX7_sendLetter_16 (pc' := 19) rfl (by decide +kernel) ?_
    refine xi_ireturn hC dX7_sendLetter_19 hr rfl ?_
    refine ⟨_, σ, rfl, Hi.rf, fun r' T hs => ?_, rfl⟩
    obtain ⟨q1, q2⟩ := (hs.1 (fun q => by first | exact zc5 q.1 | exact zc13 q.2))
    subst q2
    exact ⟨q1.symm, hR⟩
  · skip
    refine xi_aload_n hC dX7_sendLetter_8 (pc' := 9) rfl rfl rfl ?_
    refine xi_iload_n hC dX7_sendLetter_9 (pc' := 10) rfl rfl rfl ?_
    refine xi_callV (As := [.int y]) (rest := []) (c_X7_isUser l D b n (σ := σ) (u := u) (x := y) r3 (by omega)) hC dX7_sendLetter_10 (pc' := 13) rfl xw_m_X7_41 xw_c_X7_isUser xw_ins_X7_isUser xw_sel_X7_isUser xw_ini_X7 xd_X7_isUser (xH_at.trans (xsh_7 kd_0)) rfl ⟨Nat.le_of_ble_eq_true rfl, Nat.le_of_ble_eq_true rfl⟩ rfl (Nat.le_of_ble_eq_true rfl) ⟨Nat.le_of_ble_eq_true rfl, Nat.le_of_ble_eq_true rfl⟩ ?_
    rintro _ _ ⟨rfl, rfl⟩
    show xV _ _ _ _ _ _ _ _ _ _ _ _ _ _ _ _ _ (xH D b σ) _ _ [.int (bI (isU u y))]
    refine xb_ifne (tgt := 20) hC dX7_sendLetter_13 (pc' := 16) rfl (by decide) (fun zc13 => ?_) (fun zc13 => ?_)
    · skip
      obtain ⟨i, hi, rfl⟩ := zc5
      obtain ⟨j, hj, rfl⟩ := zc13
      obtain ⟨z, hz4, hz⟩ := hLt j (by omega)
      have hz7 : σ (oBox (oMem j)) 1 = nI z := ((hMm j (by omega)).2.2.2.2.1).trans hz
      refine xi_iload_n hC dX7_sendLetter_20 (pc' := 21) rfl rfl rfl ?_
      refine xi_iload_n hC dX7_sendLetter_21 (pc' := 22) rfl rfl rfl ?_
      refine xn_icmpne (tgt := 29) hC dX7_sendLetter_22 (pc' := 25) rfl (by decide) (by omega) (by omega) (fun zc22 => ?_) (fun zc22 => ?_)
      · skip
        refine xi_aload_n hC dX7_sendLetter_29 (pc' := 30) rfl rfl rfl ?_
        refine xg7_members hC dX7_sendLetter_30 (pc' := 33) rfl xw_f_X7_11 kd_0 ?_
        refine xi_iload_n hC dX7_sendLetter_33 (pc' := 34) rfl rfl rfl ?_
        refine xa_members hC dX7_sendLetter_34 (pc' := 35) rfl kd_oMs rfl (by omega) ?_
        refine xg2_box hC dX7_sendLetter_35 (pc' := 38) rfl xw_f_X7_110 (kd_oMem (by omega)) ?_
        refine xi_astore_n (lv' := [some (.ref (b + 0)), some (.int (nI i)), some (.int (nI j)), some (.ref (b + (oBox (oMem j))))]) hC dX7_sendLetter_38 (pc' := 39) rfl rfl (by decide) rfl ?_
        refine xi_aload_n hC dX7_sendLetter_39 (pc' := 40) rfl rfl rfl ?_
        refine xg0_size hC dX7_sendLetter_40 (pc' := 43) rfl xw_f_X7_114 (kd_oBox (kd_oMem (by omega))) ?_
        refine xtop (y := (nI z)) (((hMm j (by omega)).2.2.2.2.1).trans hz) ?_
        refine xi_iconst (v := nI 4) hC dX7_sendLetter_43 (pc' := 44) rfl (by decide +kernel) ?_
        refine xn_icmplt (tgt := 51) hC dX7_sendLetter_44 (pc' := 47) rfl (by decide) (by omega) (by omega) (fun zc44 => ?_) (fun zc44 => ?_)
        · skip
          refine xi_aload_n hC dX7_sendLetter_51 (pc' := 52) rfl rfl rfl ?_
          refine xi_aload_n hC dX7_sendLetter_52 (pc' := 53) rfl rfl rfl ?_
          refine xg7_members hC dX7_sendLetter_53 (pc' := 56) rfl xw_f_X7_11 kd_0 ?_
          refine xi_iload_n hC dX7_sendLetter_56 (pc' := 57) rfl rfl rfl ?_
          refine xa_members hC dX7_sendLetter_57 (pc' := 58) rfl kd_oMs rfl (by omega) ?_
          refine xg2_known hC dX7_sendLetter_58 (pc' := 61) rfl xw_f_X7_119 (kd_oMem (by omega)) ?_
          refine xi_callV (As := [.ref (b + (oKno (oMem i)))]) (rest := []) (c_X0_put l D b n (σ := σ) (z := z) (kd_oBox (kd_oMem (by omega))) (kd_oKno (kd_oMem (by omega))) hz7 (by omega) (by first | (simp only [oMs, oVws, oScr, oSgn, oMod, oMem, oSig, oKno, oPro, oBox, oFst, oSnd, oLts, oLet, oNum, oVw, oEnt, oBef, oBk, oVs, oCon, oVec, m_row, m_keptOf, m_keptRow, m_viewOf, m_alarmOf, m_hasProof, m_depthOf, m_proofOf, m_signedOf, m_knownOf, m_doneOf, m_shownTo, m_sentBy, m_hasRead, m_readOf, m_lettersOf, m_letter, m_hand, m_text] <;> omega) | decide | omega | (simp only [oMs, oVws, oScr, oSgn, oMod, oMem, oSig, oKno, oPro, oBox, oFst, oSnd, oLts, oLet, oNum, oVw, oEnt, oBef, oBk, oVs, oCon, oVec, m_row, m_keptOf, m_keptRow, m_viewOf, m_alarmOf, m_hasProof, m_depthOf, m_proofOf, m_signedOf, m_knownOf, m_doneOf, m_shownTo, m_sentBy, m_hasRead, m_readOf, m_lettersOf, m_letter, m_hand, m_text] at * <;> omega))) hC dX7_sendLetter_61 (pc' := 64) rfl xw_m_X7_123 xw_c_X0_put xw_ins_X0_put xw_sel_X0_put xw_ini_X0 xd_X0_put (xH_at.trans (xsh_0 (kd_oBox (kd_oMem (by omega))))) rfl ⟨Nat.le_of_ble_eq_true rfl, Nat.le_of_ble_eq_true rfl⟩ rfl (Nat.le_of_ble_eq_true rfl) ⟨Nat.le_of_ble_eq_true rfl, Nat.le_of_ble_eq_true rfl⟩ ?_
          rintro _ _ ⟨rfl, g_1, hg_2, rfl⟩
          show xV _ _ _ _ _ _ _ _ _ _ _ _ _ _ _ _ _ (xH D b (sw (su σ (oNum (oLet (oLts (oBox (oMem j))) z)) g_1) (oBox (oMem j)) 1 (nI (z + 1)))) _ _ []
          refine xi_aload_n hC dX7_sendLetter_64 (pc' := 65) rfl rfl rfl ?_
          refine xg7_members hC dX7_sendLetter_65 (pc' := 68) rfl xw_f_X7_11 kd_0 ?_
          refine xi_iload_n hC dX7_sendLetter_68 (pc' := 69) rfl rfl rfl ?_
          refine xa_members hC dX7_sendLetter_69 (pc' := 70) rfl kd_oMs rfl (by omega) ?_
          refine xi_dup hC dX7_sendLetter_70 (pc' := 71) rfl rfl ?_
          refine xg2_sent hC dX7_sendLetter_71 (pc' := 74) rfl xw_f_X7_127 (kd_oMem (by omega)) ?_
          refine xtop (y := (σ (oMem i) 10)) (by rw [sw_n (q := (oMem i)) (o := (oBox (oMem j))) (by first | (simp only [oMs, oVws, oScr, oSgn, oMod, oMem, oSig, oKno, oPro, oBox, oFst, oSnd, oLts, oLet, oNum, oVw, oEnt, oBef, oBk, oVs, oCon, oVec, m_row, m_keptOf, m_keptRow, m_viewOf, m_alarmOf, m_hasProof, m_depthOf, m_proofOf, m_signedOf, m_knownOf, m_doneOf, m_shownTo, m_sentBy, m_hasRead, m_readOf, m_lettersOf, m_letter, m_hand, m_text] <;> omega) | decide | omega | (simp only [oMs, oVws, oScr, oSgn, oMod, oMem, oSig, oKno, oPro, oBox, oFst, oSnd, oLts, oLet, oNum, oVw, oEnt, oBef, oBk, oVs, oCon, oVec, m_row, m_keptOf, m_keptRow, m_viewOf, m_alarmOf, m_hasProof, m_depthOf, m_proofOf, m_signedOf, m_knownOf, m_doneOf, m_shownTo, m_sentBy, m_hasRead, m_readOf, m_lettersOf, m_letter, m_hand, m_text] at * <;> omega)), su_n (q := (oMem i)) (o := (oNum (oLet (oLts (oBox (oMem j))) z))) (by first | (simp only [oMs, oVws, oScr, oSgn, oMod, oMem, oSig, oKno, oPro, oBox, oFst, oSnd, oLts, oLet, oNum, oVw, oEnt, oBef, oBk, oVs, oCon, oVec, m_row, m_keptOf, m_keptRow, m_viewOf, m_alarmOf, m_hasProof, m_depthOf, m_proofOf, m_signedOf, m_knownOf, m_doneOf, m_shownTo, m_sentBy, m_hasRead, m_readOf, m_lettersOf, m_letter, m_hand, m_text] <;> omega) | decide | omega | (simp only [oMs, oVws, oScr, oSgn, oMod, oMem, oSig, oKno, oPro, oBox, oFst, oSnd, oLts, oLet, oNum, oVw, oEnt, oBef, oBk, oVs, oCon, oVec, m_row, m_keptOf, m_keptRow, m_viewOf, m_alarmOf, m_hasProof, m_depthOf, m_proofOf, m_signedOf, m_knownOf, m_doneOf, m_shownTo, m_sentBy, m_hasRead, m_readOf, m_lettersOf, m_letter, m_hand, m_text] at * <;> omega))]) ?_
          refine xi_aload_n hC dX7_sendLetter_74 (pc' := 75) rfl rfl rfl ?_
          refine xg7_users hC dX7_sendLetter_75 (pc' := 78) rfl xw_f_X7_28 kd_0 ?_
          refine xtop (y := (σ 0 3)) (by rw [sw_n (q := 0) (o := (oBox (oMem j))) (by first | (simp only [oMs, oVws, oScr, oSgn, oMod, oMem, oSig, oKno, oPro, oBox, oFst, oSnd, oLts, oLet, oNum, oVw, oEnt, oBef, oBk, oVs, oCon, oVec, m_row, m_keptOf, m_keptRow, m_viewOf, m_alarmOf, m_hasProof, m_depthOf, m_proofOf, m_signedOf, m_knownOf, m_doneOf, m_shownTo, m_sentBy, m_hasRead, m_readOf, m_lettersOf, m_letter, m_hand, m_text] <;> omega) | decide | omega | (simp only [oMs, oVws, oScr, oSgn, oMod, oMem, oSig, oKno, oPro, oBox, oFst, oSnd, oLts, oLet, oNum, oVw, oEnt, oBef, oBk, oVs, oCon, oVec, m_row, m_keptOf, m_keptRow, m_viewOf, m_alarmOf, m_hasProof, m_depthOf, m_proofOf, m_signedOf, m_knownOf, m_doneOf, m_shownTo, m_sentBy, m_hasRead, m_readOf, m_lettersOf, m_letter, m_hand, m_text] at * <;> omega)), su_n (q := 0) (o := (oNum (oLet (oLts (oBox (oMem j))) z))) (by first | (simp only [oMs, oVws, oScr, oSgn, oMod, oMem, oSig, oKno, oPro, oBox, oFst, oSnd, oLts, oLet, oNum, oVw, oEnt, oBef, oBk, oVs, oCon, oVec, m_row, m_keptOf, m_keptRow, m_viewOf, m_alarmOf, m_hasProof, m_depthOf, m_proofOf, m_signedOf, m_knownOf, m_doneOf, m_shownTo, m_sentBy, m_hasRead, m_readOf, m_lettersOf, m_letter, m_hand, m_text] <;> omega) | decide | omega | (simp only [oMs, oVws, oScr, oSgn, oMod, oMem, oSig, oKno, oPro, oBox, oFst, oSnd, oLts, oLet, oNum, oVw, oEnt, oBef, oBk, oVs, oCon, oVec, m_row, m_keptOf, m_keptRow, m_viewOf, m_alarmOf, m_hasProof, m_depthOf, m_proofOf, m_signedOf, m_knownOf, m_doneOf, m_shownTo, m_sentBy, m_hasRead, m_readOf, m_lettersOf, m_letter, m_hand, m_text] at * <;> omega))]) ?_
          refine xtop (y := (nI u)) (r3) ?_
          refine xi_iadd hC dX7_sendLetter_78 (pc' := 79) rfl ?_
          refine xp2_sent hC dX7_sendLetter_79 (pc' := 82) rfl xw_f_X7_127 (kd_oMem (by omega)) ?_
          refine xi_aload_n hC dX7_sendLetter_82 (pc' := 83) rfl rfl rfl ?_
          refine xg0_size hC dX7_sendLetter_83 (pc' := 86) rfl xw_f_X7_114 (kd_oBox (kd_oMem (by omega))) ?_
          refine xtop (y := (nI (z + 1))) (by rw [sw_n (q := (oBox (oMem j))) (o := (oMem i)) (by first | (simp only [oMs, oVws, oScr, oSgn, oMod, oMem, oSig, oKno, oPro, oBox, oFst, oSnd, oLts, oLet, oNum, oVw, oEnt, oBef, oBk, oVs, oCon, oVec, m_row, m_keptOf, m_keptRow, m_viewOf, m_alarmOf, m_hasProof, m_depthOf, m_proofOf, m_signedOf, m_knownOf, m_doneOf, m_shownTo, m_sentBy, m_hasRead, m_readOf, m_lettersOf, m_letter, m_hand, m_text] <;> omega) | decide | omega | (simp only [oMs, oVws, oScr, oSgn, oMod, oMem, oSig, oKno, oPro, oBox, oFst, oSnd, oLts, oLet, oNum, oVw, oEnt, oBef, oBk, oVs, oCon, oVec, m_row, m_keptOf, m_keptRow, m_viewOf, m_alarmOf, m_hasProof, m_depthOf, m_proofOf, m_signedOf, m_knownOf, m_doneOf, m_shownTo, m_sentBy, m_hasRead, m_readOf, m_lettersOf, m_letter, m_hand, m_text] at * <;> omega)), sw_s]) ?_
          refine xi_ireturn hC dX7_sendLetter_86 hr rfl ?_
          refine ⟨_, _, rfl, fun o ho => by rw [sw_n (by simp only [oNum, oKno, oSig, oPro, oFst, oSnd, oBox, oLet, oLts, oMem, oVw, oEnt, oBef, oBk, oVs, oVec, oCon] at * <;> omega), sw_n (by simp only [oNum, oKno, oSig, oPro, oFst, oSnd, oBox, oLet, oLts, oMem, oVw, oEnt, oBef, oBk, oVs, oVec, oCon] at * <;> omega), su_n (by simp only [oNum, oKno, oSig, oPro, oFst, oSnd, oBox, oLet, oLts, oMem, oVw, oEnt, oBef, oBk, oVs, oVec, oCon] at * <;> omega)], fun r' T hs => ?_, rfl⟩
          obtain ⟨q1, q2, q3, q4, q5⟩ := ((hs.2 i j hi hj rfl rfl).2 zc22 z hz4 hz).2 (by omega)
          refine ⟨q1.symm, ?_⟩
          have e : T = sw (su (su S m_letter (cpy 5 (S m_letter) (20 * j + 5 * z) (rK S i))) m_lettersOf (upd (S m_lettersOf) j (nI (z + 1)))) m_sentBy i (S m_sentBy i + nI u) := by
            funext o
            by_cases h3 : o = m_sentBy
            · subst h3; rw [sw_o, q4, su_n (by decide), su_n (by decide)]
            · rw [sw_n h3]
              by_cases h2 : o = m_lettersOf
              · subst h2; rw [su_s, q3]
              · rw [su_n h2]
                by_cases h1 : o = m_letter
                · subst h1; rw [su_s, q2]
                · rw [su_n h1]; exact q5 o h1 h2 h3
          rw [e, (hMm i (by omega)).1.2.2.2.2.1]
          exact R_se (R_put (l0 := rK S i) hR hw6 (by omega) hz (by omega) (fun p hp => (hg_2 p hp).trans ((hMm i (by omega)).2.1 p hp)) su_s (by rw [su_n (by decide), su_s]) (fun o o1 o2 => by rw [su_n o1, su_n o2])) hw6 (by omega)
        · skip
          refine xi_sipush (v := -10004) hC dX7_sendLetter_47 (pc' := 50) rfl (by decide +kernel) ?_
          refine xi_ireturn hC dX7_sendLetter_50 hr rfl ?_
          refine ⟨_, σ, rfl, Hi.rf, fun r' T hs => ?_, rfl⟩
          obtain ⟨q1, q2⟩ := ((hs.2 i j hi hj rfl rfl).2 zc22 z hz4 hz).1 (by omega)
          subst q2
          exact ⟨q1.symm, hR⟩
      · skip
        refine xi_sipush (v := -10002) hC dX7_sendLetter_25 (pc' := 28) rfl (by decide +kernel) ?_
        refine xi_ireturn hC dX7_sendLetter_28 hr rfl ?_
        refine ⟨_, σ, rfl, Hi.rf, fun r' T hs => ?_, rfl⟩
        obtain ⟨q1, q2⟩ := (hs.2 i j hi hj rfl rfl).1 zc22
        subst q2
        exact ⟨q1.symm, hR⟩
    · skip
      refine xi_sipush (v := -10001) hC dX7_sendLetter_16 (pc' := 19) rfl (by decide +kernel) ?_
      refine xi_ireturn hC dX7_sendLetter_19 hr rfl ?_
      refine ⟨_, σ, rfl, Hi.rf, fun r' T hs => ?_, rfl⟩
      obtain ⟨q1, q2⟩ := (hs.1 (fun q => by first | exact zc5 q.1 | exact zc13 q.2))
      subst q2
      exact ⟨q1.symm, hR⟩
set_option maxRecDepth 100000 in
set_option maxHeartbeats 4000000 in
theorem c_X7_readLetter (l : Launch) (D : XD) (b n : Nat) {σ S : XM} {N u w : Nat} (hS : SI N S u w) (hR : RR σ S u w) (hN : N + 1 < 2 ^ 31) {x : Int32}  : xM l yX7_readLetter cX7_readLetter 4 (some .int) 3 66 0 0 D b n [.ref (b + 0), .int x] (xH D b σ) n (fun y' h' => ∃ (r : Int32) (τ : XM), y' = some (.int r) ∧ Hi τ σ ∧ (∀ (r' : Int32) (T : XM), s_readL S u x r' T → r = r' ∧ RR τ T u w) ∧ h' = xH D b τ) := by
  refine xM.of (lv := [some (.ref (b + 0)), some (.int x), none, none]) (by decide +kernel) rfl (List.forall_mem_cons.mpr ⟨rfl, List.forall_mem_cons.mpr ⟨rfl, fun _ h => absurd h List.not_mem_nil⟩⟩) (Nat.le_of_ble_eq_true rfl) rfl ?_
  intro p e s m args below meth c hC hr hnm
  obtain ⟨hU, hn, hVw, hKp, hLt, hTx, hAl⟩ := id hS.1
  obtain ⟨hu, hu2, hu5⟩ := id hU
  obtain ⟨hn1, hw1, hw6⟩ := id hn
  obtain ⟨r3, r4, hMm, hVv, hTt⟩ := id hR
  refine xi_aload_n hC dX7_readLetter_0 (pc' := 1) rfl rfl rfl ?_
  refine xi_iload_n hC dX7_readLetter_1 (pc' := 2) rfl rfl rfl ?_
  refine xi_callV (As := [.int x]) (rest := []) (c_X7_isUser l D b n (σ := σ) (u := u) (x := x) r3 (by omega)) hC dX7_readLetter_2 (pc' := 5) rfl xw_m_X7_41 xw_c_X7_isUser xw_ins_X7_isUser xw_sel_X7_isUser xw_ini_X7 xd_X7_isUser (xH_at.trans (xsh_7 kd_0)) rfl ⟨Nat.le_of_ble_eq_true rfl, Nat.le_of_ble_eq_true rfl⟩ rfl (Nat.le_of_ble_eq_true rfl) ⟨Nat.le_of_ble_eq_true rfl, Nat.le_of_ble_eq_true rfl⟩ ?_
  rintro _ _ ⟨rfl, rfl⟩
  show xV _ _ _ _ _ _ _ _ _ _ _ _ _ _ _ _ _ (xH D b σ) _ _ [.int (bI (isU u x))]
  refine xb_ifne (tgt := 12) hC dX7_readLetter_5 (pc' := 8) rfl (by decide) (fun zc5 => ?_) (fun zc5 => ?_)
  · skip
    obtain ⟨i, hi, rfl⟩ := zc5
    obtain ⟨z, hz4, hz⟩ := hLt i (by omega)
    have hz7 : σ (oBox (oMem i)) 1 = nI z := ((hMm i (by omega)).2.2.2.2.1).trans hz
    obtain ⟨a, ha5, hae⟩ := hAl i (by omega)
    refine xi_aload_n hC dX7_readLetter_12 (pc' := 13) rfl rfl rfl ?_
    refine xg7_members hC dX7_readLetter_13 (pc' := 16) rfl xw_f_X7_11 kd_0 ?_
    refine xi_iload_n hC dX7_readLetter_16 (pc' := 17) rfl rfl rfl ?_
    refine xa_members hC dX7_readLetter_17 (pc' := 18) rfl kd_oMs rfl (by omega) ?_
    refine xg2_box hC dX7_readLetter_18 (pc' := 21) rfl xw_f_X7_110 (kd_oMem (by omega)) ?_
    refine xi_astore_n (lv' := [some (.ref (b + 0)), some (.int (nI i)), some (.ref (b + (oBox (oMem i)))), none]) hC dX7_readLetter_21 (pc' := 22) rfl rfl (by decide) rfl ?_
    refine xi_aload_n hC dX7_readLetter_22 (pc' := 23) rfl rfl rfl ?_
    refine xg0_size hC dX7_readLetter_23 (pc' := 26) rfl xw_f_X7_114 (kd_oBox (kd_oMem (by omega))) ?_
    refine xtop (y := (nI z)) (((hMm i (by omega)).2.2.2.2.1).trans hz) ?_
    refine xn_ifne (tgt := 33) hC dX7_readLetter_26 (pc' := 29) rfl (by decide) (by omega) (fun zc26 => ?_) (fun zc26 => ?_)
    · skip
      refine xi_aload_n hC dX7_readLetter_33 (pc' := 34) rfl rfl rfl ?_
      refine xg7_members hC dX7_readLetter_34 (pc' := 37) rfl xw_f_X7_11 kd_0 ?_
      refine xi_iload_n hC dX7_readLetter_37 (pc' := 38) rfl rfl rfl ?_
      refine xa_members hC dX7_readLetter_38 (pc' := 39) rfl kd_oMs rfl (by omega) ?_
      refine xi_aload_n hC dX7_readLetter_39 (pc' := 40) rfl rfl rfl ?_
      refine xg0_letters hC dX7_readLetter_40 (pc' := 43) rfl xw_f_X7_130 (kd_oBox (kd_oMem (by omega))) ?_
      refine xi_iconst (v := nI 0) hC dX7_readLetter_43 (pc' := 44) rfl (by decide +kernel) ?_
      refine xa_letters hC dX7_readLetter_44 (pc' := 45) rfl (kd_oLts (kd_oBox (kd_oMem (by omega)))) rfl (by omega) ?_
      refine xi_callV (As := [.ref (b + (oLet (oLts (oBox (oMem i))) 0))]) (rest := []) (c_X2_learn l D b n (σ := σ) (kd_oMem (by omega)) (kd_oLet (kd_oLts (kd_oBox (kd_oMem (by omega)))) (by omega)) (by refine ⟨?_, ?_, ?_⟩ <;> first | (simp only [oMs, oVws, oScr, oSgn, oMod, oMem, oSig, oKno, oPro, oBox, oFst, oSnd, oLts, oLet, oNum, oVw, oEnt, oBef, oBk, oVs, oCon, oVec, m_row, m_keptOf, m_keptRow, m_viewOf, m_alarmOf, m_hasProof, m_depthOf, m_proofOf, m_signedOf, m_knownOf, m_doneOf, m_shownTo, m_sentBy, m_hasRead, m_readOf, m_lettersOf, m_letter, m_hand, m_text] <;> omega) | decide | omega | (simp only [oMs, oVws, oScr, oSgn, oMod, oMem, oSig, oKno, oPro, oBox, oFst, oSnd, oLts, oLet, oNum, oVw, oEnt, oBef, oBk, oVs, oCon, oVec, m_row, m_keptOf, m_keptRow, m_viewOf, m_alarmOf, m_hasProof, m_depthOf, m_proofOf, m_signedOf, m_knownOf, m_doneOf, m_shownTo, m_sentBy, m_hasRead, m_readOf, m_lettersOf, m_letter, m_hand, m_text] at * <;> omega))) hC dX7_readLetter_45 (pc' := 48) rfl xw_m_X7_134 xw_c_X2_learn xw_ins_X2_learn xw_sel_X2_learn xw_ini_X2 xd_X2_learn (xH_at.trans (xsh_2 (kd_oMem (by omega)))) rfl ⟨Nat.le_of_ble_eq_true rfl, Nat.le_of_ble_eq_true rfl⟩ rfl (Nat.le_of_ble_eq_true rfl) ⟨Nat.le_of_ble_eq_true rfl, Nat.le_of_ble_eq_true rfl⟩ ?_
      rintro _ _ ⟨xr_3, τ_1, rfl, hN_2, rfl⟩
      show xV _ _ _ _ _ _ _ _ _ _ _ _ _ _ _ _ _ (xH D b τ_1) _ _ [.int xr_3]
      refine xi_istore_n (lv' := [some (.ref (b + 0)), some (.int (nI i)), some (.ref (b + (oBox (oMem i)))), some (.int xr_3)]) hC dX7_readLetter_48 (pc' := 49) rfl rfl (by decide) rfl ?_
      have kO : ∀ q, q ≠ oMem i → q ≠ oNum (oKno (oMem i)) → q ≠ oPro (oMem i) → q ≠ oNum (oFst (oPro (oMem i))) → q ≠ oNum (oSnd (oPro (oMem i))) → τ_1 q = σ q := fun q q1 q2 q3 q4 q5 => by
        rcases hN_2 with ⟨-, -, z⟩ | ⟨-, -, -, g, -, z⟩ | ⟨-, -, -, τ1, z1, z2⟩
        · rw [z]
        · rw [z]; exact su_n q2
        · rw [z2.out q1, z1.out q3 q4 q5]
      have hbx : τ_1 (oBox (oMem i)) 1 = nI ((z - 1) + 1) := by rw [kO _ (by first | (simp only [oNum, oKno, oSig, oPro, oFst, oSnd, oBox, oLet, oLts, oMem, oVw, oEnt, oBef, oBk, oVs, oVec, oCon] <;> omega) | omega | decide) (by first | (simp only [oNum, oKno, oSig, oPro, oFst, oSnd, oBox, oLet, oLts, oMem, oVw, oEnt, oBef, oBk, oVs, oVec, oCon] <;> omega) | omega | decide) (by first | (simp only [oNum, oKno, oSig, oPro, oFst, oSnd, oBox, oLet, oLts, oMem, oVw, oEnt, oBef, oBk, oVs, oVec, oCon] <;> omega) | omega | decide) (by first | (simp only [oNum, oKno, oSig, oPro, oFst, oSnd, oBox, oLet, oLts, oMem, oVw, oEnt, oBef, oBk, oVs, oVec, oCon] <;> omega) | omega | decide) (by first | (simp only [oNum, oKno, oSig, oPro, oFst, oSnd, oBox, oLet, oLts, oMem, oVw, oEnt, oBef, oBk, oVs, oVec, oCon] <;> omega) | omega | decide), hz7, Nat.sub_add_cancel (by omega)]
      refine xi_aload_n hC dX7_readLetter_49 (pc' := 50) rfl rfl rfl ?_
      refine xi_callV (As := []) (rest := []) (c_X0_dropFirst l D b n (σ := τ_1) (z := (z - 1)) (kd_oBox (kd_oMem (by omega))) hbx (by omega)) hC dX7_readLetter_50 (pc' := 53) rfl xw_m_X7_138 xw_c_X0_dropFirst xw_ins_X0_dropFirst xw_sel_X0_dropFirst xw_ini_X0 xd_X0_dropFirst (xH_at.trans (xsh_0 (kd_oBox (kd_oMem (by omega))))) rfl ⟨Nat.le_of_ble_eq_true rfl, Nat.le_of_ble_eq_true rfl⟩ rfl (Nat.le_of_ble_eq_true rfl) ⟨Nat.le_of_ble_eq_true rfl, Nat.le_of_ble_eq_true rfl⟩ ?_
      rintro _ _ ⟨rfl, τ_4, hz_5, hA_6, hF_7, rfl⟩
      show xV _ _ _ _ _ _ _ _ _ _ _ _ _ _ _ _ _ (xH D b τ_4) _ _ []
      refine xi_iload_n hC dX7_readLetter_53 (pc' := 54) rfl rfl rfl ?_
      refine xi_ireturn hC dX7_readLetter_54 hr rfl ?_
      refine ⟨_, _, rfl, fun o ho => by rw [hF_7 o (by simp only [oNum, oKno, oSig, oPro, oFst, oSnd, oBox, oLet, oLts, oMem, oVw, oEnt, oBef, oBk, oVs, oVec, oCon] at * <;> omega) (fun j hj => (by simp only [oNum, oKno, oSig, oPro, oFst, oSnd, oBox, oLet, oLts, oMem, oVw, oEnt, oBef, oBk, oVs, oVec, oCon] at * <;> omega)), kO o (by simp only [oNum, oKno, oSig, oPro, oFst, oSnd, oBox, oLet, oLts, oMem, oVw, oEnt, oBef, oBk, oVs, oVec, oCon] at * <;> omega) (by simp only [oNum, oKno, oSig, oPro, oFst, oSnd, oBox, oLet, oLts, oMem, oVw, oEnt, oBef, oBk, oVs, oVec, oCon] at * <;> omega) (by simp only [oNum, oKno, oSig, oPro, oFst, oSnd, oBox, oLet, oLts, oMem, oVw, oEnt, oBef, oBk, oVs, oVec, oCon] at * <;> omega) (by simp only [oNum, oKno, oSig, oPro, oFst, oSnd, oBox, oLet, oLts, oMem, oVw, oEnt, oBef, oBk, oVs, oVec, oCon] at * <;> omega) (by simp only [oNum, oKno, oSig, oPro, oFst, oSnd, oBox, oLet, oLts, oMem, oVw, oEnt, oBef, oBk, oVs, oVec, oCon] at * <;> omega)], fun r' T hs => ?_, rfl⟩
      obtain ⟨T1, hT1, c1, c2⟩ := ((hs.2 i hi rfl) z hz4 hz).2 zc26
      obtain ⟨l1, l2, l3⟩ := hS.lk hR (show i < 5 by omega) hz zc26 hz4
      rcases hN_2 with ⟨y1, y2, y3⟩ | ⟨y1, y2, y3, g, y4, y5⟩ | ⟨y1, y2, y3, τ1, y4, y5⟩
      · obtain ⟨q1, q2⟩ := c1 (l1.mp y1)
        refine ⟨y2.trans q1.symm, ?_⟩
        subst y3 q2
        exact R_drop hR hw6 (by omega) hz zc26 hz4 hz_5 hA_6 hF_7 hT1.2.1 hT1.2.2.1 hT1.2.2.2
      · obtain ⟨q1, q2, q3⟩ := (c2 (fun q => y1 (l1.mpr q))).1 (l2.mp y2)
        refine ⟨y3.trans q1.symm, ?_⟩
        have hR2 : RR τ_1 (su S m_knownOf (cpy 5 (S m_knownOf) (5 * i) (sl (S m_letter) (20 * i)))) u w := by rw [y5]; exact R_kn hR hw6 (by omega) (fun p hp => (y4 p hp).trans (l3 p hp)) su_s (fun o _ o2 _ => su_n o2)
        exact R_drop hR2 hw6 (by omega) (by rw [su_n (by decide)]; exact hz) zc26 hz4 hz_5 hA_6 hF_7 (by rw [q3 _ (by decide), hT1.2.1, su_n (by decide)]) (by rw [q3 _ (by decide), hT1.2.2.1, su_n (by decide)]) (fun o o1 o2 o3 => by
          by_cases hk : o = m_knownOf
          · subst hk; rw [q2, su_s]
          · rw [q3 o hk, hT1.2.2.2 o o1 o2 o3, su_n hk])
      · obtain ⟨q1, T2, q2, q3, q4⟩ := (c2 (fun q => y1 (l1.mpr q))).2 (fun q => y2 (l2.mpr q))
        refine ⟨y3.trans q1.symm, ?_⟩
        obtain ⟨S3, hS3⟩ := mKeep_ex S i (nI 0) (rK S i) (sl (T1 m_hand) 0)
        have hR3 : RR τ1 S3 u w := R_keep hR hw6 (by omega) y4 hS3 (fun p hp => (hMm i (by omega)).2.1 p hp) (fun p hp => (l3 p hp).trans (hT1.hd p hp).symm)
        have hE : ∀ o, o ≠ m_hand → o ≠ m_lettersOf → o ≠ m_letter → o ≠ m_alarmOf → T o = S3 o := fun o o1 o2 o3 o4 => mKeep_par hS3 q4 (by
            by_cases ha : 0 < S m_alarmOf i
            · rw [q2 ha, sw_n (by decide)]; exact hT1.2.2.2 _ (by decide) (by decide) (by decide)
            · rw [q3 ha, sw_n (by decide)]; exact hT1.2.2.2 _ (by decide) (by decide) (by decide)) (by
            by_cases ha : 0 < S m_alarmOf i
            · rw [q2 ha, sw_n (by decide)]; exact hT1.2.2.2 _ (by decide) (by decide) (by decide)
            · rw [q3 ha, sw_n (by decide)]; exact hT1.2.2.2 _ (by decide) (by decide) (by decide)) (by
            by_cases ha : 0 < S m_alarmOf i
            · rw [q2 ha, sw_n (by decide)]; exact hT1.2.2.2 _ (by decide) (by decide) (by decide)
            · rw [q3 ha, sw_n (by decide)]; exact hT1.2.2.2 _ (by decide) (by decide) (by decide)) (by
            by_cases ha : 0 < S m_alarmOf i
            · rw [q2 ha, sw_n o4]; exact hT1.2.2.2 o o1 o2 o3
            · rw [q3 ha, sw_n o4]; exact hT1.2.2.2 o o1 o2 o3)
        have hA3 : S3 m_alarmOf = S m_alarmOf := hS3.out (by decide) (by decide) (by decide)
        have hL3 : S3 m_lettersOf = S m_lettersOf := hS3.out (by decide) (by decide) (by decide)
        have hM3 : S3 m_letter = S m_letter := hS3.out (by decide) (by decide) (by decide)
        have hTL : T m_lettersOf = upd (S m_lettersOf) i (nI (z - 1)) := by
          rw [q4.out (by decide) (by decide) (by decide)]
          by_cases ha : 0 < S m_alarmOf i
          · rw [q2 ha, sw_n (by decide)]; exact hT1.2.1
          · rw [q3 ha, sw_n (by decide)]; exact hT1.2.1
        have hTM : T m_letter = cpy (5 * (z - 1)) (S m_letter) (20 * i) (sl (S m_letter) (20 * i + 5)) := by
          rw [q4.out (by decide) (by decide) (by decide)]
          by_cases ha : 0 < S m_alarmOf i
          · rw [q2 ha, sw_n (by decide)]; exact hT1.2.2.1
          · rw [q3 ha, sw_n (by decide)]; exact hT1.2.2.1
        have hTA : T m_alarmOf = upd (S m_alarmOf) i (if 0 < a then nI a else nI 4) := by
          rw [q4.out (by decide) (by decide) (by decide)]
          by_cases ha : 0 < S m_alarmOf i
          · rw [q2 ha, sw_o, hT1.2.2.2 _ (by decide) (by decide) (by decide), if_pos ((alm_pos hae (by omega)).mp ha), hae]
          · rw [q3 ha, sw_o, hT1.2.2.2 _ (by decide) (by decide) (by decide), if_neg (fun q => ha ((alm_pos hae (by omega)).mpr q))]
        have ha1 : τ1 (oMem i) 5 = nI a := (hR3.2.2.1 i (by omega)).1.2.1.trans (by rw [hA3]; exact hae)
        rcases y5 with ⟨x1, x2⟩ | ⟨x1, x2⟩
        · have ha0 : a = 0 := by
            rw [ha1] at x1
            exact (nI_eq0 (by omega)).mp x1
          have hR4 : RR τ_1 (sw S3 m_alarmOf i (nI 4)) u w := by rw [x2]; exact R_al hR3 hw6 (by omega)
          exact R_drop hR4 hw6 (by omega) (by rw [sw_n (by decide), hL3]; exact hz) zc26 hz4 hz_5 hA_6 hF_7 (by rw [hTL, sw_n (by decide), hL3]) (by rw [hTM, sw_n (by decide), hM3]) (fun o o1 o2 o3 => by
            by_cases hk : o = m_alarmOf
            · subst hk; rw [hTA, sw_o, hA3, if_neg (by omega)]
            · rw [sw_n hk]; exact hE o o1 o2 o3 hk)
        · have ha0 : 0 < a := by
            rcases Nat.eq_zero_or_pos a with z0 | z0
            · rw [ha1, z0] at x1; exact absurd nI_0 x1
            · exact z0
          subst x2
          exact R_drop hR3 hw6 (by omega) (by rw [hL3]; exact hz) zc26 hz4 hz_5 hA_6 hF_7 (by rw [hTL, hL3]) (by rw [hTM, hM3]) (fun o o1 o2 o3 => by
            by_cases hk : o = m_alarmOf
            · subst hk; rw [hTA, hA3, if_pos ha0]; exact (upd_self hae).symm
            · exact hE o o1 o2 o3 hk)
    · skip
      refine xi_sipush (v := -10005) hC dX7_readLetter_29 (pc' := 32) rfl (by decide +kernel) ?_
      refine xi_ireturn hC dX7_readLetter_32 hr rfl ?_
      refine ⟨_, σ, rfl, Hi.rf, fun r' T hs => ?_, rfl⟩
      obtain ⟨q1, q2⟩ := ((hs.2 i hi rfl) z hz4 hz).1 zc26
      subst q2
      exact ⟨q1.symm, hR⟩
  · skip
    refine xi_sipush (v := -10001) hC dX7_readLetter_8 (pc' := 11) rfl (by decide +kernel) ?_
    refine xi_ireturn hC dX7_readLetter_11 hr rfl ?_
    refine ⟨_, σ, rfl, Hi.rf, fun r' T hs => ?_, rfl⟩
    obtain ⟨q1, q2⟩ := hs.1 zc5
    subst q2
    exact ⟨q1.symm, hR⟩
set_option maxRecDepth 100000 in
set_option maxHeartbeats 4000000 in
theorem c_X7_loseLetter (l : Launch) (D : XD) (b n : Nat) {σ S : XM} {N u w : Nat} (hS : SI N S u w) (hR : RR σ S u w) (hN : N + 1 < 2 ^ 31) {x : Int32}  : xM l yX7_loseLetter cX7_loseLetter 3 (some .int) 2 43 0 0 D b n [.ref (b + 0), .int x] (xH D b σ) n (fun y' h' => ∃ (r : Int32) (τ : XM), y' = some (.int r) ∧ Hi τ σ ∧ (∀ (r' : Int32) (T : XM), s_lose S u x r' T → r = r' ∧ RR τ T u w) ∧ h' = xH D b τ) := by
  refine xM.of (lv := [some (.ref (b + 0)), some (.int x), none]) (by decide +kernel) rfl (List.forall_mem_cons.mpr ⟨rfl, List.forall_mem_cons.mpr ⟨rfl, fun _ h => absurd h List.not_mem_nil⟩⟩) (Nat.le_of_ble_eq_true rfl) rfl ?_
  intro p e s m args below meth c hC hr hnm
  obtain ⟨hU, hn, hVw, hKp, hLt, hTx, hAl⟩ := id hS.1
  obtain ⟨hu, hu2, hu5⟩ := id hU
  obtain ⟨hn1, hw1, hw6⟩ := id hn
  obtain ⟨r3, r4, hMm, hVv, hTt⟩ := id hR
  refine xi_aload_n hC dX7_loseLetter_0 (pc' := 1) rfl rfl rfl ?_
  refine xi_iload_n hC dX7_loseLetter_1 (pc' := 2) rfl rfl rfl ?_
  refine xi_callV (As := [.int x]) (rest := []) (c_X7_isUser l D b n (σ := σ) (u := u) (x := x) r3 (by omega)) hC dX7_loseLetter_2 (pc' := 5) rfl xw_m_X7_41 xw_c_X7_isUser xw_ins_X7_isUser xw_sel_X7_isUser xw_ini_X7 xd_X7_isUser (xH_at.trans (xsh_7 kd_0)) rfl ⟨Nat.le_of_ble_eq_true rfl, Nat.le_of_ble_eq_true rfl⟩ rfl (Nat.le_of_ble_eq_true rfl) ⟨Nat.le_of_ble_eq_true rfl, Nat.le_of_ble_eq_true rfl⟩ ?_
  rintro _ _ ⟨rfl, rfl⟩
  show xV _ _ _ _ _ _ _ _ _ _ _ _ _ _ _ _ _ (xH D b σ) _ _ [.int (bI (isU u x))]
  refine xb_ifne (tgt := 12) hC dX7_loseLetter_5 (pc' := 8) rfl (by decide) (fun zc5 => ?_) (fun zc5 => ?_)
  · skip
    obtain ⟨i, hi, rfl⟩ := zc5
    obtain ⟨z, hz4, hz⟩ := hLt i (by omega)
    have hz7 : σ (oBox (oMem i)) 1 = nI z := ((hMm i (by omega)).2.2.2.2.1).trans hz
    refine xi_aload_n hC dX7_loseLetter_12 (pc' := 13) rfl rfl rfl ?_
    refine xg7_members hC dX7_loseLetter_13 (pc' := 16) rfl xw_f_X7_11 kd_0 ?_
    refine xi_iload_n hC dX7_loseLetter_16 (pc' := 17) rfl rfl rfl ?_
    refine xa_members hC dX7_loseLetter_17 (pc' := 18) rfl kd_oMs rfl (by omega) ?_
    refine xg2_box hC dX7_loseLetter_18 (pc' := 21) rfl xw_f_X7_110 (kd_oMem (by omega)) ?_
    refine xi_astore_n (lv' := [some (.ref (b + 0)), some (.int (nI i)), some (.ref (b + (oBox (oMem i))))]) hC dX7_loseLetter_21 (pc' := 22) rfl rfl (by decide) rfl ?_
    refine xi_aload_n hC dX7_loseLetter_22 (pc' := 23) rfl rfl rfl ?_
    refine xg0_size hC dX7_loseLetter_23 (pc' := 26) rfl xw_f_X7_114 (kd_oBox (kd_oMem (by omega))) ?_
    refine xtop (y := (nI z)) (((hMm i (by omega)).2.2.2.2.1).trans hz) ?_
    refine xn_ifne (tgt := 33) hC dX7_loseLetter_26 (pc' := 29) rfl (by decide) (by omega) (fun zc26 => ?_) (fun zc26 => ?_)
    · skip
      have hbx : σ (oBox (oMem i)) 1 = nI ((z - 1) + 1) := by rw [hz7, Nat.sub_add_cancel (by omega)]
      refine xi_aload_n hC dX7_loseLetter_33 (pc' := 34) rfl rfl rfl ?_
      refine xi_callV (As := []) (rest := []) (c_X0_dropFirst l D b n (σ := σ) (z := (z - 1)) (kd_oBox (kd_oMem (by omega))) hbx (by omega)) hC dX7_loseLetter_34 (pc' := 37) rfl xw_m_X7_138 xw_c_X0_dropFirst xw_ins_X0_dropFirst xw_sel_X0_dropFirst xw_ini_X0 xd_X0_dropFirst (xH_at.trans (xsh_0 (kd_oBox (kd_oMem (by omega))))) rfl ⟨Nat.le_of_ble_eq_true rfl, Nat.le_of_ble_eq_true rfl⟩ rfl (Nat.le_of_ble_eq_true rfl) ⟨Nat.le_of_ble_eq_true rfl, Nat.le_of_ble_eq_true rfl⟩ ?_
      rintro _ _ ⟨rfl, τ_1, hz_2, hA_3, hF_4, rfl⟩
      show xV _ _ _ _ _ _ _ _ _ _ _ _ _ _ _ _ _ (xH D b τ_1) _ _ []
      refine xi_aload_n hC dX7_loseLetter_37 (pc' := 38) rfl rfl rfl ?_
      refine xg0_size hC dX7_loseLetter_38 (pc' := 41) rfl xw_f_X7_114 (kd_oBox (kd_oMem (by omega))) ?_
      refine xi_ireturn hC dX7_loseLetter_41 hr rfl ?_
      refine ⟨_, _, rfl, fun o ho => hF_4 o (by simp only [oNum, oKno, oSig, oPro, oFst, oSnd, oBox, oLet, oLts, oMem, oVw, oEnt, oBef, oBk, oVs, oVec, oCon] at * <;> omega) (fun j hj => (by simp only [oNum, oKno, oSig, oPro, oFst, oSnd, oBox, oLet, oLts, oMem, oVw, oEnt, oBef, oBk, oVs, oVec, oCon] at * <;> omega)), fun r' T hs => ?_, rfl⟩
      obtain ⟨q1, q2⟩ := ((hs.2 i hi rfl) z hz4 hz).2 zc26
      exact ⟨hz_2.trans q1.symm, R_drop hR hw6 (by omega) hz zc26 hz4 hz_2 hA_3 hF_4 q2.2.1 q2.2.2.1 q2.2.2.2⟩
    · skip
      refine xi_sipush (v := -10005) hC dX7_loseLetter_29 (pc' := 32) rfl (by decide +kernel) ?_
      refine xi_ireturn hC dX7_loseLetter_32 hr rfl ?_
      refine ⟨_, σ, rfl, Hi.rf, fun r' T hs => ?_, rfl⟩
      obtain ⟨q1, q2⟩ := ((hs.2 i hi rfl) z hz4 hz).1 zc26
      subst q2
      exact ⟨q1.symm, hR⟩
  · skip
    refine xi_sipush (v := -10001) hC dX7_loseLetter_8 (pc' := 11) rfl (by decide +kernel) ?_
    refine xi_ireturn hC dX7_loseLetter_11 hr rfl ?_
    refine ⟨_, σ, rfl, Hi.rf, fun r' T hs => ?_, rfl⟩
    obtain ⟨q1, q2⟩ := hs.1 zc5
    subst q2
    exact ⟨q1.symm, hR⟩
set_option maxRecDepth 100000 in
set_option maxHeartbeats 4000000 in
theorem c_X7_passProof (l : Launch) (D : XD) (b n : Nat) {σ S : XM} {N u w : Nat} (hS : SI N S u w) (hR : RR σ S u w) (hN : N + 1 < 2 ^ 31) {x y : Int32}  : xM l yX7_passProof cX7_passProof 6 (some .int) 2 45 0 0 D b n [.ref (b + 0), .int x, .int y] (xH D b σ) n (fun y' h' => ∃ (r : Int32) (τ : XM), y' = some (.int r) ∧ Hi τ σ ∧ (∀ (r' : Int32) (T : XM), s_pass S u x y r' T → r = r' ∧ RR τ T u w) ∧ h' = xH D b τ) := by
  refine xM.of (lv := [some (.ref (b + 0)), some (.int x), some (.int y), none, none, none]) (by decide +kernel) rfl (List.forall_mem_cons.mpr ⟨rfl, List.forall_mem_cons.mpr ⟨rfl, List.forall_mem_cons.mpr ⟨rfl, fun _ h => absurd h List.not_mem_nil⟩⟩⟩) (Nat.le_of_ble_eq_true rfl) rfl ?_
  intro p e s m args below meth c hC hr hnm
  obtain ⟨hU, hn, hVw, hKp, hLt, hTx, hAl⟩ := id hS.1
  obtain ⟨hu, hu2, hu5⟩ := id hU
  obtain ⟨hn1, hw1, hw6⟩ := id hn
  obtain ⟨r3, r4, hMm, hVv, hTt⟩ := id hR
  refine xi_aload_n hC dX7_passProof_0 (pc' := 1) rfl rfl rfl ?_
  refine xi_iload_n hC dX7_passProof_1 (pc' := 2) rfl rfl rfl ?_
  refine xi_callV (As := [.int x]) (rest := []) (c_X7_isUser l D b n (σ := σ) (u := u) (x := x) r3 (by omega)) hC dX7_passProof_2 (pc' := 5) rfl xw_m_X7_41 xw_c_X7_isUser xw_ins_X7_isUser xw_sel_X7_isUser xw_ini_X7 xd_X7_isUser (xH_at.trans (xsh_7 kd_0)) rfl ⟨Nat.le_of_ble_eq_true rfl, Nat.le_of_ble_eq_true rfl⟩ rfl (Nat.le_of_ble_eq_true rfl) ⟨Nat.le_of_ble_eq_true rfl, Nat.le_of_ble_eq_true rfl⟩ ?_
  rintro _ _ ⟨rfl, rfl⟩
  show xV _ _ _ _ _ _ _ _ _ _ _ _ _ _ _ _ _ (xH D b σ) _ _ [.int (bI (isU u x))]
  refine xb_ifeq (tgt := 16) hC dX7_passProof_5 (pc' := 8) rfl (by decide) (fun zc5 => ?_) (fun zc5 => ?_)
  · skip
    refine xi_sipush (v := -10001) hC dX7_passProof_16 (pc' := 19) rfl (by decide +kernel) ?_
    refine xi_ireturn hC dX7_passProof_19 hr rfl ?_
    refine ⟨_, σ, rfl, Hi.rf, fun r' T hs => ?_, rfl⟩
    obtain ⟨q1, q2⟩ := (hs.1 (fun q => by first | exact zc5 q.1 | exact zc13 q.2))
    subst q2
    exact ⟨q1.symm, hR⟩
  · skip
    refine xi_aload_n hC dX7_passProof_8 (pc' := 9) rfl rfl rfl ?_
    refine xi_iload_n hC dX7_passProof_9 (pc' := 10) rfl rfl rfl ?_
    refine xi_callV (As := [.int y]) (rest := []) (c_X7_isUser l D b n (σ := σ) (u := u) (x := y) r3 (by omega)) hC dX7_passProof_10 (pc' := 13) rfl xw_m_X7_41 xw_c_X7_isUser xw_ins_X7_isUser xw_sel_X7_isUser xw_ini_X7 xd_X7_isUser (xH_at.trans (xsh_7 kd_0)) rfl ⟨Nat.le_of_ble_eq_true rfl, Nat.le_of_ble_eq_true rfl⟩ rfl (Nat.le_of_ble_eq_true rfl) ⟨Nat.le_of_ble_eq_true rfl, Nat.le_of_ble_eq_true rfl⟩ ?_
    rintro _ _ ⟨rfl, rfl⟩
    show xV _ _ _ _ _ _ _ _ _ _ _ _ _ _ _ _ _ (xH D b σ) _ _ [.int (bI (isU u y))]
    refine xb_ifne (tgt := 20) hC dX7_passProof_13 (pc' := 16) rfl (by decide) (fun zc13 => ?_) (fun zc13 => ?_)
    · skip
      obtain ⟨i, hi, rfl⟩ := zc5
      obtain ⟨j, hj, rfl⟩ := zc13
      obtain ⟨a, ha5, hae⟩ := hAl j (by omega)
      refine xi_iload_n hC dX7_passProof_20 (pc' := 21) rfl rfl rfl ?_
      refine xi_iload_n hC dX7_passProof_21 (pc' := 22) rfl rfl rfl ?_
      refine xn_icmpne (tgt := 29) hC dX7_passProof_22 (pc' := 25) rfl (by decide) (by omega) (by omega) (fun zc22 => ?_) (fun zc22 => ?_)
      · skip
        refine xi_aload_n hC dX7_passProof_29 (pc' := 30) rfl rfl rfl ?_
        refine xg7_members hC dX7_passProof_30 (pc' := 33) rfl xw_f_X7_11 kd_0 ?_
        refine xi_iload_n hC dX7_passProof_33 (pc' := 34) rfl rfl rfl ?_
        refine xa_members hC dX7_passProof_34 (pc' := 35) rfl kd_oMs rfl (by omega) ?_
        refine xg2_proof hC dX7_passProof_35 (pc' := 38) rfl xw_f_X7_141 (kd_oMem (by omega)) ?_
        refine xi_astore_n (lv' := [some (.ref (b + 0)), some (.int (nI i)), some (.int (nI j)), some (.ref (b + (oPro (oMem i)))), none, none]) hC dX7_passProof_38 (pc' := 39) rfl rfl (by decide) rfl ?_
        refine xi_aload_n hC dX7_passProof_39 (pc' := 40) rfl rfl rfl ?_
        refine xg3_isHeld hC dX7_passProof_40 (pc' := 43) rfl xw_f_X7_145 (kd_oPro (kd_oMem (by omega))) ?_
        refine xi_ifne (tgt := 50) hC dX7_passProof_43 (pc' := 46) rfl (by decide) (fun zc43 => ?_) (fun zc43 => ?_)
        · skip
          have hP : S m_hasProof i ≠ 0 := fun q => zc43 (((hMm i (by omega)).2.2.2.1.1).trans q)
          refine xi_aload_n hC dX7_passProof_50 (pc' := 51) rfl rfl rfl ?_
          refine xg7_members hC dX7_passProof_51 (pc' := 54) rfl xw_f_X7_11 kd_0 ?_
          refine xi_iload_n hC dX7_passProof_54 (pc' := 55) rfl rfl rfl ?_
          refine xa_members hC dX7_passProof_55 (pc' := 56) rfl kd_oMs rfl (by omega) ?_
          refine xi_astore (lv' := [some (.ref (b + 0)), some (.int (nI i)), some (.int (nI j)), some (.ref (b + (oPro (oMem i)))), some (.ref (b + (oMem j))), none]) hC dX7_passProof_56 (pc' := 58) rfl (by decide) rfl ?_
          refine xi_aload hC dX7_passProof_58 (pc' := 60) rfl rfl ?_
          refine xg2_alarm hC dX7_passProof_60 (pc' := 63) rfl xw_f_X7_45 (kd_oMem (by omega)) ?_
          refine xtop (y := (nI a)) (((hMm j (by omega)).1.2.1).trans hae) ?_
          refine xn_ifne (tgt := 70) hC dX7_passProof_63 (pc' := 66) rfl (by decide) (by omega) (fun zc63 => ?_) (fun zc63 => ?_)
          · skip
            refine xi_iconst (v := nI 0) hC dX7_passProof_70 (pc' := 71) rfl (by decide +kernel) ?_
            refine xi_istore (lv' := [some (.ref (b + 0)), some (.int (nI i)), some (.int (nI j)), some (.ref (b + (oPro (oMem i)))), some (.ref (b + (oMem j))), some (.int (nI 0))]) hC dX7_passProof_71 (pc' := 73) rfl (by decide) rfl ?_
            refine xi_aload hC dX7_passProof_73 (pc' := 75) rfl rfl ?_
            refine xg2_proof hC dX7_passProof_75 (pc' := 78) rfl xw_f_X7_141 (kd_oMem (by omega)) ?_
            refine xi_aload_n hC dX7_passProof_78 (pc' := 79) rfl rfl rfl ?_
            refine xg3_first hC dX7_passProof_79 (pc' := 82) rfl xw_f_X7_150 (kd_oPro (kd_oMem (by omega))) ?_
            refine xi_aload_n hC dX7_passProof_82 (pc' := 83) rfl rfl rfl ?_
            refine xg3_second hC dX7_passProof_83 (pc' := 86) rfl xw_f_X7_153 (kd_oPro (kd_oMem (by omega))) ?_
            refine xi_aload_n hC dX7_passProof_86 (pc' := 87) rfl rfl rfl ?_
            refine xg3_depth hC dX7_passProof_87 (pc' := 90) rfl xw_f_X7_156 (kd_oPro (kd_oMem (by omega))) ?_
            refine xi_iconst (v := nI 1) hC dX7_passProof_90 (pc' := 91) rfl (by decide +kernel) ?_
            refine xi_iadd hC dX7_passProof_91 (pc' := 92) rfl ?_
            refine xi_callV (As := [.ref (b + (oFst (oPro (oMem i)))), .ref (b + (oSnd (oPro (oMem i)))), .int ((σ (oPro (oMem i)) 3) + (nI 1))]) (rest := []) (c_X3_keepFirst l D b n (σ := σ) (x := ((σ (oPro (oMem i)) 3) + (nI 1))) (kd_oPro (kd_oMem (by omega))) (kd_oFst (kd_oPro (kd_oMem (by omega)))) (kd_oSnd (kd_oPro (kd_oMem (by omega)))) (by refine ⟨?_, ?_, ?_⟩ <;> first | (simp only [oMs, oVws, oScr, oSgn, oMod, oMem, oSig, oKno, oPro, oBox, oFst, oSnd, oLts, oLet, oNum, oVw, oEnt, oBef, oBk, oVs, oCon, oVec, m_row, m_keptOf, m_keptRow, m_viewOf, m_alarmOf, m_hasProof, m_depthOf, m_proofOf, m_signedOf, m_knownOf, m_doneOf, m_shownTo, m_sentBy, m_hasRead, m_readOf, m_lettersOf, m_letter, m_hand, m_text] <;> omega) | decide | omega | (simp only [oMs, oVws, oScr, oSgn, oMod, oMem, oSig, oKno, oPro, oBox, oFst, oSnd, oLts, oLet, oNum, oVw, oEnt, oBef, oBk, oVs, oCon, oVec, m_row, m_keptOf, m_keptRow, m_viewOf, m_alarmOf, m_hasProof, m_depthOf, m_proofOf, m_signedOf, m_knownOf, m_doneOf, m_shownTo, m_sentBy, m_hasRead, m_readOf, m_lettersOf, m_letter, m_hand, m_text] at * <;> omega))) hC dX7_passProof_92 (pc' := 95) rfl xw_m_X7_159 xw_c_X3_keepFirst xw_ins_X3_keepFirst xw_sel_X3_keepFirst xw_ini_X3 xd_X3_keepFirst (xH_at.trans (xsh_3 (kd_oPro (kd_oMem (by omega))))) rfl ⟨Nat.le_of_ble_eq_true rfl, Nat.le_of_ble_eq_true rfl⟩ rfl (Nat.le_of_ble_eq_true rfl) ⟨Nat.le_of_ble_eq_true rfl, Nat.le_of_ble_eq_true rfl⟩ ?_
            rintro _ _ ⟨rfl, τ_1, hK_2, rfl⟩
            show xV _ _ _ _ _ _ _ _ _ _ _ _ _ _ _ _ _ (xH D b τ_1) _ _ []
            refine xi_aload hC dX7_passProof_95 (pc' := 97) rfl rfl ?_
            refine xi_iconst (v := nI 5) hC dX7_passProof_97 (pc' := 98) rfl (by decide +kernel) ?_
            refine xi_callV (As := [.int (nI 5)]) (rest := []) (c_X2_raise l D b n (σ := τ_1) (x := (nI 5)) (kd_oMem (by omega))) hC dX7_passProof_98 (pc' := 101) rfl xw_m_X7_163 xw_c_X2_raise xw_ins_X2_raise xw_sel_X2_raise xw_ini_X2 xd_X2_raise (xH_at.trans (xsh_2 (kd_oMem (by omega)))) rfl ⟨Nat.le_of_ble_eq_true rfl, Nat.le_of_ble_eq_true rfl⟩ rfl (Nat.le_of_ble_eq_true rfl) ⟨Nat.le_of_ble_eq_true rfl, Nat.le_of_ble_eq_true rfl⟩ ?_
            rintro _ _ ⟨rfl, τ_3, hR_4, rfl⟩
            show xV _ _ _ _ _ _ _ _ _ _ _ _ _ _ _ _ _ (xH D b τ_3) _ _ []
            refine xi_aload_n hC dX7_passProof_101 (pc' := 102) rfl rfl rfl ?_
            refine xg7_members hC dX7_passProof_102 (pc' := 105) rfl xw_f_X7_11 kd_0 ?_
            refine xi_iload_n hC dX7_passProof_105 (pc' := 106) rfl rfl rfl ?_
            refine xa_members hC dX7_passProof_106 (pc' := 107) rfl kd_oMs rfl (by omega) ?_
            refine xi_dup hC dX7_passProof_107 (pc' := 108) rfl rfl ?_
            refine xg2_sent hC dX7_passProof_108 (pc' := 111) rfl xw_f_X7_127 (kd_oMem (by omega)) ?_
            refine xi_iconst (v := nI 2) hC dX7_passProof_111 (pc' := 112) rfl (by decide +kernel) ?_
            refine xi_aload_n hC dX7_passProof_112 (pc' := 113) rfl rfl rfl ?_
            refine xg7_users hC dX7_passProof_113 (pc' := 116) rfl xw_f_X7_28 kd_0 ?_
            refine xtop (y := (nI u)) ((by rw [hR_4.out (by first | (simp only [oNum, oKno, oSig, oPro, oFst, oSnd, oBox, oLet, oLts, oMem, oVw, oEnt, oBef, oBk, oVs, oVec, oCon] <;> omega) | omega | decide), hK_2.out (by first | (simp only [oNum, oKno, oSig, oPro, oFst, oSnd, oBox, oLet, oLts, oMem, oVw, oEnt, oBef, oBk, oVs, oVec, oCon] <;> omega) | omega | decide) (by first | (simp only [oNum, oKno, oSig, oPro, oFst, oSnd, oBox, oLet, oLts, oMem, oVw, oEnt, oBef, oBk, oVs, oVec, oCon] <;> omega) | omega | decide) (by first | (simp only [oNum, oKno, oSig, oPro, oFst, oSnd, oBox, oLet, oLts, oMem, oVw, oEnt, oBef, oBk, oVs, oVec, oCon] <;> omega) | omega | decide)]; exact r3)) ?_
            refine xn_imul hC dX7_passProof_116 (pc' := 117) rfl ?_
            refine xi_iadd hC dX7_passProof_117 (pc' := 118) rfl ?_
            refine xp2_sent hC dX7_passProof_118 (pc' := 121) rfl xw_f_X7_127 (kd_oMem (by omega)) ?_
            refine xi_iload hC dX7_passProof_121 (pc' := 123) rfl rfl ?_
            refine xi_callS (As := [.int (nI 0)]) (rest := []) (c_X7_oneIf l D b n (σ := (sw τ_3 (oMem i) 10 ((τ_3 (oMem i) 10) + (nI (2 * u))))) (x := (nI 0))) hC dX7_passProof_123 (pc' := 126) rfl xw_m_X7_166 xw_c_X7_oneIf xw_sta_X7_oneIf xw_ini_X7 xd_X7_oneIf ⟨Nat.le_of_ble_eq_true rfl, Nat.le_of_ble_eq_true rfl⟩ rfl (Nat.le_of_ble_eq_true rfl) ⟨Nat.le_of_ble_eq_true rfl, Nat.le_of_ble_eq_true rfl⟩ ?_
            rintro _ _ ⟨rfl, rfl⟩
            show xV _ _ _ _ _ _ _ _ _ _ _ _ _ _ _ _ _ (xH D b (sw τ_3 (oMem i) 10 ((τ_3 (oMem i) 10) + (nI (2 * u))))) _ _ [.int (bI ((nI 0) ≠ 0))]
            refine xi_ireturn hC dX7_passProof_126 hr rfl ?_
            refine ⟨_, _, rfl, fun o ho => by rw [sw_n (by simp only [oNum, oKno, oSig, oPro, oFst, oSnd, oBox, oLet, oLts, oMem, oVw, oEnt, oBef, oBk, oVs, oVec, oCon] at * <;> omega), hR_4.out (by simp only [oNum, oKno, oSig, oPro, oFst, oSnd, oBox, oLet, oLts, oMem, oVw, oEnt, oBef, oBk, oVs, oVec, oCon] at * <;> omega), hK_2.out (by simp only [oNum, oKno, oSig, oPro, oFst, oSnd, oBox, oLet, oLts, oMem, oVw, oEnt, oBef, oBk, oVs, oVec, oCon] at * <;> omega) (by simp only [oNum, oKno, oSig, oPro, oFst, oSnd, oBox, oLet, oLts, oMem, oVw, oEnt, oBef, oBk, oVs, oVec, oCon] at * <;> omega) (by simp only [oNum, oKno, oSig, oPro, oFst, oSnd, oBox, oLet, oLts, oMem, oVw, oEnt, oBef, oBk, oVs, oVec, oCon] at * <;> omega)], fun r' T hs => ?_, rfl⟩
            obtain ⟨T1, hT1, c1, c2⟩ := ((hs.2 i j hi hj rfl rfl).2 zc22).2 hP
            obtain ⟨S3, hS3⟩ := mKeep_ex S j (S m_depthOf i + nI 1) (sl (S m_proofOf) (10 * i)) (sl (S m_proofOf) (10 * i + 5))
            obtain ⟨hp1, hp2⟩ := (hMm i (by omega)).2.2.2.1
            obtain ⟨hp3, hp4⟩ := hp2 hP
            rw [hp3] at hK_2
            have hR3 : RR τ_1 S3 u w := R_keep hR hw6 (by omega) hK_2 hS3 (fun p hp => (hp4 p hp).1) (fun p hp => (hp4 p hp).2)
            have hA3 : S3 m_alarmOf = S m_alarmOf := hS3.out (by decide) (by decide) (by decide)
            have hE : ∀ o, o ≠ m_sentBy → T1 o = S3 o := fun o o1 => mKeep_par hS3 hT1 (sw_n (by decide)) (sw_n (by decide)) (sw_n (by decide)) (sw_n o1)
            have hSe : T1 m_sentBy = upd (S m_sentBy) i (S m_sentBy i + nI (2 * u)) := by rw [hT1.out (by decide) (by decide) (by decide), sw_o]
            have hS3e : S3 m_sentBy = S m_sentBy := hS3.out (by decide) (by decide) (by decide)
            have ha1 : τ_1 (oMem j) 5 = nI a := (hR3.2.2.1 j (by omega)).1.2.1.trans (by rw [hA3]; exact hae)
            rcases hR_4 with ⟨x1, x2⟩ | ⟨x1, x2⟩
            · have ha0 : a = 0 := by
                rw [ha1] at x1
                exact (nI_eq0 (by omega)).mp x1
              obtain ⟨q1, q2⟩ := c2 (fun q => absurd ((alm_pos hae (by omega)).mp q) (by omega))
              have hR4 : RR τ_3 (sw S3 m_alarmOf j (nI 5)) u w := by rw [x2]; exact R_al hR3 hw6 (by omega)
              refine ⟨?_, ?_⟩
              · first
                  | exact (bI_t (by decide)).trans q1.symm
                  | exact absurd ha0 zc63
              · have e := (hR4.2.2.1 i (by omega)).1.2.2.2.2.1
                rw [sw_n (by decide), hS3e] at e
                rw [e]
                refine (R_se (x := S m_sentBy i + nI (2 * u)) hR4 hw6 (show i < 5 by omega)).of (fun o _ => ?_) ?_
                · rw [q2]
                  by_cases h1 : o = m_sentBy
                  · subst h1; rw [sw_n (by decide), hSe, sw_o, sw_n (by decide), hS3e]
                  · rw [sw_n h1]
                    by_cases h2 : o = m_alarmOf
                    · subst h2; rw [sw_o, sw_o, hE _ (by decide)]
                    · rw [sw_n h2, sw_n h2]; exact hE o h1
                · rw [q2, sw_n (by decide), sw_n (by decide), sw_n (by decide), hE _ (by decide)]
            · have ha0 : 0 < a := by
                rcases Nat.eq_zero_or_pos a with z0 | z0
                · rw [ha1, z0] at x1; exact absurd nI_0 x1
                · exact z0
              obtain ⟨q1, q2⟩ := c1 ((alm_pos hae (by omega)).mpr ha0)
              subst x2
              refine ⟨?_, ?_⟩
              · first
                  | exact absurd zc63 (by omega)
                  | exact (bI_f (fun q => q nI_0)).trans q1.symm
              · have e := (hR3.2.2.1 i (by omega)).1.2.2.2.2.1
                rw [hS3e] at e
                rw [e]
                refine (R_se (x := S m_sentBy i + nI (2 * u)) hR3 hw6 (show i < 5 by omega)).of (fun o _ => ?_) ?_
                · rw [q2]
                  by_cases h1 : o = m_sentBy
                  · subst h1; rw [hSe, sw_o, hS3e]
                  · rw [sw_n h1]; exact hE o h1
                · rw [q2, sw_n (by decide), hE _ (by decide)]
          · skip
            refine xi_iconst (v := nI 1) hC dX7_passProof_66 (pc' := 67) rfl (by decide +kernel) ?_
            refine xi_goto (tgt := 71) hC dX7_passProof_67 (by decide) ?_
            refine xi_istore (lv' := [some (.ref (b + 0)), some (.int (nI i)), some (.int (nI j)), some (.ref (b + (oPro (oMem i)))), some (.ref (b + (oMem j))), some (.int (nI 1))]) hC dX7_passProof_71 (pc' := 73) rfl (by decide) rfl ?_
            refine xi_aload hC dX7_passProof_73 (pc' := 75) rfl rfl ?_
            refine xg2_proof hC dX7_passProof_75 (pc' := 78) rfl xw_f_X7_141 (kd_oMem (by omega)) ?_
            refine xi_aload_n hC dX7_passProof_78 (pc' := 79) rfl rfl rfl ?_
            refine xg3_first hC dX7_passProof_79 (pc' := 82) rfl xw_f_X7_150 (kd_oPro (kd_oMem (by omega))) ?_
            refine xi_aload_n hC dX7_passProof_82 (pc' := 83) rfl rfl rfl ?_
            refine xg3_second hC dX7_passProof_83 (pc' := 86) rfl xw_f_X7_153 (kd_oPro (kd_oMem (by omega))) ?_
            refine xi_aload_n hC dX7_passProof_86 (pc' := 87) rfl rfl rfl ?_
            refine xg3_depth hC dX7_passProof_87 (pc' := 90) rfl xw_f_X7_156 (kd_oPro (kd_oMem (by omega))) ?_
            refine xi_iconst (v := nI 1) hC dX7_passProof_90 (pc' := 91) rfl (by decide +kernel) ?_
            refine xi_iadd hC dX7_passProof_91 (pc' := 92) rfl ?_
            refine xi_callV (As := [.ref (b + (oFst (oPro (oMem i)))), .ref (b + (oSnd (oPro (oMem i)))), .int ((σ (oPro (oMem i)) 3) + (nI 1))]) (rest := []) (c_X3_keepFirst l D b n (σ := σ) (x := ((σ (oPro (oMem i)) 3) + (nI 1))) (kd_oPro (kd_oMem (by omega))) (kd_oFst (kd_oPro (kd_oMem (by omega)))) (kd_oSnd (kd_oPro (kd_oMem (by omega)))) (by refine ⟨?_, ?_, ?_⟩ <;> first | (simp only [oMs, oVws, oScr, oSgn, oMod, oMem, oSig, oKno, oPro, oBox, oFst, oSnd, oLts, oLet, oNum, oVw, oEnt, oBef, oBk, oVs, oCon, oVec, m_row, m_keptOf, m_keptRow, m_viewOf, m_alarmOf, m_hasProof, m_depthOf, m_proofOf, m_signedOf, m_knownOf, m_doneOf, m_shownTo, m_sentBy, m_hasRead, m_readOf, m_lettersOf, m_letter, m_hand, m_text] <;> omega) | decide | omega | (simp only [oMs, oVws, oScr, oSgn, oMod, oMem, oSig, oKno, oPro, oBox, oFst, oSnd, oLts, oLet, oNum, oVw, oEnt, oBef, oBk, oVs, oCon, oVec, m_row, m_keptOf, m_keptRow, m_viewOf, m_alarmOf, m_hasProof, m_depthOf, m_proofOf, m_signedOf, m_knownOf, m_doneOf, m_shownTo, m_sentBy, m_hasRead, m_readOf, m_lettersOf, m_letter, m_hand, m_text] at * <;> omega))) hC dX7_passProof_92 (pc' := 95) rfl xw_m_X7_159 xw_c_X3_keepFirst xw_ins_X3_keepFirst xw_sel_X3_keepFirst xw_ini_X3 xd_X3_keepFirst (xH_at.trans (xsh_3 (kd_oPro (kd_oMem (by omega))))) rfl ⟨Nat.le_of_ble_eq_true rfl, Nat.le_of_ble_eq_true rfl⟩ rfl (Nat.le_of_ble_eq_true rfl) ⟨Nat.le_of_ble_eq_true rfl, Nat.le_of_ble_eq_true rfl⟩ ?_
            rintro _ _ ⟨rfl, τ_5, hK_6, rfl⟩
            show xV _ _ _ _ _ _ _ _ _ _ _ _ _ _ _ _ _ (xH D b τ_5) _ _ []
            refine xi_aload hC dX7_passProof_95 (pc' := 97) rfl rfl ?_
            refine xi_iconst (v := nI 5) hC dX7_passProof_97 (pc' := 98) rfl (by decide +kernel) ?_
            refine xi_callV (As := [.int (nI 5)]) (rest := []) (c_X2_raise l D b n (σ := τ_5) (x := (nI 5)) (kd_oMem (by omega))) hC dX7_passProof_98 (pc' := 101) rfl xw_m_X7_163 xw_c_X2_raise xw_ins_X2_raise xw_sel_X2_raise xw_ini_X2 xd_X2_raise (xH_at.trans (xsh_2 (kd_oMem (by omega)))) rfl ⟨Nat.le_of_ble_eq_true rfl, Nat.le_of_ble_eq_true rfl⟩ rfl (Nat.le_of_ble_eq_true rfl) ⟨Nat.le_of_ble_eq_true rfl, Nat.le_of_ble_eq_true rfl⟩ ?_
            rintro _ _ ⟨rfl, τ_7, hR_8, rfl⟩
            show xV _ _ _ _ _ _ _ _ _ _ _ _ _ _ _ _ _ (xH D b τ_7) _ _ []
            refine xi_aload_n hC dX7_passProof_101 (pc' := 102) rfl rfl rfl ?_
            refine xg7_members hC dX7_passProof_102 (pc' := 105) rfl xw_f_X7_11 kd_0 ?_
            refine xi_iload_n hC dX7_passProof_105 (pc' := 106) rfl rfl rfl ?_
            refine xa_members hC dX7_passProof_106 (pc' := 107) rfl kd_oMs rfl (by omega) ?_
            refine xi_dup hC dX7_passProof_107 (pc' := 108) rfl rfl ?_
            refine xg2_sent hC dX7_passProof_108 (pc' := 111) rfl xw_f_X7_127 (kd_oMem (by omega)) ?_
            refine xi_iconst (v := nI 2) hC dX7_passProof_111 (pc' := 112) rfl (by decide +kernel) ?_
            refine xi_aload_n hC dX7_passProof_112 (pc' := 113) rfl rfl rfl ?_
            refine xg7_users hC dX7_passProof_113 (pc' := 116) rfl xw_f_X7_28 kd_0 ?_
            refine xtop (y := (nI u)) ((by rw [hR_8.out (by first | (simp only [oNum, oKno, oSig, oPro, oFst, oSnd, oBox, oLet, oLts, oMem, oVw, oEnt, oBef, oBk, oVs, oVec, oCon] <;> omega) | omega | decide), hK_6.out (by first | (simp only [oNum, oKno, oSig, oPro, oFst, oSnd, oBox, oLet, oLts, oMem, oVw, oEnt, oBef, oBk, oVs, oVec, oCon] <;> omega) | omega | decide) (by first | (simp only [oNum, oKno, oSig, oPro, oFst, oSnd, oBox, oLet, oLts, oMem, oVw, oEnt, oBef, oBk, oVs, oVec, oCon] <;> omega) | omega | decide) (by first | (simp only [oNum, oKno, oSig, oPro, oFst, oSnd, oBox, oLet, oLts, oMem, oVw, oEnt, oBef, oBk, oVs, oVec, oCon] <;> omega) | omega | decide)]; exact r3)) ?_
            refine xn_imul hC dX7_passProof_116 (pc' := 117) rfl ?_
            refine xi_iadd hC dX7_passProof_117 (pc' := 118) rfl ?_
            refine xp2_sent hC dX7_passProof_118 (pc' := 121) rfl xw_f_X7_127 (kd_oMem (by omega)) ?_
            refine xi_iload hC dX7_passProof_121 (pc' := 123) rfl rfl ?_
            refine xi_callS (As := [.int (nI 1)]) (rest := []) (c_X7_oneIf l D b n (σ := (sw τ_7 (oMem i) 10 ((τ_7 (oMem i) 10) + (nI (2 * u))))) (x := (nI 1))) hC dX7_passProof_123 (pc' := 126) rfl xw_m_X7_166 xw_c_X7_oneIf xw_sta_X7_oneIf xw_ini_X7 xd_X7_oneIf ⟨Nat.le_of_ble_eq_true rfl, Nat.le_of_ble_eq_true rfl⟩ rfl (Nat.le_of_ble_eq_true rfl) ⟨Nat.le_of_ble_eq_true rfl, Nat.le_of_ble_eq_true rfl⟩ ?_
            rintro _ _ ⟨rfl, rfl⟩
            show xV _ _ _ _ _ _ _ _ _ _ _ _ _ _ _ _ _ (xH D b (sw τ_7 (oMem i) 10 ((τ_7 (oMem i) 10) + (nI (2 * u))))) _ _ [.int (bI ((nI 1) ≠ 0))]
            refine xi_ireturn hC dX7_passProof_126 hr rfl ?_
            refine ⟨_, _, rfl, fun o ho => by rw [sw_n (by simp only [oNum, oKno, oSig, oPro, oFst, oSnd, oBox, oLet, oLts, oMem, oVw, oEnt, oBef, oBk, oVs, oVec, oCon] at * <;> omega), hR_8.out (by simp only [oNum, oKno, oSig, oPro, oFst, oSnd, oBox, oLet, oLts, oMem, oVw, oEnt, oBef, oBk, oVs, oVec, oCon] at * <;> omega), hK_6.out (by simp only [oNum, oKno, oSig, oPro, oFst, oSnd, oBox, oLet, oLts, oMem, oVw, oEnt, oBef, oBk, oVs, oVec, oCon] at * <;> omega) (by simp only [oNum, oKno, oSig, oPro, oFst, oSnd, oBox, oLet, oLts, oMem, oVw, oEnt, oBef, oBk, oVs, oVec, oCon] at * <;> omega) (by simp only [oNum, oKno, oSig, oPro, oFst, oSnd, oBox, oLet, oLts, oMem, oVw, oEnt, oBef, oBk, oVs, oVec, oCon] at * <;> omega)], fun r' T hs => ?_, rfl⟩
            obtain ⟨T1, hT1, c1, c2⟩ := ((hs.2 i j hi hj rfl rfl).2 zc22).2 hP
            obtain ⟨S3, hS3⟩ := mKeep_ex S j (S m_depthOf i + nI 1) (sl (S m_proofOf) (10 * i)) (sl (S m_proofOf) (10 * i + 5))
            obtain ⟨hp1, hp2⟩ := (hMm i (by omega)).2.2.2.1
            obtain ⟨hp3, hp4⟩ := hp2 hP
            rw [hp3] at hK_6
            have hR3 : RR τ_5 S3 u w := R_keep hR hw6 (by omega) hK_6 hS3 (fun p hp => (hp4 p hp).1) (fun p hp => (hp4 p hp).2)
            have hA3 : S3 m_alarmOf = S m_alarmOf := hS3.out (by decide) (by decide) (by decide)
            have hE : ∀ o, o ≠ m_sentBy → T1 o = S3 o := fun o o1 => mKeep_par hS3 hT1 (sw_n (by decide)) (sw_n (by decide)) (sw_n (by decide)) (sw_n o1)
            have hSe : T1 m_sentBy = upd (S m_sentBy) i (S m_sentBy i + nI (2 * u)) := by rw [hT1.out (by decide) (by decide) (by decide), sw_o]
            have hS3e : S3 m_sentBy = S m_sentBy := hS3.out (by decide) (by decide) (by decide)
            have ha1 : τ_5 (oMem j) 5 = nI a := (hR3.2.2.1 j (by omega)).1.2.1.trans (by rw [hA3]; exact hae)
            rcases hR_8 with ⟨x1, x2⟩ | ⟨x1, x2⟩
            · have ha0 : a = 0 := by
                rw [ha1] at x1
                exact (nI_eq0 (by omega)).mp x1
              obtain ⟨q1, q2⟩ := c2 (fun q => absurd ((alm_pos hae (by omega)).mp q) (by omega))
              have hR4 : RR τ_7 (sw S3 m_alarmOf j (nI 5)) u w := by rw [x2]; exact R_al hR3 hw6 (by omega)
              refine ⟨?_, ?_⟩
              · first
                  | exact (bI_t (by decide)).trans q1.symm
                  | exact absurd ha0 zc63
              · have e := (hR4.2.2.1 i (by omega)).1.2.2.2.2.1
                rw [sw_n (by decide), hS3e] at e
                rw [e]
                refine (R_se (x := S m_sentBy i + nI (2 * u)) hR4 hw6 (show i < 5 by omega)).of (fun o _ => ?_) ?_
                · rw [q2]
                  by_cases h1 : o = m_sentBy
                  · subst h1; rw [sw_n (by decide), hSe, sw_o, sw_n (by decide), hS3e]
                  · rw [sw_n h1]
                    by_cases h2 : o = m_alarmOf
                    · subst h2; rw [sw_o, sw_o, hE _ (by decide)]
                    · rw [sw_n h2, sw_n h2]; exact hE o h1
                · rw [q2, sw_n (by decide), sw_n (by decide), sw_n (by decide), hE _ (by decide)]
            · have ha0 : 0 < a := by
                rcases Nat.eq_zero_or_pos a with z0 | z0
                · rw [ha1, z0] at x1; exact absurd nI_0 x1
                · exact z0
              obtain ⟨q1, q2⟩ := c1 ((alm_pos hae (by omega)).mpr ha0)
              subst x2
              refine ⟨?_, ?_⟩
              · first
                  | exact absurd zc63 (by omega)
                  | exact (bI_f (fun q => q nI_0)).trans q1.symm
              · have e := (hR3.2.2.1 i (by omega)).1.2.2.2.2.1
                rw [hS3e] at e
                rw [e]
                refine (R_se (x := S m_sentBy i + nI (2 * u)) hR3 hw6 (show i < 5 by omega)).of (fun o _ => ?_) ?_
                · rw [q2]
                  by_cases h1 : o = m_sentBy
                  · subst h1; rw [hSe, sw_o, hS3e]
                  · rw [sw_n h1]; exact hE o h1
                · rw [q2, sw_n (by decide), hE _ (by decide)]
        · skip
          refine xi_sipush (v := -10003) hC dX7_passProof_46 (pc' := 49) rfl (by decide +kernel) ?_
          refine xi_ireturn hC dX7_passProof_49 hr rfl ?_
          refine ⟨_, σ, rfl, Hi.rf, fun r' T hs => ?_, rfl⟩
          obtain ⟨q1, q2⟩ := ((hs.2 i j hi hj rfl rfl).2 zc22).1 (((hMm i (by omega)).2.2.2.1.1).symm.trans zc43)
          subst q2
          exact ⟨q1.symm, hR⟩
      · skip
        refine xi_sipush (v := -10002) hC dX7_passProof_25 (pc' := 28) rfl (by decide +kernel) ?_
        refine xi_ireturn hC dX7_passProof_28 hr rfl ?_
        refine ⟨_, σ, rfl, Hi.rf, fun r' T hs => ?_, rfl⟩
        obtain ⟨q1, q2⟩ := (hs.2 i j hi hj rfl rfl).1 zc22
        subst q2
        exact ⟨q1.symm, hR⟩
    · skip
      refine xi_sipush (v := -10001) hC dX7_passProof_16 (pc' := 19) rfl (by decide +kernel) ?_
      refine xi_ireturn hC dX7_passProof_19 hr rfl ?_
      refine ⟨_, σ, rfl, Hi.rf, fun r' T hs => ?_, rfl⟩
      obtain ⟨q1, q2⟩ := (hs.1 (fun q => by first | exact zc5 q.1 | exact zc13 q.2))
      subst q2
      exact ⟨q1.symm, hR⟩
set_option maxRecDepth 100000 in
set_option maxHeartbeats 4000000 in
theorem c_X7_type (l : Launch) (D : XD) (b n : Nat) {σ S : XM} {N u w : Nat} (hS : SI N S u w) (hR : RR σ S u w) (hN : N + 1 < 2 ^ 31) {x : Int32} (hx : vp_nar .char x = x)  : xM l yX7_type cX7_type 2 (some .int) 1 21 0 0 D b n [.ref (b + 0), .int x] (xH D b σ) n (fun y' h' => ∃ (r : Int32) (τ : XM), y' = some (.int r) ∧ Hi τ σ ∧ (∀ (r' : Int32) (T : XM), s_type S x r' T → r = r' ∧ RR τ T u w) ∧ h' = xH D b τ) := by
  refine xM.of (lv := [some (.ref (b + 0)), some (.int x)]) (by decide +kernel) rfl (List.forall_mem_cons.mpr ⟨rfl, List.forall_mem_cons.mpr ⟨rfl, fun _ h => absurd h List.not_mem_nil⟩⟩) (Nat.le_of_ble_eq_true rfl) rfl ?_
  intro p e s m args below meth c hC hr hnm
  obtain ⟨hU, hn, hVw, hKp, hLt, hTx, hAl⟩ := id hS.1
  obtain ⟨hu, hu2, hu5⟩ := id hU
  obtain ⟨hn1, hw1, hw6⟩ := id hn
  obtain ⟨r3, r4, hMm, hVv, hTt⟩ := id hR
  obtain ⟨t, ht60, ht⟩ := id hTx
  refine xi_aload_n hC dX7_type_0 (pc' := 1) rfl rfl rfl ?_
  refine xg7_script hC dX7_type_1 (pc' := 4) rfl xw_f_X7_24 kd_0 ?_
  refine xg4_length hC dX7_type_4 (pc' := 7) rfl xw_f_X7_220 kd_oScr ?_
  refine xtop (y := (nI t)) ((hTt.1.trans ht)) ?_
  refine xi_bipush (v := nI 60) hC dX7_type_7 (pc' := 9) rfl (by decide +kernel) ?_
  refine xn_icmplt (tgt := 16) hC dX7_type_9 (pc' := 12) rfl (by decide) (by omega) (by omega) (fun zc9 => ?_) (fun zc9 => ?_)
  · skip
    refine xi_aload_n hC dX7_type_16 (pc' := 17) rfl rfl rfl ?_
    refine xg7_script hC dX7_type_17 (pc' := 20) rfl xw_f_X7_24 kd_0 ?_
    refine xi_iload_n hC dX7_type_20 (pc' := 21) rfl rfl rfl ?_
    refine xi_callV (As := [.int x]) (rest := []) (c_X4_append l D b n (σ := σ) (z := t) (x := x) (hTt.1.trans ht) (by omega)) hC dX7_type_21 (pc' := 24) rfl xw_m_X7_223 xw_c_X4_append xw_ins_X4_append xw_sel_X4_append xw_ini_X4 xd_X4_append (xH_at.trans (xsh_4 kd_oScr)) rfl ⟨Nat.le_of_ble_eq_true rfl, Nat.le_of_ble_eq_true rfl⟩ rfl (Nat.le_of_ble_eq_true rfl) ⟨Nat.le_of_ble_eq_true rfl, Nat.le_of_ble_eq_true rfl⟩ ?_
    rintro _ _ ⟨rfl, rfl⟩
    show xV _ _ _ _ _ _ _ _ _ _ _ _ _ _ _ _ _ (xH D b (sw (sw σ oSgn t x) oScr 1 (nI (t + 1)))) _ _ []
    refine xi_aload_n hC dX7_type_24 (pc' := 25) rfl rfl rfl ?_
    refine xg7_script hC dX7_type_25 (pc' := 28) rfl xw_f_X7_24 kd_0 ?_
    refine xg4_length hC dX7_type_28 (pc' := 31) rfl xw_f_X7_220 kd_oScr ?_
    refine xtop (y := (nI (t + 1))) (by rw [sw_s]) ?_
    refine xi_ireturn hC dX7_type_31 hr rfl ?_
    refine ⟨_, _, rfl, fun o ho => by rw [sw_n (by simp only [oScr, oSgn, oNum, oKno, oSig, oPro, oFst, oSnd, oBox, oLet, oLts, oMem, oVw, oEnt, oBef, oBk, oVs, oVec, oCon] at * <;> omega), sw_n (by simp only [oScr, oSgn, oNum, oKno, oSig, oPro, oFst, oSnd, oBox, oLet, oLts, oMem, oVw, oEnt, oBef, oBk, oVs, oVec, oCon] at * <;> omega)], fun r' T hs => ?_, rfl⟩
    obtain ⟨q1, q2⟩ := (hs t ht60 ht).2 (by omega)
    subst q2
    exact ⟨q1.symm, R_type hR hw6 ht (by omega)⟩
  · skip
    refine xi_sipush (v := -10004) hC dX7_type_12 (pc' := 15) rfl (by decide +kernel) ?_
    refine xi_ireturn hC dX7_type_15 hr rfl ?_
    refine ⟨_, σ, rfl, Hi.rf, fun r' T hs => ?_, rfl⟩
    obtain ⟨q1, q2⟩ := (hs t ht60 ht).1 (by omega)
    subst q2
    exact ⟨q1.symm, hR⟩
set_option maxRecDepth 100000 in
set_option maxHeartbeats 4000000 in
theorem c_X7_clearText (l : Launch) (D : XD) (b n : Nat) {σ S : XM} {N u w : Nat} (hS : SI N S u w) (hR : RR σ S u w) (hN : N + 1 < 2 ^ 31)  : xM l yX7_clearText cX7_clearText 2 (some .int) 0 0 0 0 D b n [.ref (b + 0)] (xH D b σ) n (fun y' h' => ∃ (r : Int32) (τ : XM), y' = some (.int r) ∧ Hi τ σ ∧ (∀ (r' : Int32) (T : XM), s_clear S r' T → r = r' ∧ RR τ T u w) ∧ h' = xH D b τ) := by
  refine xM.of (lv := [some (.ref (b + 0)), none]) (by decide +kernel) rfl (List.forall_mem_cons.mpr ⟨rfl, fun _ h => absurd h List.not_mem_nil⟩) (Nat.le_of_ble_eq_true rfl) rfl ?_
  intro p e s m args below meth c hC hr hnm
  obtain ⟨hU, hn, hVw, hKp, hLt, hTx, hAl⟩ := id hS.1
  obtain ⟨hu, hu2, hu5⟩ := id hU
  obtain ⟨hn1, hw1, hw6⟩ := id hn
  obtain ⟨r3, r4, hMm, hVv, hTt⟩ := id hR
  refine xi_aload_n hC dX7_clearText_0 (pc' := 1) rfl rfl rfl ?_
  refine xg7_script hC dX7_clearText_1 (pc' := 4) rfl xw_f_X7_24 kd_0 ?_
  refine xg4_length hC dX7_clearText_4 (pc' := 7) rfl xw_f_X7_220 kd_oScr ?_
  refine xi_istore_n (lv' := [some (.ref (b + 0)), some (.int (σ oScr 1))]) hC dX7_clearText_7 (pc' := 8) rfl rfl (by decide) rfl ?_
  refine xi_aload_n hC dX7_clearText_8 (pc' := 9) rfl rfl rfl ?_
  refine xg7_script hC dX7_clearText_9 (pc' := 12) rfl xw_f_X7_24 kd_0 ?_
  refine xi_iconst (v := nI 0) hC dX7_clearText_12 (pc' := 13) rfl (by decide +kernel) ?_
  refine xp4_length hC dX7_clearText_13 (pc' := 16) rfl xw_f_X7_220 kd_oScr ?_
  refine xi_iload_n hC dX7_clearText_16 (pc' := 17) rfl rfl rfl ?_
  refine xi_ireturn hC dX7_clearText_17 hr rfl ?_
  refine ⟨_, _, rfl, fun o ho => sw_n (by simp only [oScr, oSgn, oNum, oKno, oSig, oPro, oFst, oSnd, oBox, oLet, oLts, oMem, oVw, oEnt, oBef, oBk, oVs, oVec, oCon] at * <;> omega), fun r' T hs => ?_, rfl⟩
  obtain ⟨q1, q2⟩ := hs
  subst q2
  exact ⟨hTt.1.trans q1.symm, R_clr hR hw6⟩
