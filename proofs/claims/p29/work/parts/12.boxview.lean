/-! ===== Box, View ===== -/
set_option maxRecDepth 100000 in
set_option maxHeartbeats 4000000 in
theorem c_X0_put (l : Launch) (D : XD) (b n : Nat) {σ : XM} {o1 q z : Nat} (h1 : kd o1 = 0) (h2 : kd q = 5) (hz : σ o1 1 = nI z) (hz4 : z < 4) (hne : q ≠ oLet (oLts o1) z) : xM l yX0_put cX0_put 2 none 1 22 0 0 D b n [.ref (b + o1), .ref (b + q)] (xH D b σ) n (fun v h' => v = none ∧ ∃ g : Nat → Int32, (∀ k, k < 5 → g k = σ (oNum q) k) ∧ h' = xH D b (sw (su σ (oNum (oLet (oLts o1) z)) g) o1 1 (nI (z + 1)))) := by
  refine xM.of (lv := [some (.ref (b + o1)), some (.ref (b + q))]) (by decide +kernel) rfl (List.forall_mem_cons.mpr ⟨rfl, List.forall_mem_cons.mpr ⟨rfl, fun _ h => absurd h List.not_mem_nil⟩⟩) (Nat.le_of_ble_eq_true rfl) rfl ?_
  intro p e s m args below meth c hC hr hnm
  refine xi_aload_n hC dX0_put_0 (pc' := 1) rfl rfl rfl ?_
  refine xg0_size hC dX0_put_1 (pc' := 4) rfl xw_f_X0_18 h1 ?_
  refine xtop (y := (nI z)) (hz) ?_
  refine xi_iconst (v := nI 4) hC dX0_put_4 (pc' := 5) rfl (by decide +kernel) ?_
  refine xn_icmpge (tgt := 31) hC dX0_put_5 (pc' := 8) rfl (by decide) (by omega) (by omega) (fun zc5 => ?_) (fun zc5 => ?_)
  · omega
  · skip
    refine xi_aload_n hC dX0_put_8 (pc' := 9) rfl rfl rfl ?_
    refine xg0_letters hC dX0_put_9 (pc' := 12) rfl xw_f_X0_11 h1 ?_
    refine xi_aload_n hC dX0_put_12 (pc' := 13) rfl rfl rfl ?_
    refine xg0_size hC dX0_put_13 (pc' := 16) rfl xw_f_X0_18 h1 ?_
    refine xtop (y := (nI z)) (hz) ?_
    refine xa_letters hC dX0_put_16 (pc' := 17) rfl (kd_oLts h1) rfl (by omega) ?_
    refine xi_aload_n hC dX0_put_17 (pc' := 18) rfl rfl rfl ?_
    refine xi_callV (As := [.ref (b + q)]) (rest := []) (c_X5_copyFrom l D b n (σ := σ) (kd_oLet (kd_oLts h1) (by omega)) h2 (by first | (simp only [oMs, oVws, oScr, oSgn, oMod, oMem, oSig, oKno, oPro, oBox, oFst, oSnd, oLts, oLet, oNum, oVw, oEnt, oBef, oBk, oVs, oCon, oVec, m_row, m_keptOf, m_keptRow, m_viewOf, m_alarmOf, m_hasProof, m_depthOf, m_proofOf, m_signedOf, m_knownOf, m_doneOf, m_shownTo, m_sentBy, m_hasRead, m_readOf, m_lettersOf, m_letter, m_hand, m_text] <;> omega) | decide | omega | (simp only [oMs, oVws, oScr, oSgn, oMod, oMem, oSig, oKno, oPro, oBox, oFst, oSnd, oLts, oLet, oNum, oVw, oEnt, oBef, oBk, oVs, oCon, oVec, m_row, m_keptOf, m_keptRow, m_viewOf, m_alarmOf, m_hasProof, m_depthOf, m_proofOf, m_signedOf, m_knownOf, m_doneOf, m_shownTo, m_sentBy, m_hasRead, m_readOf, m_lettersOf, m_letter, m_hand, m_text] at * <;> omega))) hC dX0_put_18 (pc' := 21) rfl xw_m_X0_22 xw_c_X5_copyFrom xw_ins_X5_copyFrom xw_sel_X5_copyFrom xw_ini_X5 xd_X5_copyFrom (xH_at.trans (xsh_5 (kd_oLet (kd_oLts h1) (by omega)))) rfl ⟨Nat.le_of_ble_eq_true rfl, Nat.le_of_ble_eq_true rfl⟩ rfl (Nat.le_of_ble_eq_true rfl) ⟨Nat.le_of_ble_eq_true rfl, Nat.le_of_ble_eq_true rfl⟩ ?_
    rintro _ _ ⟨rfl, g_1, hg_2, rfl⟩
    show xV _ _ _ _ _ _ _ _ _ _ _ _ _ _ _ _ _ (xH D b (su σ (oNum (oLet (oLts o1) z)) g_1)) _ _ []
    refine xi_aload_n hC dX0_put_21 (pc' := 22) rfl rfl rfl ?_
    refine xi_dup hC dX0_put_22 (pc' := 23) rfl rfl ?_
    refine xg0_size hC dX0_put_23 (pc' := 26) rfl xw_f_X0_18 h1 ?_
    refine xtop (y := (σ o1 1)) (by rw [su_n (q := o1) (o := (oNum (oLet (oLts o1) z))) (by first | (simp only [oMs, oVws, oScr, oSgn, oMod, oMem, oSig, oKno, oPro, oBox, oFst, oSnd, oLts, oLet, oNum, oVw, oEnt, oBef, oBk, oVs, oCon, oVec, m_row, m_keptOf, m_keptRow, m_viewOf, m_alarmOf, m_hasProof, m_depthOf, m_proofOf, m_signedOf, m_knownOf, m_doneOf, m_shownTo, m_sentBy, m_hasRead, m_readOf, m_lettersOf, m_letter, m_hand, m_text] <;> omega) | decide | omega | (simp only [oMs, oVws, oScr, oSgn, oMod, oMem, oSig, oKno, oPro, oBox, oFst, oSnd, oLts, oLet, oNum, oVw, oEnt, oBef, oBk, oVs, oCon, oVec, m_row, m_keptOf, m_keptRow, m_viewOf, m_alarmOf, m_hasProof, m_depthOf, m_proofOf, m_signedOf, m_knownOf, m_doneOf, m_shownTo, m_sentBy, m_hasRead, m_readOf, m_lettersOf, m_letter, m_hand, m_text] at * <;> omega))]) ?_
    refine xtop (y := (nI z)) (hz) ?_
    refine xi_iconst (v := nI 1) hC dX0_put_26 (pc' := 27) rfl (by decide +kernel) ?_
    refine xn_iadd hC dX0_put_27 (pc' := 28) rfl ?_
    refine xp0_size hC dX0_put_28 (pc' := 31) rfl xw_f_X0_18 h1 ?_
    refine xi_return hC dX0_put_31 hr rfl ?_
    exact ⟨rfl, _, hg_2, rfl⟩
set_option maxRecDepth 100000 in
set_option maxHeartbeats 4000000 in
theorem c_X0_dropFirst (l : Launch) (D : XD) (b n : Nat) {σ : XM} {o1 z : Nat} (h1 : kd o1 = 0) (hz : σ o1 1 = nI (z + 1)) (hz4 : z < 4) : xM l yX0_dropFirst cX0_dropFirst 2 none 1 22 0 0 D b n [.ref (b + o1)] (xH D b σ) n (fun v h' => v = none ∧ ∃ τ : XM, τ o1 1 = nI z ∧ (∀ j, j < z → ∀ k, k < 5 → τ (oNum (oLet (oLts o1) j)) k = σ (oNum (oLet (oLts o1) (j + 1))) k) ∧ (∀ q, q ≠ o1 → (∀ j, j < 4 → q ≠ oNum (oLet (oLts o1) j)) → τ q = σ q) ∧ h' = xH D b τ) := by
  refine xM.of (lv := [some (.ref (b + o1)), none]) (by decide +kernel) rfl (List.forall_mem_cons.mpr ⟨rfl, fun _ h => absurd h List.not_mem_nil⟩) (Nat.le_of_ble_eq_true rfl) rfl ?_
  intro p e s m args below meth c hC hr hnm
  refine xi_iconst (v := nI 1) hC dX0_dropFirst_0 (pc' := 1) rfl (by decide +kernel) ?_
  refine xi_istore_n (lv' := [some (.ref (b + o1)), some (.int (nI 1))]) hC dX0_dropFirst_1 (pc' := 2) rfl rfl (by decide) rfl ?_
  have L2 : ∀ (d : Nat) (i : Nat) (τ : XM), z - i < d → (i ≤ z) → (τ o1 = σ o1) → (∀ j, j < i → ∀ k, k < 5 → τ (oNum (oLet (oLts o1) j)) k = σ (oNum (oLet (oLts o1) (j + 1))) k) → (∀ j, i ≤ j → j < 4 → τ (oNum (oLet (oLts o1) j)) = σ (oNum (oLet (oLts o1) j))) → (∀ q, q ≠ o1 → (∀ j, j < 4 → q ≠ oNum (oLet (oLts o1) j)) → τ q = σ q) → xV p l e (xR 1 22 0 0) s m args below meth c D b 2 0 0 (MQ below (xQ D b n (fun v h' => v = none ∧ ∃ τ : XM, τ o1 1 = nI z ∧ (∀ j, j < z → ∀ k, k < 5 → τ (oNum (oLet (oLts o1) j)) k = σ (oNum (oLet (oLts o1) (j + 1))) k) ∧ (∀ q, q ≠ o1 → (∀ j, j < 4 → q ≠ oNum (oLet (oLts o1) j)) → τ q = σ q) ∧ h' = xH D b τ)) args s 0 0 (fun q => b ≤ q)) n (xH D b τ) 2 [some (.ref (b + o1)), some (.int (nI (i + 1)))] [] := by
    intro d
    induction d with
    | zero => intro i τ h; exact absurd h (Nat.not_lt_zero _)
    | succ d ih2 =>
      intro i τ hd2 hi e1 hA hB hF
      refine xi_iload_n hC dX0_dropFirst_2 (pc' := 3) rfl rfl rfl ?_
      refine xi_aload_n hC dX0_dropFirst_3 (pc' := 4) rfl rfl rfl ?_
      refine xg0_size hC dX0_dropFirst_4 (pc' := 7) rfl xw_f_X0_18 h1 ?_
      refine xtop (y := (nI (z + 1))) (by rw [e1]; exact hz) ?_
      refine xn_icmpge (tgt := 33) hC dX0_dropFirst_7 (pc' := 10) rfl (by decide) (by omega) (by omega) (fun zc7 => ?_) (fun zc7 => ?_)
      · skip
        refine xi_aload_n hC dX0_dropFirst_33 (pc' := 34) rfl rfl rfl ?_
        refine xg0_size hC dX0_dropFirst_34 (pc' := 37) rfl xw_f_X0_18 h1 ?_
        refine xtop (y := (nI (z + 1))) (by rw [e1]; exact hz) ?_
        refine xn_ifle (tgt := 50) hC dX0_dropFirst_37 (pc' := 40) rfl (by decide) (by omega) (fun zc37 => ?_) (fun zc37 => ?_)
        · omega
        · skip
          refine xi_aload_n hC dX0_dropFirst_40 (pc' := 41) rfl rfl rfl ?_
          refine xi_dup hC dX0_dropFirst_41 (pc' := 42) rfl rfl ?_
          refine xg0_size hC dX0_dropFirst_42 (pc' := 45) rfl xw_f_X0_18 h1 ?_
          refine xtop (y := (nI (z + 1))) (by rw [e1]; exact hz) ?_
          refine xi_iconst (v := nI 1) hC dX0_dropFirst_45 (pc' := 46) rfl (by decide +kernel) ?_
          refine xn_isub hC dX0_dropFirst_46 (pc' := 47) rfl (by omega) ?_
          refine xtop (y := nI z) (by rw [Nat.add_sub_cancel]) ?_
          refine xp0_size hC dX0_dropFirst_47 (pc' := 50) rfl xw_f_X0_18 h1 ?_
          refine xi_return hC dX0_dropFirst_50 hr rfl ?_
          obtain rfl : i = z := by omega
          refine ⟨rfl, _, sw_s, fun j hj k hk => ?_, fun q' hq1 hq2 => ?_, rfl⟩
          · rw [sw_n (by first | (simp only [oMs, oVws, oScr, oSgn, oMod, oMem, oSig, oKno, oPro, oBox, oFst, oSnd, oLts, oLet, oNum, oVw, oEnt, oBef, oBk, oVs, oCon, oVec, m_row, m_keptOf, m_keptRow, m_viewOf, m_alarmOf, m_hasProof, m_depthOf, m_proofOf, m_signedOf, m_knownOf, m_doneOf, m_shownTo, m_sentBy, m_hasRead, m_readOf, m_lettersOf, m_letter, m_hand, m_text] <;> omega) | decide | omega | (simp only [oMs, oVws, oScr, oSgn, oMod, oMem, oSig, oKno, oPro, oBox, oFst, oSnd, oLts, oLet, oNum, oVw, oEnt, oBef, oBk, oVs, oCon, oVec, m_row, m_keptOf, m_keptRow, m_viewOf, m_alarmOf, m_hasProof, m_depthOf, m_proofOf, m_signedOf, m_knownOf, m_doneOf, m_shownTo, m_sentBy, m_hasRead, m_readOf, m_lettersOf, m_letter, m_hand, m_text] at * <;> omega))]; exact hA j hj k hk
          · rw [sw_n hq1]; exact hF q' hq1 hq2
      · skip
        refine xi_aload_n hC dX0_dropFirst_10 (pc' := 11) rfl rfl rfl ?_
        refine xg0_letters hC dX0_dropFirst_11 (pc' := 14) rfl xw_f_X0_11 h1 ?_
        refine xi_iload_n hC dX0_dropFirst_14 (pc' := 15) rfl rfl rfl ?_
        refine xi_iconst (v := nI 1) hC dX0_dropFirst_15 (pc' := 16) rfl (by decide +kernel) ?_
        refine xn_isub hC dX0_dropFirst_16 (pc' := 17) rfl (by omega) ?_
        refine xtop (y := nI i) (by rw [Nat.add_sub_cancel]) ?_
        refine xa_letters hC dX0_dropFirst_17 (pc' := 18) rfl (kd_oLts h1) rfl (by omega) ?_
        refine xi_aload_n hC dX0_dropFirst_18 (pc' := 19) rfl rfl rfl ?_
        refine xg0_letters hC dX0_dropFirst_19 (pc' := 22) rfl xw_f_X0_11 h1 ?_
        refine xi_iload_n hC dX0_dropFirst_22 (pc' := 23) rfl rfl rfl ?_
        refine xa_letters hC dX0_dropFirst_23 (pc' := 24) rfl (kd_oLts h1) rfl (by omega) ?_
        refine xi_callV (As := [.ref (b + (oLet (oLts o1) (i + 1)))]) (rest := []) (c_X5_copyFrom l D b n (σ := τ) (kd_oLet (kd_oLts h1) (by omega)) (kd_oLet (kd_oLts h1) (by omega)) (by first | (simp only [oMs, oVws, oScr, oSgn, oMod, oMem, oSig, oKno, oPro, oBox, oFst, oSnd, oLts, oLet, oNum, oVw, oEnt, oBef, oBk, oVs, oCon, oVec, m_row, m_keptOf, m_keptRow, m_viewOf, m_alarmOf, m_hasProof, m_depthOf, m_proofOf, m_signedOf, m_knownOf, m_doneOf, m_shownTo, m_sentBy, m_hasRead, m_readOf, m_lettersOf, m_letter, m_hand, m_text] <;> omega) | decide | omega | (simp only [oMs, oVws, oScr, oSgn, oMod, oMem, oSig, oKno, oPro, oBox, oFst, oSnd, oLts, oLet, oNum, oVw, oEnt, oBef, oBk, oVs, oCon, oVec, m_row, m_keptOf, m_keptRow, m_viewOf, m_alarmOf, m_hasProof, m_depthOf, m_proofOf, m_signedOf, m_knownOf, m_doneOf, m_shownTo, m_sentBy, m_hasRead, m_readOf, m_lettersOf, m_letter, m_hand, m_text] at * <;> omega))) hC dX0_dropFirst_24 (pc' := 27) rfl xw_m_X0_22 xw_c_X5_copyFrom xw_ins_X5_copyFrom xw_sel_X5_copyFrom xw_ini_X5 xd_X5_copyFrom (xH_at.trans (xsh_5 (kd_oLet (kd_oLts h1) (by omega)))) rfl ⟨Nat.le_of_ble_eq_true rfl, Nat.le_of_ble_eq_true rfl⟩ rfl (Nat.le_of_ble_eq_true rfl) ⟨Nat.le_of_ble_eq_true rfl, Nat.le_of_ble_eq_true rfl⟩ ?_
        rintro _ _ ⟨rfl, g_1, hg_2, rfl⟩
        show xV _ _ _ _ _ _ _ _ _ _ _ _ _ _ _ _ _ (xH D b (su τ (oNum (oLet (oLts o1) i)) g_1)) _ _ []
        refine xn_iinc (lv' := [some (.ref (b + o1)), some (.int (nI (i + 1 + 1)))]) hC dX0_dropFirst_27 (pc' := 30) rfl rfl (by decide) rfl ?_
        refine xi_goto (tgt := 2) hC dX0_dropFirst_30 (by decide) ?_
        refine ih2 _ _ (by omega) ?_ ?_ ?_ ?_ ?_
        · omega
        · exact (su_n (by first | (simp only [oMs, oVws, oScr, oSgn, oMod, oMem, oSig, oKno, oPro, oBox, oFst, oSnd, oLts, oLet, oNum, oVw, oEnt, oBef, oBk, oVs, oCon, oVec, m_row, m_keptOf, m_keptRow, m_viewOf, m_alarmOf, m_hasProof, m_depthOf, m_proofOf, m_signedOf, m_knownOf, m_doneOf, m_shownTo, m_sentBy, m_hasRead, m_readOf, m_lettersOf, m_letter, m_hand, m_text] <;> omega) | decide | omega | (simp only [oMs, oVws, oScr, oSgn, oMod, oMem, oSig, oKno, oPro, oBox, oFst, oSnd, oLts, oLet, oNum, oVw, oEnt, oBef, oBk, oVs, oCon, oVec, m_row, m_keptOf, m_keptRow, m_viewOf, m_alarmOf, m_hasProof, m_depthOf, m_proofOf, m_signedOf, m_knownOf, m_doneOf, m_shownTo, m_sentBy, m_hasRead, m_readOf, m_lettersOf, m_letter, m_hand, m_text] at * <;> omega))).trans e1
        · intro j hj k hk
          by_cases hij : j = i
          · subst hij
            rw [su_s, hg_2 k hk]
            exact congrFun (hB (j + 1) (by omega) (by omega)) k
          · rw [su_n (by first | (simp only [oMs, oVws, oScr, oSgn, oMod, oMem, oSig, oKno, oPro, oBox, oFst, oSnd, oLts, oLet, oNum, oVw, oEnt, oBef, oBk, oVs, oCon, oVec, m_row, m_keptOf, m_keptRow, m_viewOf, m_alarmOf, m_hasProof, m_depthOf, m_proofOf, m_signedOf, m_knownOf, m_doneOf, m_shownTo, m_sentBy, m_hasRead, m_readOf, m_lettersOf, m_letter, m_hand, m_text] <;> omega) | decide | omega | (simp only [oMs, oVws, oScr, oSgn, oMod, oMem, oSig, oKno, oPro, oBox, oFst, oSnd, oLts, oLet, oNum, oVw, oEnt, oBef, oBk, oVs, oCon, oVec, m_row, m_keptOf, m_keptRow, m_viewOf, m_alarmOf, m_hasProof, m_depthOf, m_proofOf, m_signedOf, m_knownOf, m_doneOf, m_shownTo, m_sentBy, m_hasRead, m_readOf, m_lettersOf, m_letter, m_hand, m_text] at * <;> omega))]; exact hA j (by omega) k hk
        · intro j h1' h4
          rw [su_n (by first | (simp only [oMs, oVws, oScr, oSgn, oMod, oMem, oSig, oKno, oPro, oBox, oFst, oSnd, oLts, oLet, oNum, oVw, oEnt, oBef, oBk, oVs, oCon, oVec, m_row, m_keptOf, m_keptRow, m_viewOf, m_alarmOf, m_hasProof, m_depthOf, m_proofOf, m_signedOf, m_knownOf, m_doneOf, m_shownTo, m_sentBy, m_hasRead, m_readOf, m_lettersOf, m_letter, m_hand, m_text] <;> omega) | decide | omega | (simp only [oMs, oVws, oScr, oSgn, oMod, oMem, oSig, oKno, oPro, oBox, oFst, oSnd, oLts, oLet, oNum, oVw, oEnt, oBef, oBk, oVs, oCon, oVec, m_row, m_keptOf, m_keptRow, m_viewOf, m_alarmOf, m_hasProof, m_depthOf, m_proofOf, m_signedOf, m_knownOf, m_doneOf, m_shownTo, m_sentBy, m_hasRead, m_readOf, m_lettersOf, m_letter, m_hand, m_text] at * <;> omega))]; exact hB j (by omega) h4
        · intro q' hq1 hq2
          rw [su_n (by have := hq2 i (by omega); simpa using this)]; exact hF q' hq1 hq2
  refine L2 _ _ _ (Nat.lt_succ_self _) ?_ ?_ ?_ ?_ ?_
  · omega
  · rfl
  · intro j hj; omega
  · exact fun _ _ _ => rfl
  · exact fun _ _ _ => rfl
set_option maxRecDepth 100000 in
set_option maxHeartbeats 4000000 in
theorem c_X6_forget (l : Launch) (D : XD) (b n : Nat) {σ : XM} {o1 : Nat} (h1 : kd o1 = 6) : xM l yX6_forget cX6_forget 1 none 0 0 0 0 D b n [.ref (b + o1)] (xH D b σ) n (fun v h' => v = none ∧ h' = xH D b (sw (sw σ o1 2 (nI 0)) o1 3 (nI 0))) := by
  refine xM.of (lv := [some (.ref (b + o1))]) (by decide +kernel) rfl (List.forall_mem_cons.mpr ⟨rfl, fun _ h => absurd h List.not_mem_nil⟩) (Nat.le_of_ble_eq_true rfl) rfl ?_
  intro p e s m args below meth c hC hr hnm
  refine xi_aload_n hC dX6_forget_0 (pc' := 1) rfl rfl rfl ?_
  refine xi_iconst (v := nI 0) hC dX6_forget_1 (pc' := 2) rfl (by decide +kernel) ?_
  refine xp6_remembered hC dX6_forget_2 (pc' := 5) rfl xw_f_X6_28 h1 ?_
  refine xi_aload_n hC dX6_forget_5 (pc' := 6) rfl rfl rfl ?_
  refine xi_iconst (v := nI 0) hC dX6_forget_6 (pc' := 7) rfl (by decide +kernel) ?_
  refine xp6_next hC dX6_forget_7 (pc' := 10) rfl xw_f_X6_32 h1 ?_
  refine xi_return hC dX6_forget_10 hr rfl ?_
  exact ⟨rfl, rfl⟩
set_option maxRecDepth 100000 in
set_option maxHeartbeats 4000000 in
theorem c_X6_clear (l : Launch) (D : XD) (b n : Nat) {σ : XM} {o1 : Nat} (h1 : kd o1 = 6) : xM l yX6_clear cX6_clear 1 none 2 42 0 0 D b n [.ref (b + o1)] (xH D b σ) n (fun v h' => v = none ∧ ∃ τ : XM, (∀ i, i < 5 → (∀ k, k < 5 → τ (oNum (oVec (oVs (oEnt o1)) i)) k = 0) ∧ τ (oCon (oEnt o1)) i = 0) ∧ τ o1 2 = nI 0 ∧ τ o1 3 = nI 0 ∧ OutE τ σ o1 14 ∧ h' = xH D b τ) := by
  refine xM.of (lv := [some (.ref (b + o1))]) (by decide +kernel) rfl (List.forall_mem_cons.mpr ⟨rfl, fun _ h => absurd h List.not_mem_nil⟩) (Nat.le_of_ble_eq_true rfl) rfl ?_
  intro p e s m args below meth c hC hr hnm
  refine xi_aload_n hC dX6_clear_0 (pc' := 1) rfl rfl rfl ?_
  refine xg6_entries hC dX6_clear_1 (pc' := 4) rfl xw_f_X6_12 h1 ?_
  refine xi_callV (As := []) (rest := []) (c_X1_clear l D b n (σ := σ) (kd_oEnt h1)) hC dX6_clear_4 (pc' := 7) rfl xw_m_X6_22 xw_c_X1_clear xw_ins_X1_clear xw_sel_X1_clear xw_ini_X1 xd_X1_clear (xH_at.trans (xsh_1 (kd_oEnt h1))) rfl ⟨Nat.le_of_ble_eq_true rfl, Nat.le_of_ble_eq_true rfl⟩ rfl (Nat.le_of_ble_eq_true rfl) ⟨Nat.le_of_ble_eq_true rfl, Nat.le_of_ble_eq_true rfl⟩ ?_
  rintro _ _ ⟨rfl, τ_1, hA_2, hF_3, rfl⟩
  show xV _ _ _ _ _ _ _ _ _ _ _ _ _ _ _ _ _ (xH D b τ_1) _ _ []
  refine xi_aload_n hC dX6_clear_7 (pc' := 8) rfl rfl rfl ?_
  refine xi_callV (As := []) (rest := []) (c_X6_forget l D b n (σ := τ_1) h1) hC dX6_clear_8 (pc' := 11) rfl xw_m_X6_25 xw_c_X6_forget xw_ins_X6_forget xw_sel_X6_forget xw_ini_X6 xd_X6_forget (xH_at.trans (xsh_6 h1)) rfl ⟨Nat.le_of_ble_eq_true rfl, Nat.le_of_ble_eq_true rfl⟩ rfl (Nat.le_of_ble_eq_true rfl) ⟨Nat.le_of_ble_eq_true rfl, Nat.le_of_ble_eq_true rfl⟩ ?_
  rintro _ _ ⟨rfl, rfl⟩
  show xV _ _ _ _ _ _ _ _ _ _ _ _ _ _ _ _ _ (xH D b (sw (sw τ_1 o1 2 (nI 0)) o1 3 (nI 0))) _ _ []
  refine xi_return hC dX6_clear_11 hr rfl ?_
  refine ⟨rfl, _, fun i hi => ⟨fun k hk => ?_, ?_⟩, ?_, sw_s, fun q hq => ?_, rfl⟩
  · rw [sw_n (by first | (simp only [oMs, oVws, oScr, oSgn, oMod, oMem, oSig, oKno, oPro, oBox, oFst, oSnd, oLts, oLet, oNum, oVw, oEnt, oBef, oBk, oVs, oCon, oVec, m_row, m_keptOf, m_keptRow, m_viewOf, m_alarmOf, m_hasProof, m_depthOf, m_proofOf, m_signedOf, m_knownOf, m_doneOf, m_shownTo, m_sentBy, m_hasRead, m_readOf, m_lettersOf, m_letter, m_hand, m_text] <;> omega) | decide | omega | (simp only [oMs, oVws, oScr, oSgn, oMod, oMem, oSig, oKno, oPro, oBox, oFst, oSnd, oLts, oLet, oNum, oVw, oEnt, oBef, oBk, oVs, oCon, oVec, m_row, m_keptOf, m_keptRow, m_viewOf, m_alarmOf, m_hasProof, m_depthOf, m_proofOf, m_signedOf, m_knownOf, m_doneOf, m_shownTo, m_sentBy, m_hasRead, m_readOf, m_lettersOf, m_letter, m_hand, m_text] at * <;> omega)), sw_n (by first | (simp only [oMs, oVws, oScr, oSgn, oMod, oMem, oSig, oKno, oPro, oBox, oFst, oSnd, oLts, oLet, oNum, oVw, oEnt, oBef, oBk, oVs, oCon, oVec, m_row, m_keptOf, m_keptRow, m_viewOf, m_alarmOf, m_hasProof, m_depthOf, m_proofOf, m_signedOf, m_knownOf, m_doneOf, m_shownTo, m_sentBy, m_hasRead, m_readOf, m_lettersOf, m_letter, m_hand, m_text] <;> omega) | decide | omega | (simp only [oMs, oVws, oScr, oSgn, oMod, oMem, oSig, oKno, oPro, oBox, oFst, oSnd, oLts, oLet, oNum, oVw, oEnt, oBef, oBk, oVs, oCon, oVec, m_row, m_keptOf, m_keptRow, m_viewOf, m_alarmOf, m_hasProof, m_depthOf, m_proofOf, m_signedOf, m_knownOf, m_doneOf, m_shownTo, m_sentBy, m_hasRead, m_readOf, m_lettersOf, m_letter, m_hand, m_text] at * <;> omega))]; exact (hA_2 i hi).1 k hk
  · rw [sw_n (by first | (simp only [oMs, oVws, oScr, oSgn, oMod, oMem, oSig, oKno, oPro, oBox, oFst, oSnd, oLts, oLet, oNum, oVw, oEnt, oBef, oBk, oVs, oCon, oVec, m_row, m_keptOf, m_keptRow, m_viewOf, m_alarmOf, m_hasProof, m_depthOf, m_proofOf, m_signedOf, m_knownOf, m_doneOf, m_shownTo, m_sentBy, m_hasRead, m_readOf, m_lettersOf, m_letter, m_hand, m_text] <;> omega) | decide | omega | (simp only [oMs, oVws, oScr, oSgn, oMod, oMem, oSig, oKno, oPro, oBox, oFst, oSnd, oLts, oLet, oNum, oVw, oEnt, oBef, oBk, oVs, oCon, oVec, m_row, m_keptOf, m_keptRow, m_viewOf, m_alarmOf, m_hasProof, m_depthOf, m_proofOf, m_signedOf, m_knownOf, m_doneOf, m_shownTo, m_sentBy, m_hasRead, m_readOf, m_lettersOf, m_letter, m_hand, m_text] at * <;> omega)), sw_n (by first | (simp only [oMs, oVws, oScr, oSgn, oMod, oMem, oSig, oKno, oPro, oBox, oFst, oSnd, oLts, oLet, oNum, oVw, oEnt, oBef, oBk, oVs, oCon, oVec, m_row, m_keptOf, m_keptRow, m_viewOf, m_alarmOf, m_hasProof, m_depthOf, m_proofOf, m_signedOf, m_knownOf, m_doneOf, m_shownTo, m_sentBy, m_hasRead, m_readOf, m_lettersOf, m_letter, m_hand, m_text] <;> omega) | decide | omega | (simp only [oMs, oVws, oScr, oSgn, oMod, oMem, oSig, oKno, oPro, oBox, oFst, oSnd, oLts, oLet, oNum, oVw, oEnt, oBef, oBk, oVs, oCon, oVec, m_row, m_keptOf, m_keptRow, m_viewOf, m_alarmOf, m_hasProof, m_depthOf, m_proofOf, m_signedOf, m_knownOf, m_doneOf, m_shownTo, m_sentBy, m_hasRead, m_readOf, m_lettersOf, m_letter, m_hand, m_text] at * <;> omega))]; exact (hA_2 i hi).2
  · rw [sw_k (by decide), sw_s]
  · rw [sw_n (by first | (simp only [oMs, oVws, oScr, oSgn, oMod, oMem, oSig, oKno, oPro, oBox, oFst, oSnd, oLts, oLet, oNum, oVw, oEnt, oBef, oBk, oVs, oCon, oVec, m_row, m_keptOf, m_keptRow, m_viewOf, m_alarmOf, m_hasProof, m_depthOf, m_proofOf, m_signedOf, m_knownOf, m_doneOf, m_shownTo, m_sentBy, m_hasRead, m_readOf, m_lettersOf, m_letter, m_hand, m_text] <;> omega) | decide | omega | (simp only [oMs, oVws, oScr, oSgn, oMod, oMem, oSig, oKno, oPro, oBox, oFst, oSnd, oLts, oLet, oNum, oVw, oEnt, oBef, oBk, oVs, oCon, oVec, m_row, m_keptOf, m_keptRow, m_viewOf, m_alarmOf, m_hasProof, m_depthOf, m_proofOf, m_signedOf, m_knownOf, m_doneOf, m_shownTo, m_sentBy, m_hasRead, m_readOf, m_lettersOf, m_letter, m_hand, m_text] at * <;> omega)), sw_n (by first | (simp only [oMs, oVws, oScr, oSgn, oMod, oMem, oSig, oKno, oPro, oBox, oFst, oSnd, oLts, oLet, oNum, oVw, oEnt, oBef, oBk, oVs, oCon, oVec, m_row, m_keptOf, m_keptRow, m_viewOf, m_alarmOf, m_hasProof, m_depthOf, m_proofOf, m_signedOf, m_knownOf, m_doneOf, m_shownTo, m_sentBy, m_hasRead, m_readOf, m_lettersOf, m_letter, m_hand, m_text] <;> omega) | decide | omega | (simp only [oMs, oVws, oScr, oSgn, oMod, oMem, oSig, oKno, oPro, oBox, oFst, oSnd, oLts, oLet, oNum, oVw, oEnt, oBef, oBk, oVs, oCon, oVec, m_row, m_keptOf, m_keptRow, m_viewOf, m_alarmOf, m_hasProof, m_depthOf, m_proofOf, m_signedOf, m_knownOf, m_doneOf, m_shownTo, m_sentBy, m_hasRead, m_readOf, m_lettersOf, m_letter, m_hand, m_text] at * <;> omega)), hF_3 q (by first | (simp only [oMs, oVws, oScr, oSgn, oMod, oMem, oSig, oKno, oPro, oBox, oFst, oSnd, oLts, oLet, oNum, oVw, oEnt, oBef, oBk, oVs, oCon, oVec, m_row, m_keptOf, m_keptRow, m_viewOf, m_alarmOf, m_hasProof, m_depthOf, m_proofOf, m_signedOf, m_knownOf, m_doneOf, m_shownTo, m_sentBy, m_hasRead, m_readOf, m_lettersOf, m_letter, m_hand, m_text] <;> omega) | decide | omega | (simp only [oMs, oVws, oScr, oSgn, oMod, oMem, oSig, oKno, oPro, oBox, oFst, oSnd, oLts, oLet, oNum, oVw, oEnt, oBef, oBk, oVs, oCon, oVec, m_row, m_keptOf, m_keptRow, m_viewOf, m_alarmOf, m_hasProof, m_depthOf, m_proofOf, m_signedOf, m_knownOf, m_doneOf, m_shownTo, m_sentBy, m_hasRead, m_readOf, m_lettersOf, m_letter, m_hand, m_text] at * <;> omega))]
set_option maxRecDepth 100000 in
set_option maxHeartbeats 4000000 in
theorem c_X6_copyFrom (l : Launch) (D : XD) (b n : Nat) {σ : XM} {o1 o2 : Nat} (h1 : kd o1 = 6) (h2 : kd o2 = 6) (hd : o1 + 80 ≤ o2 ∨ o2 + 80 ≤ o1) : xM l yX6_copyFrom cX6_copyFrom 3 none 2 44 0 0 D b n [.ref (b + o1), .ref (b + o2)] (xH D b σ) n (fun v h' => v = none ∧ ∃ τ : XM, EqE τ (oEnt o1) σ (oEnt o2) ∧ (∀ j, j < 5 → EqE τ (oBk (oBef o1) j) σ (oBk (oBef o2) j)) ∧ τ o1 2 = σ o2 2 ∧ τ o1 3 = σ o2 3 ∧ OutE τ σ o1 80 ∧ h' = xH D b τ) := by
  refine xM.of (lv := [some (.ref (b + o1)), some (.ref (b + o2)), none]) (by decide +kernel) rfl (List.forall_mem_cons.mpr ⟨rfl, List.forall_mem_cons.mpr ⟨rfl, fun _ h => absurd h List.not_mem_nil⟩⟩) (Nat.le_of_ble_eq_true rfl) rfl ?_
  intro p e s m args below meth c hC hr hnm
  refine xi_aload_n hC dX6_copyFrom_0 (pc' := 1) rfl rfl rfl ?_
  refine xg6_entries hC dX6_copyFrom_1 (pc' := 4) rfl xw_f_X6_12 h1 ?_
  refine xi_aload_n hC dX6_copyFrom_4 (pc' := 5) rfl rfl rfl ?_
  refine xg6_entries hC dX6_copyFrom_5 (pc' := 8) rfl xw_f_X6_12 h2 ?_
  refine xi_callV (As := [.ref (b + (oEnt o2))]) (rest := []) (c_X1_copyFrom l D b n (σ := σ) (kd_oEnt h1) (kd_oEnt h2) (by first | (simp only [oMs, oVws, oScr, oSgn, oMod, oMem, oSig, oKno, oPro, oBox, oFst, oSnd, oLts, oLet, oNum, oVw, oEnt, oBef, oBk, oVs, oCon, oVec, m_row, m_keptOf, m_keptRow, m_viewOf, m_alarmOf, m_hasProof, m_depthOf, m_proofOf, m_signedOf, m_knownOf, m_doneOf, m_shownTo, m_sentBy, m_hasRead, m_readOf, m_lettersOf, m_letter, m_hand, m_text] <;> omega) | decide | omega | (simp only [oMs, oVws, oScr, oSgn, oMod, oMem, oSig, oKno, oPro, oBox, oFst, oSnd, oLts, oLet, oNum, oVw, oEnt, oBef, oBk, oVs, oCon, oVec, m_row, m_keptOf, m_keptRow, m_viewOf, m_alarmOf, m_hasProof, m_depthOf, m_proofOf, m_signedOf, m_knownOf, m_doneOf, m_shownTo, m_sentBy, m_hasRead, m_readOf, m_lettersOf, m_letter, m_hand, m_text] at * <;> omega))) hC dX6_copyFrom_8 (pc' := 11) rfl xw_m_X6_35 xw_c_X1_copyFrom xw_ins_X1_copyFrom xw_sel_X1_copyFrom xw_ini_X1 xd_X1_copyFrom (xH_at.trans (xsh_1 (kd_oEnt h1))) rfl ⟨Nat.le_of_ble_eq_true rfl, Nat.le_of_ble_eq_true rfl⟩ rfl (Nat.le_of_ble_eq_true rfl) ⟨Nat.le_of_ble_eq_true rfl, Nat.le_of_ble_eq_true rfl⟩ ?_
  rintro _ _ ⟨rfl, τ_1, hA_2, hF_3, rfl⟩
  show xV _ _ _ _ _ _ _ _ _ _ _ _ _ _ _ _ _ (xH D b τ_1) _ _ []
  refine xi_iconst (v := nI 0) hC dX6_copyFrom_11 (pc' := 12) rfl (by decide +kernel) ?_
  refine xi_istore_n (lv' := [some (.ref (b + o1)), some (.ref (b + o2)), some (.int (nI 0))]) hC dX6_copyFrom_12 (pc' := 13) rfl rfl (by decide) rfl ?_
  have L13 : ∀ (d : Nat) (j : Nat) (τ : XM), 5 - j < d → (j ≤ 5) → (EqE τ (oEnt o1) σ (oEnt o2)) → (∀ i, i < j → EqE τ (oBk (oBef o1) i) σ (oBk (oBef o2) i)) → (OutE τ σ o1 80) → xV p l e (xR 2 44 0 0) s m args below meth c D b 3 0 0 (MQ below (xQ D b n (fun v h' => v = none ∧ ∃ τ : XM, EqE τ (oEnt o1) σ (oEnt o2) ∧ (∀ j, j < 5 → EqE τ (oBk (oBef o1) j) σ (oBk (oBef o2) j)) ∧ τ o1 2 = σ o2 2 ∧ τ o1 3 = σ o2 3 ∧ OutE τ σ o1 80 ∧ h' = xH D b τ)) args s 0 0 (fun q => b ≤ q)) n (xH D b τ) 13 [some (.ref (b + o1)), some (.ref (b + o2)), some (.int (nI j))] [] := by
    intro d
    induction d with
    | zero => intro j τ h; exact absurd h (Nat.not_lt_zero _)
    | succ d ih13 =>
      intro j τ hd13 hj hE hB hF
      refine xi_iload_n hC dX6_copyFrom_13 (pc' := 14) rfl rfl rfl ?_
      refine xi_iconst (v := nI 5) hC dX6_copyFrom_14 (pc' := 15) rfl (by decide +kernel) ?_
      refine xn_icmpge (tgt := 39) hC dX6_copyFrom_15 (pc' := 18) rfl (by decide) (by omega) (by omega) (fun zc15 => ?_) (fun zc15 => ?_)
      · skip
        refine xi_aload_n hC dX6_copyFrom_39 (pc' := 40) rfl rfl rfl ?_
        refine xi_aload_n hC dX6_copyFrom_40 (pc' := 41) rfl rfl rfl ?_
        refine xg6_remembered hC dX6_copyFrom_41 (pc' := 44) rfl xw_f_X6_28 h2 ?_
        refine xp6_remembered hC dX6_copyFrom_44 (pc' := 47) rfl xw_f_X6_28 h1 ?_
        refine xi_aload_n hC dX6_copyFrom_47 (pc' := 48) rfl rfl rfl ?_
        refine xi_aload_n hC dX6_copyFrom_48 (pc' := 49) rfl rfl rfl ?_
        refine xg6_next hC dX6_copyFrom_49 (pc' := 52) rfl xw_f_X6_32 h2 ?_
        refine xtop (y := (τ o2 3)) (by rw [sw_n (q := o2) (o := o1) (by first | (simp only [oMs, oVws, oScr, oSgn, oMod, oMem, oSig, oKno, oPro, oBox, oFst, oSnd, oLts, oLet, oNum, oVw, oEnt, oBef, oBk, oVs, oCon, oVec, m_row, m_keptOf, m_keptRow, m_viewOf, m_alarmOf, m_hasProof, m_depthOf, m_proofOf, m_signedOf, m_knownOf, m_doneOf, m_shownTo, m_sentBy, m_hasRead, m_readOf, m_lettersOf, m_letter, m_hand, m_text] <;> omega) | decide | omega | (simp only [oMs, oVws, oScr, oSgn, oMod, oMem, oSig, oKno, oPro, oBox, oFst, oSnd, oLts, oLet, oNum, oVw, oEnt, oBef, oBk, oVs, oCon, oVec, m_row, m_keptOf, m_keptRow, m_viewOf, m_alarmOf, m_hasProof, m_depthOf, m_proofOf, m_signedOf, m_knownOf, m_doneOf, m_shownTo, m_sentBy, m_hasRead, m_readOf, m_lettersOf, m_letter, m_hand, m_text] at * <;> omega))]) ?_
        refine xp6_next hC dX6_copyFrom_52 (pc' := 55) rfl xw_f_X6_32 h1 ?_
        refine xi_return hC dX6_copyFrom_55 hr rfl ?_
        obtain rfl : j = 5 := by omega
        refine ⟨rfl, _, hE.of (fun q q1 q2 => ?_) (fun _ _ _ => rfl), fun i hi => (hB i hi).of (fun q q1 q2 => ?_) (fun _ _ _ => rfl), ?_, ?_, fun q hq => ?_, rfl⟩
        · rw [sw_n (by first | (simp only [oMs, oVws, oScr, oSgn, oMod, oMem, oSig, oKno, oPro, oBox, oFst, oSnd, oLts, oLet, oNum, oVw, oEnt, oBef, oBk, oVs, oCon, oVec, m_row, m_keptOf, m_keptRow, m_viewOf, m_alarmOf, m_hasProof, m_depthOf, m_proofOf, m_signedOf, m_knownOf, m_doneOf, m_shownTo, m_sentBy, m_hasRead, m_readOf, m_lettersOf, m_letter, m_hand, m_text] <;> omega) | decide | omega | (simp only [oMs, oVws, oScr, oSgn, oMod, oMem, oSig, oKno, oPro, oBox, oFst, oSnd, oLts, oLet, oNum, oVw, oEnt, oBef, oBk, oVs, oCon, oVec, m_row, m_keptOf, m_keptRow, m_viewOf, m_alarmOf, m_hasProof, m_depthOf, m_proofOf, m_signedOf, m_knownOf, m_doneOf, m_shownTo, m_sentBy, m_hasRead, m_readOf, m_lettersOf, m_letter, m_hand, m_text] at * <;> omega)), sw_n (by first | (simp only [oMs, oVws, oScr, oSgn, oMod, oMem, oSig, oKno, oPro, oBox, oFst, oSnd, oLts, oLet, oNum, oVw, oEnt, oBef, oBk, oVs, oCon, oVec, m_row, m_keptOf, m_keptRow, m_viewOf, m_alarmOf, m_hasProof, m_depthOf, m_proofOf, m_signedOf, m_knownOf, m_doneOf, m_shownTo, m_sentBy, m_hasRead, m_readOf, m_lettersOf, m_letter, m_hand, m_text] <;> omega) | decide | omega | (simp only [oMs, oVws, oScr, oSgn, oMod, oMem, oSig, oKno, oPro, oBox, oFst, oSnd, oLts, oLet, oNum, oVw, oEnt, oBef, oBk, oVs, oCon, oVec, m_row, m_keptOf, m_keptRow, m_viewOf, m_alarmOf, m_hasProof, m_depthOf, m_proofOf, m_signedOf, m_knownOf, m_doneOf, m_shownTo, m_sentBy, m_hasRead, m_readOf, m_lettersOf, m_letter, m_hand, m_text] at * <;> omega))]
        · rw [sw_n (by first | (simp only [oMs, oVws, oScr, oSgn, oMod, oMem, oSig, oKno, oPro, oBox, oFst, oSnd, oLts, oLet, oNum, oVw, oEnt, oBef, oBk, oVs, oCon, oVec, m_row, m_keptOf, m_keptRow, m_viewOf, m_alarmOf, m_hasProof, m_depthOf, m_proofOf, m_signedOf, m_knownOf, m_doneOf, m_shownTo, m_sentBy, m_hasRead, m_readOf, m_lettersOf, m_letter, m_hand, m_text] <;> omega) | decide | omega | (simp only [oMs, oVws, oScr, oSgn, oMod, oMem, oSig, oKno, oPro, oBox, oFst, oSnd, oLts, oLet, oNum, oVw, oEnt, oBef, oBk, oVs, oCon, oVec, m_row, m_keptOf, m_keptRow, m_viewOf, m_alarmOf, m_hasProof, m_depthOf, m_proofOf, m_signedOf, m_knownOf, m_doneOf, m_shownTo, m_sentBy, m_hasRead, m_readOf, m_lettersOf, m_letter, m_hand, m_text] at * <;> omega)), sw_n (by first | (simp only [oMs, oVws, oScr, oSgn, oMod, oMem, oSig, oKno, oPro, oBox, oFst, oSnd, oLts, oLet, oNum, oVw, oEnt, oBef, oBk, oVs, oCon, oVec, m_row, m_keptOf, m_keptRow, m_viewOf, m_alarmOf, m_hasProof, m_depthOf, m_proofOf, m_signedOf, m_knownOf, m_doneOf, m_shownTo, m_sentBy, m_hasRead, m_readOf, m_lettersOf, m_letter, m_hand, m_text] <;> omega) | decide | omega | (simp only [oMs, oVws, oScr, oSgn, oMod, oMem, oSig, oKno, oPro, oBox, oFst, oSnd, oLts, oLet, oNum, oVw, oEnt, oBef, oBk, oVs, oCon, oVec, m_row, m_keptOf, m_keptRow, m_viewOf, m_alarmOf, m_hasProof, m_depthOf, m_proofOf, m_signedOf, m_knownOf, m_doneOf, m_shownTo, m_sentBy, m_hasRead, m_readOf, m_lettersOf, m_letter, m_hand, m_text] at * <;> omega))]
        · rw [sw_k (by decide), sw_s, hF _ (by first | (simp only [oMs, oVws, oScr, oSgn, oMod, oMem, oSig, oKno, oPro, oBox, oFst, oSnd, oLts, oLet, oNum, oVw, oEnt, oBef, oBk, oVs, oCon, oVec, m_row, m_keptOf, m_keptRow, m_viewOf, m_alarmOf, m_hasProof, m_depthOf, m_proofOf, m_signedOf, m_knownOf, m_doneOf, m_shownTo, m_sentBy, m_hasRead, m_readOf, m_lettersOf, m_letter, m_hand, m_text] <;> omega) | decide | omega | (simp only [oMs, oVws, oScr, oSgn, oMod, oMem, oSig, oKno, oPro, oBox, oFst, oSnd, oLts, oLet, oNum, oVw, oEnt, oBef, oBk, oVs, oCon, oVec, m_row, m_keptOf, m_keptRow, m_viewOf, m_alarmOf, m_hasProof, m_depthOf, m_proofOf, m_signedOf, m_knownOf, m_doneOf, m_shownTo, m_sentBy, m_hasRead, m_readOf, m_lettersOf, m_letter, m_hand, m_text] at * <;> omega))]
        · rw [sw_s, hF _ (by first | (simp only [oMs, oVws, oScr, oSgn, oMod, oMem, oSig, oKno, oPro, oBox, oFst, oSnd, oLts, oLet, oNum, oVw, oEnt, oBef, oBk, oVs, oCon, oVec, m_row, m_keptOf, m_keptRow, m_viewOf, m_alarmOf, m_hasProof, m_depthOf, m_proofOf, m_signedOf, m_knownOf, m_doneOf, m_shownTo, m_sentBy, m_hasRead, m_readOf, m_lettersOf, m_letter, m_hand, m_text] <;> omega) | decide | omega | (simp only [oMs, oVws, oScr, oSgn, oMod, oMem, oSig, oKno, oPro, oBox, oFst, oSnd, oLts, oLet, oNum, oVw, oEnt, oBef, oBk, oVs, oCon, oVec, m_row, m_keptOf, m_keptRow, m_viewOf, m_alarmOf, m_hasProof, m_depthOf, m_proofOf, m_signedOf, m_knownOf, m_doneOf, m_shownTo, m_sentBy, m_hasRead, m_readOf, m_lettersOf, m_letter, m_hand, m_text] at * <;> omega))]
        · rw [sw_n (by first | (simp only [oMs, oVws, oScr, oSgn, oMod, oMem, oSig, oKno, oPro, oBox, oFst, oSnd, oLts, oLet, oNum, oVw, oEnt, oBef, oBk, oVs, oCon, oVec, m_row, m_keptOf, m_keptRow, m_viewOf, m_alarmOf, m_hasProof, m_depthOf, m_proofOf, m_signedOf, m_knownOf, m_doneOf, m_shownTo, m_sentBy, m_hasRead, m_readOf, m_lettersOf, m_letter, m_hand, m_text] <;> omega) | decide | omega | (simp only [oMs, oVws, oScr, oSgn, oMod, oMem, oSig, oKno, oPro, oBox, oFst, oSnd, oLts, oLet, oNum, oVw, oEnt, oBef, oBk, oVs, oCon, oVec, m_row, m_keptOf, m_keptRow, m_viewOf, m_alarmOf, m_hasProof, m_depthOf, m_proofOf, m_signedOf, m_knownOf, m_doneOf, m_shownTo, m_sentBy, m_hasRead, m_readOf, m_lettersOf, m_letter, m_hand, m_text] at * <;> omega)), sw_n (by first | (simp only [oMs, oVws, oScr, oSgn, oMod, oMem, oSig, oKno, oPro, oBox, oFst, oSnd, oLts, oLet, oNum, oVw, oEnt, oBef, oBk, oVs, oCon, oVec, m_row, m_keptOf, m_keptRow, m_viewOf, m_alarmOf, m_hasProof, m_depthOf, m_proofOf, m_signedOf, m_knownOf, m_doneOf, m_shownTo, m_sentBy, m_hasRead, m_readOf, m_lettersOf, m_letter, m_hand, m_text] <;> omega) | decide | omega | (simp only [oMs, oVws, oScr, oSgn, oMod, oMem, oSig, oKno, oPro, oBox, oFst, oSnd, oLts, oLet, oNum, oVw, oEnt, oBef, oBk, oVs, oCon, oVec, m_row, m_keptOf, m_keptRow, m_viewOf, m_alarmOf, m_hasProof, m_depthOf, m_proofOf, m_signedOf, m_knownOf, m_doneOf, m_shownTo, m_sentBy, m_hasRead, m_readOf, m_lettersOf, m_letter, m_hand, m_text] at * <;> omega))]; exact hF q hq
      · skip
        refine xi_aload_n hC dX6_copyFrom_18 (pc' := 19) rfl rfl rfl ?_
        refine xg6_before hC dX6_copyFrom_19 (pc' := 22) rfl xw_f_X6_18 h1 ?_
        refine xi_iload_n hC dX6_copyFrom_22 (pc' := 23) rfl rfl rfl ?_
        refine xa_before hC dX6_copyFrom_23 (pc' := 24) rfl (kd_oBef h1) rfl (by omega) ?_
        refine xi_aload_n hC dX6_copyFrom_24 (pc' := 25) rfl rfl rfl ?_
        refine xg6_before hC dX6_copyFrom_25 (pc' := 28) rfl xw_f_X6_18 h2 ?_
        refine xi_iload_n hC dX6_copyFrom_28 (pc' := 29) rfl rfl rfl ?_
        refine xa_before hC dX6_copyFrom_29 (pc' := 30) rfl (kd_oBef h2) rfl (by omega) ?_
        refine xi_callV (As := [.ref (b + (oBk (oBef o2) j))]) (rest := []) (c_X1_copyFrom l D b n (σ := τ) (kd_oBk (kd_oBef h1) (by omega)) (kd_oBk (kd_oBef h2) (by omega)) (by first | (simp only [oMs, oVws, oScr, oSgn, oMod, oMem, oSig, oKno, oPro, oBox, oFst, oSnd, oLts, oLet, oNum, oVw, oEnt, oBef, oBk, oVs, oCon, oVec, m_row, m_keptOf, m_keptRow, m_viewOf, m_alarmOf, m_hasProof, m_depthOf, m_proofOf, m_signedOf, m_knownOf, m_doneOf, m_shownTo, m_sentBy, m_hasRead, m_readOf, m_lettersOf, m_letter, m_hand, m_text] <;> omega) | decide | omega | (simp only [oMs, oVws, oScr, oSgn, oMod, oMem, oSig, oKno, oPro, oBox, oFst, oSnd, oLts, oLet, oNum, oVw, oEnt, oBef, oBk, oVs, oCon, oVec, m_row, m_keptOf, m_keptRow, m_viewOf, m_alarmOf, m_hasProof, m_depthOf, m_proofOf, m_signedOf, m_knownOf, m_doneOf, m_shownTo, m_sentBy, m_hasRead, m_readOf, m_lettersOf, m_letter, m_hand, m_text] at * <;> omega))) hC dX6_copyFrom_30 (pc' := 33) rfl xw_m_X6_35 xw_c_X1_copyFrom xw_ins_X1_copyFrom xw_sel_X1_copyFrom xw_ini_X1 xd_X1_copyFrom (xH_at.trans (xsh_1 (kd_oBk (kd_oBef h1) (by omega)))) rfl ⟨Nat.le_of_ble_eq_true rfl, Nat.le_of_ble_eq_true rfl⟩ rfl (Nat.le_of_ble_eq_true rfl) ⟨Nat.le_of_ble_eq_true rfl, Nat.le_of_ble_eq_true rfl⟩ ?_
        rintro _ _ ⟨rfl, τ_4, hA_5, hF_6, rfl⟩
        show xV _ _ _ _ _ _ _ _ _ _ _ _ _ _ _ _ _ (xH D b τ_4) _ _ []
        refine xn_iinc (lv' := [some (.ref (b + o1)), some (.ref (b + o2)), some (.int (nI (j + 1)))]) hC dX6_copyFrom_33 (pc' := 36) rfl rfl (by decide) rfl ?_
        refine xi_goto (tgt := 13) hC dX6_copyFrom_36 (by decide) ?_
        refine ih13 _ _ (by omega) ?_ ?_ ?_ ?_
        · omega
        · exact hE.of (fun q q1 q2 => hF_6 q (by first | (simp only [oMs, oVws, oScr, oSgn, oMod, oMem, oSig, oKno, oPro, oBox, oFst, oSnd, oLts, oLet, oNum, oVw, oEnt, oBef, oBk, oVs, oCon, oVec, m_row, m_keptOf, m_keptRow, m_viewOf, m_alarmOf, m_hasProof, m_depthOf, m_proofOf, m_signedOf, m_knownOf, m_doneOf, m_shownTo, m_sentBy, m_hasRead, m_readOf, m_lettersOf, m_letter, m_hand, m_text] <;> omega) | decide | omega | (simp only [oMs, oVws, oScr, oSgn, oMod, oMem, oSig, oKno, oPro, oBox, oFst, oSnd, oLts, oLet, oNum, oVw, oEnt, oBef, oBk, oVs, oCon, oVec, m_row, m_keptOf, m_keptRow, m_viewOf, m_alarmOf, m_hasProof, m_depthOf, m_proofOf, m_signedOf, m_knownOf, m_doneOf, m_shownTo, m_sentBy, m_hasRead, m_readOf, m_lettersOf, m_letter, m_hand, m_text] at * <;> omega))) (fun _ _ _ => rfl)
        · intro i hi
          by_cases hij : i = j
          · subst hij
            exact hA_5.of (fun _ _ _ => rfl) (fun q q1 q2 => (hF q (by first | (simp only [oMs, oVws, oScr, oSgn, oMod, oMem, oSig, oKno, oPro, oBox, oFst, oSnd, oLts, oLet, oNum, oVw, oEnt, oBef, oBk, oVs, oCon, oVec, m_row, m_keptOf, m_keptRow, m_viewOf, m_alarmOf, m_hasProof, m_depthOf, m_proofOf, m_signedOf, m_knownOf, m_doneOf, m_shownTo, m_sentBy, m_hasRead, m_readOf, m_lettersOf, m_letter, m_hand, m_text] <;> omega) | decide | omega | (simp only [oMs, oVws, oScr, oSgn, oMod, oMem, oSig, oKno, oPro, oBox, oFst, oSnd, oLts, oLet, oNum, oVw, oEnt, oBef, oBk, oVs, oCon, oVec, m_row, m_keptOf, m_keptRow, m_viewOf, m_alarmOf, m_hasProof, m_depthOf, m_proofOf, m_signedOf, m_knownOf, m_doneOf, m_shownTo, m_sentBy, m_hasRead, m_readOf, m_lettersOf, m_letter, m_hand, m_text] at * <;> omega))).symm)
          · exact (hB i (by omega)).of (fun q q1 q2 => hF_6 q (by first | (simp only [oMs, oVws, oScr, oSgn, oMod, oMem, oSig, oKno, oPro, oBox, oFst, oSnd, oLts, oLet, oNum, oVw, oEnt, oBef, oBk, oVs, oCon, oVec, m_row, m_keptOf, m_keptRow, m_viewOf, m_alarmOf, m_hasProof, m_depthOf, m_proofOf, m_signedOf, m_knownOf, m_doneOf, m_shownTo, m_sentBy, m_hasRead, m_readOf, m_lettersOf, m_letter, m_hand, m_text] <;> omega) | decide | omega | (simp only [oMs, oVws, oScr, oSgn, oMod, oMem, oSig, oKno, oPro, oBox, oFst, oSnd, oLts, oLet, oNum, oVw, oEnt, oBef, oBk, oVs, oCon, oVec, m_row, m_keptOf, m_keptRow, m_viewOf, m_alarmOf, m_hasProof, m_depthOf, m_proofOf, m_signedOf, m_knownOf, m_doneOf, m_shownTo, m_sentBy, m_hasRead, m_readOf, m_lettersOf, m_letter, m_hand, m_text] at * <;> omega))) (fun _ _ _ => rfl)
        · intro q hq; rw [hF_6 q (by first | (simp only [oMs, oVws, oScr, oSgn, oMod, oMem, oSig, oKno, oPro, oBox, oFst, oSnd, oLts, oLet, oNum, oVw, oEnt, oBef, oBk, oVs, oCon, oVec, m_row, m_keptOf, m_keptRow, m_viewOf, m_alarmOf, m_hasProof, m_depthOf, m_proofOf, m_signedOf, m_knownOf, m_doneOf, m_shownTo, m_sentBy, m_hasRead, m_readOf, m_lettersOf, m_letter, m_hand, m_text] <;> omega) | decide | omega | (simp only [oMs, oVws, oScr, oSgn, oMod, oMem, oSig, oKno, oPro, oBox, oFst, oSnd, oLts, oLet, oNum, oVw, oEnt, oBef, oBk, oVs, oCon, oVec, m_row, m_keptOf, m_keptRow, m_viewOf, m_alarmOf, m_hasProof, m_depthOf, m_proofOf, m_signedOf, m_knownOf, m_doneOf, m_shownTo, m_sentBy, m_hasRead, m_readOf, m_lettersOf, m_letter, m_hand, m_text] at * <;> omega))]; exact hF q hq
  refine L13 _ _ _ (Nat.lt_succ_self _) ?_ ?_ ?_ ?_
  · omega
  · exact hA_2
  · intro i hi; omega
  · intro q hq; exact hF_3 q (by first | (simp only [oMs, oVws, oScr, oSgn, oMod, oMem, oSig, oKno, oPro, oBox, oFst, oSnd, oLts, oLet, oNum, oVw, oEnt, oBef, oBk, oVs, oCon, oVec, m_row, m_keptOf, m_keptRow, m_viewOf, m_alarmOf, m_hasProof, m_depthOf, m_proofOf, m_signedOf, m_knownOf, m_doneOf, m_shownTo, m_sentBy, m_hasRead, m_readOf, m_lettersOf, m_letter, m_hand, m_text] <;> omega) | decide | omega | (simp only [oMs, oVws, oScr, oSgn, oMod, oMem, oSig, oKno, oPro, oBox, oFst, oSnd, oLts, oLet, oNum, oVw, oEnt, oBef, oBk, oVs, oCon, oVec, m_row, m_keptOf, m_keptRow, m_viewOf, m_alarmOf, m_hasProof, m_depthOf, m_proofOf, m_signedOf, m_knownOf, m_doneOf, m_shownTo, m_sentBy, m_hasRead, m_readOf, m_lettersOf, m_letter, m_hand, m_text] at * <;> omega))
set_option maxRecDepth 100000 in
set_option maxHeartbeats 4000000 in
theorem c_X6_remember (l : Launch) (D : XD) (b n : Nat) {σ : XM} {o1 x r : Nat} (h1 : kd o1 = 6) (hx : σ o1 3 = nI x) (hx5 : x < 5) (hr0 : σ o1 2 = nI r) (hr5 : r ≤ 5) : xM l yX6_remember cX6_remember 1 none 2 44 0 0 D b n [.ref (b + o1)] (xH D b σ) n (fun v h' => v = none ∧ ∃ τ : XM, EqE τ (oBk (oBef o1) x) σ (oEnt o1) ∧ τ o1 2 = nI (min (r + 1) 5) ∧ τ o1 3 = nI ((x + 1) % 5) ∧ (∀ q, q ≠ o1 → (q < oBk (oBef o1) x ∨ oBk (oBef o1) x + 13 ≤ q) → τ q = σ q) ∧ h' = xH D b τ) := by
  refine xM.of (lv := [some (.ref (b + o1))]) (by decide +kernel) rfl (List.forall_mem_cons.mpr ⟨rfl, fun _ h => absurd h List.not_mem_nil⟩) (Nat.le_of_ble_eq_true rfl) rfl ?_
  intro p e s m args below meth c hC hr hnm
  refine xi_aload_n hC dX6_remember_0 (pc' := 1) rfl rfl rfl ?_
  refine xg6_before hC dX6_remember_1 (pc' := 4) rfl xw_f_X6_18 h1 ?_
  refine xi_aload_n hC dX6_remember_4 (pc' := 5) rfl rfl rfl ?_
  refine xg6_next hC dX6_remember_5 (pc' := 8) rfl xw_f_X6_32 h1 ?_
  refine xtop (y := (nI x)) (hx) ?_
  refine xa_before hC dX6_remember_8 (pc' := 9) rfl (kd_oBef h1) rfl (by omega) ?_
  refine xi_aload_n hC dX6_remember_9 (pc' := 10) rfl rfl rfl ?_
  refine xg6_entries hC dX6_remember_10 (pc' := 13) rfl xw_f_X6_12 h1 ?_
  refine xi_callV (As := [.ref (b + (oEnt o1))]) (rest := []) (c_X1_copyFrom l D b n (σ := σ) (kd_oBk (kd_oBef h1) (by omega)) (kd_oEnt h1) (by first | (simp only [oMs, oVws, oScr, oSgn, oMod, oMem, oSig, oKno, oPro, oBox, oFst, oSnd, oLts, oLet, oNum, oVw, oEnt, oBef, oBk, oVs, oCon, oVec, m_row, m_keptOf, m_keptRow, m_viewOf, m_alarmOf, m_hasProof, m_depthOf, m_proofOf, m_signedOf, m_knownOf, m_doneOf, m_shownTo, m_sentBy, m_hasRead, m_readOf, m_lettersOf, m_letter, m_hand, m_text] <;> omega) | decide | omega | (simp only [oMs, oVws, oScr, oSgn, oMod, oMem, oSig, oKno, oPro, oBox, oFst, oSnd, oLts, oLet, oNum, oVw, oEnt, oBef, oBk, oVs, oCon, oVec, m_row, m_keptOf, m_keptRow, m_viewOf, m_alarmOf, m_hasProof, m_depthOf, m_proofOf, m_signedOf, m_knownOf, m_doneOf, m_shownTo, m_sentBy, m_hasRead, m_readOf, m_lettersOf, m_letter, m_hand, m_text] at * <;> omega))) hC dX6_remember_13 (pc' := 16) rfl xw_m_X6_35 xw_c_X1_copyFrom xw_ins_X1_copyFrom xw_sel_X1_copyFrom xw_ini_X1 xd_X1_copyFrom (xH_at.trans (xsh_1 (kd_oBk (kd_oBef h1) (by omega)))) rfl ⟨Nat.le_of_ble_eq_true rfl, Nat.le_of_ble_eq_true rfl⟩ rfl (Nat.le_of_ble_eq_true rfl) ⟨Nat.le_of_ble_eq_true rfl, Nat.le_of_ble_eq_true rfl⟩ ?_
  rintro _ _ ⟨rfl, τ_1, hA_2, hF_3, rfl⟩
  show xV _ _ _ _ _ _ _ _ _ _ _ _ _ _ _ _ _ (xH D b τ_1) _ _ []
  refine xi_aload_n hC dX6_remember_16 (pc' := 17) rfl rfl rfl ?_
  refine xi_aload_n hC dX6_remember_17 (pc' := 18) rfl rfl rfl ?_
  refine xg6_next hC dX6_remember_18 (pc' := 21) rfl xw_f_X6_32 h1 ?_
  refine xtop (y := (σ o1 3)) (by rw [hF_3 o1 (by first | (simp only [oMs, oVws, oScr, oSgn, oMod, oMem, oSig, oKno, oPro, oBox, oFst, oSnd, oLts, oLet, oNum, oVw, oEnt, oBef, oBk, oVs, oCon, oVec, m_row, m_keptOf, m_keptRow, m_viewOf, m_alarmOf, m_hasProof, m_depthOf, m_proofOf, m_signedOf, m_knownOf, m_doneOf, m_shownTo, m_sentBy, m_hasRead, m_readOf, m_lettersOf, m_letter, m_hand, m_text] <;> omega) | decide | omega | (simp only [oMs, oVws, oScr, oSgn, oMod, oMem, oSig, oKno, oPro, oBox, oFst, oSnd, oLts, oLet, oNum, oVw, oEnt, oBef, oBk, oVs, oCon, oVec, m_row, m_keptOf, m_keptRow, m_viewOf, m_alarmOf, m_hasProof, m_depthOf, m_proofOf, m_signedOf, m_knownOf, m_doneOf, m_shownTo, m_sentBy, m_hasRead, m_readOf, m_lettersOf, m_letter, m_hand, m_text] at * <;> omega))]) ?_
  refine xtop (y := (nI x)) (hx) ?_
  refine xi_iconst (v := nI 1) hC dX6_remember_21 (pc' := 22) rfl (by decide +kernel) ?_
  refine xn_iadd hC dX6_remember_22 (pc' := 23) rfl ?_
  refine xi_iconst (v := nI 5) hC dX6_remember_23 (pc' := 24) rfl (by decide +kernel) ?_
  refine xi_irem hC dX6_remember_24 (pc' := 25) rfl (by decide) ?_
  refine xtop (y := nI ((x + 1) % 5)) (pk_rem (by omega) (by decide) (by decide)) ?_
  refine xp6_next hC dX6_remember_25 (pc' := 28) rfl xw_f_X6_32 h1 ?_
  refine xi_aload_n hC dX6_remember_28 (pc' := 29) rfl rfl rfl ?_
  refine xg6_remembered hC dX6_remember_29 (pc' := 32) rfl xw_f_X6_28 h1 ?_
  refine xtop (y := (σ o1 2)) (by rw [sw_k (j := 2) (k := 3) (by first | (simp only [oMs, oVws, oScr, oSgn, oMod, oMem, oSig, oKno, oPro, oBox, oFst, oSnd, oLts, oLet, oNum, oVw, oEnt, oBef, oBk, oVs, oCon, oVec, m_row, m_keptOf, m_keptRow, m_viewOf, m_alarmOf, m_hasProof, m_depthOf, m_proofOf, m_signedOf, m_knownOf, m_doneOf, m_shownTo, m_sentBy, m_hasRead, m_readOf, m_lettersOf, m_letter, m_hand, m_text] <;> omega) | decide | omega | (simp only [oMs, oVws, oScr, oSgn, oMod, oMem, oSig, oKno, oPro, oBox, oFst, oSnd, oLts, oLet, oNum, oVw, oEnt, oBef, oBk, oVs, oCon, oVec, m_row, m_keptOf, m_keptRow, m_viewOf, m_alarmOf, m_hasProof, m_depthOf, m_proofOf, m_signedOf, m_knownOf, m_doneOf, m_shownTo, m_sentBy, m_hasRead, m_readOf, m_lettersOf, m_letter, m_hand, m_text] at * <;> omega)), hF_3 o1 (by first | (simp only [oMs, oVws, oScr, oSgn, oMod, oMem, oSig, oKno, oPro, oBox, oFst, oSnd, oLts, oLet, oNum, oVw, oEnt, oBef, oBk, oVs, oCon, oVec, m_row, m_keptOf, m_keptRow, m_viewOf, m_alarmOf, m_hasProof, m_depthOf, m_proofOf, m_signedOf, m_knownOf, m_doneOf, m_shownTo, m_sentBy, m_hasRead, m_readOf, m_lettersOf, m_letter, m_hand, m_text] <;> omega) | decide | omega | (simp only [oMs, oVws, oScr, oSgn, oMod, oMem, oSig, oKno, oPro, oBox, oFst, oSnd, oLts, oLet, oNum, oVw, oEnt, oBef, oBk, oVs, oCon, oVec, m_row, m_keptOf, m_keptRow, m_viewOf, m_alarmOf, m_hasProof, m_depthOf, m_proofOf, m_signedOf, m_knownOf, m_doneOf, m_shownTo, m_sentBy, m_hasRead, m_readOf, m_lettersOf, m_letter, m_hand, m_text] at * <;> omega))]) ?_
  refine xtop (y := (nI r)) (hr0) ?_
  refine xi_iconst (v := nI 5) hC dX6_remember_32 (pc' := 33) rfl (by decide +kernel) ?_
  refine xn_icmpge (tgt := 46) hC dX6_remember_33 (pc' := 36) rfl (by decide) (by omega) (by omega) (fun zc33 => ?_) (fun zc33 => ?_)
  · skip
    refine xi_return hC dX6_remember_46 hr rfl ?_
    refine ⟨rfl, _, hA_2.of (fun q q1 q2 => ?_) (fun _ _ _ => rfl), ?_, ?_, fun q q1 q2 => ?_, rfl⟩
    · rw [sw_n (by first | (simp only [oMs, oVws, oScr, oSgn, oMod, oMem, oSig, oKno, oPro, oBox, oFst, oSnd, oLts, oLet, oNum, oVw, oEnt, oBef, oBk, oVs, oCon, oVec, m_row, m_keptOf, m_keptRow, m_viewOf, m_alarmOf, m_hasProof, m_depthOf, m_proofOf, m_signedOf, m_knownOf, m_doneOf, m_shownTo, m_sentBy, m_hasRead, m_readOf, m_lettersOf, m_letter, m_hand, m_text] <;> omega) | decide | omega | (simp only [oMs, oVws, oScr, oSgn, oMod, oMem, oSig, oKno, oPro, oBox, oFst, oSnd, oLts, oLet, oNum, oVw, oEnt, oBef, oBk, oVs, oCon, oVec, m_row, m_keptOf, m_keptRow, m_viewOf, m_alarmOf, m_hasProof, m_depthOf, m_proofOf, m_signedOf, m_knownOf, m_doneOf, m_shownTo, m_sentBy, m_hasRead, m_readOf, m_lettersOf, m_letter, m_hand, m_text] at * <;> omega))]
    · rw [sw_k (by decide), hF_3 _ (by first | (simp only [oMs, oVws, oScr, oSgn, oMod, oMem, oSig, oKno, oPro, oBox, oFst, oSnd, oLts, oLet, oNum, oVw, oEnt, oBef, oBk, oVs, oCon, oVec, m_row, m_keptOf, m_keptRow, m_viewOf, m_alarmOf, m_hasProof, m_depthOf, m_proofOf, m_signedOf, m_knownOf, m_doneOf, m_shownTo, m_sentBy, m_hasRead, m_readOf, m_lettersOf, m_letter, m_hand, m_text] <;> omega) | decide | omega | (simp only [oMs, oVws, oScr, oSgn, oMod, oMem, oSig, oKno, oPro, oBox, oFst, oSnd, oLts, oLet, oNum, oVw, oEnt, oBef, oBk, oVs, oCon, oVec, m_row, m_keptOf, m_keptRow, m_viewOf, m_alarmOf, m_hasProof, m_depthOf, m_proofOf, m_signedOf, m_knownOf, m_doneOf, m_shownTo, m_sentBy, m_hasRead, m_readOf, m_lettersOf, m_letter, m_hand, m_text] at * <;> omega)), hr0, show min (r + 1) 5 = r by omega]
    · rw [sw_s]
    · rw [sw_n q1]; exact hF_3 q q2
  · skip
    refine xi_aload_n hC dX6_remember_36 (pc' := 37) rfl rfl rfl ?_
    refine xi_dup hC dX6_remember_37 (pc' := 38) rfl rfl ?_
    refine xg6_remembered hC dX6_remember_38 (pc' := 41) rfl xw_f_X6_28 h1 ?_
    refine xtop (y := (σ o1 2)) (by rw [sw_k (j := 2) (k := 3) (by first | (simp only [oMs, oVws, oScr, oSgn, oMod, oMem, oSig, oKno, oPro, oBox, oFst, oSnd, oLts, oLet, oNum, oVw, oEnt, oBef, oBk, oVs, oCon, oVec, m_row, m_keptOf, m_keptRow, m_viewOf, m_alarmOf, m_hasProof, m_depthOf, m_proofOf, m_signedOf, m_knownOf, m_doneOf, m_shownTo, m_sentBy, m_hasRead, m_readOf, m_lettersOf, m_letter, m_hand, m_text] <;> omega) | decide | omega | (simp only [oMs, oVws, oScr, oSgn, oMod, oMem, oSig, oKno, oPro, oBox, oFst, oSnd, oLts, oLet, oNum, oVw, oEnt, oBef, oBk, oVs, oCon, oVec, m_row, m_keptOf, m_keptRow, m_viewOf, m_alarmOf, m_hasProof, m_depthOf, m_proofOf, m_signedOf, m_knownOf, m_doneOf, m_shownTo, m_sentBy, m_hasRead, m_readOf, m_lettersOf, m_letter, m_hand, m_text] at * <;> omega)), hF_3 o1 (by first | (simp only [oMs, oVws, oScr, oSgn, oMod, oMem, oSig, oKno, oPro, oBox, oFst, oSnd, oLts, oLet, oNum, oVw, oEnt, oBef, oBk, oVs, oCon, oVec, m_row, m_keptOf, m_keptRow, m_viewOf, m_alarmOf, m_hasProof, m_depthOf, m_proofOf, m_signedOf, m_knownOf, m_doneOf, m_shownTo, m_sentBy, m_hasRead, m_readOf, m_lettersOf, m_letter, m_hand, m_text] <;> omega) | decide | omega | (simp only [oMs, oVws, oScr, oSgn, oMod, oMem, oSig, oKno, oPro, oBox, oFst, oSnd, oLts, oLet, oNum, oVw, oEnt, oBef, oBk, oVs, oCon, oVec, m_row, m_keptOf, m_keptRow, m_viewOf, m_alarmOf, m_hasProof, m_depthOf, m_proofOf, m_signedOf, m_knownOf, m_doneOf, m_shownTo, m_sentBy, m_hasRead, m_readOf, m_lettersOf, m_letter, m_hand, m_text] at * <;> omega))]) ?_
    refine xtop (y := (nI r)) (hr0) ?_
    refine xi_iconst (v := nI 1) hC dX6_remember_41 (pc' := 42) rfl (by decide +kernel) ?_
    refine xn_iadd hC dX6_remember_42 (pc' := 43) rfl ?_
    refine xp6_remembered hC dX6_remember_43 (pc' := 46) rfl xw_f_X6_28 h1 ?_
    refine xi_return hC dX6_remember_46 hr rfl ?_
    refine ⟨rfl, _, hA_2.of (fun q q1 q2 => ?_) (fun _ _ _ => rfl), ?_, ?_, fun q q1 q2 => ?_, rfl⟩
    · rw [sw_n (by first | (simp only [oMs, oVws, oScr, oSgn, oMod, oMem, oSig, oKno, oPro, oBox, oFst, oSnd, oLts, oLet, oNum, oVw, oEnt, oBef, oBk, oVs, oCon, oVec, m_row, m_keptOf, m_keptRow, m_viewOf, m_alarmOf, m_hasProof, m_depthOf, m_proofOf, m_signedOf, m_knownOf, m_doneOf, m_shownTo, m_sentBy, m_hasRead, m_readOf, m_lettersOf, m_letter, m_hand, m_text] <;> omega) | decide | omega | (simp only [oMs, oVws, oScr, oSgn, oMod, oMem, oSig, oKno, oPro, oBox, oFst, oSnd, oLts, oLet, oNum, oVw, oEnt, oBef, oBk, oVs, oCon, oVec, m_row, m_keptOf, m_keptRow, m_viewOf, m_alarmOf, m_hasProof, m_depthOf, m_proofOf, m_signedOf, m_knownOf, m_doneOf, m_shownTo, m_sentBy, m_hasRead, m_readOf, m_lettersOf, m_letter, m_hand, m_text] at * <;> omega)), sw_n (by first | (simp only [oMs, oVws, oScr, oSgn, oMod, oMem, oSig, oKno, oPro, oBox, oFst, oSnd, oLts, oLet, oNum, oVw, oEnt, oBef, oBk, oVs, oCon, oVec, m_row, m_keptOf, m_keptRow, m_viewOf, m_alarmOf, m_hasProof, m_depthOf, m_proofOf, m_signedOf, m_knownOf, m_doneOf, m_shownTo, m_sentBy, m_hasRead, m_readOf, m_lettersOf, m_letter, m_hand, m_text] <;> omega) | decide | omega | (simp only [oMs, oVws, oScr, oSgn, oMod, oMem, oSig, oKno, oPro, oBox, oFst, oSnd, oLts, oLet, oNum, oVw, oEnt, oBef, oBk, oVs, oCon, oVec, m_row, m_keptOf, m_keptRow, m_viewOf, m_alarmOf, m_hasProof, m_depthOf, m_proofOf, m_signedOf, m_knownOf, m_doneOf, m_shownTo, m_sentBy, m_hasRead, m_readOf, m_lettersOf, m_letter, m_hand, m_text] at * <;> omega))]
    · rw [sw_s, Nat.min_eq_left (by omega)]
    · rw [sw_k (by decide), sw_s]
    · rw [sw_n q1, sw_n q1]; exact hF_3 q q2
set_option maxRecDepth 100000 in
set_option maxHeartbeats 4000000 in
theorem c_X6_takeBack (l : Launch) (D : XD) (b n : Nat) {σ : XM} {o1 x r z : Nat} (h1 : kd o1 = 6) (hx : σ o1 3 = nI x) (hx5 : x < 5) (hr0 : σ o1 2 = nI r) (hr5 : r ≤ 5) (hz : z ≤ r) : xM l yX6_takeBack cX6_takeBack 2 none 2 44 0 0 D b n [.ref (b + o1), .int (nI z)] (xH D b σ) n (fun v h' => v = none ∧ ∃ τ : XM, EqE τ (oEnt o1) σ (oBk (oBef o1) ((x + 5 - z) % 5)) ∧ τ o1 2 = nI (r - z) ∧ τ o1 3 = nI ((x + 5 - z) % 5) ∧ (∀ q, q ≠ o1 → (q < oEnt o1 ∨ oEnt o1 + 13 ≤ q) → τ q = σ q) ∧ h' = xH D b τ) := by
  refine xM.of (lv := [some (.ref (b + o1)), some (.int (nI z))]) (by decide +kernel) rfl (List.forall_mem_cons.mpr ⟨rfl, List.forall_mem_cons.mpr ⟨rfl, fun _ h => absurd h List.not_mem_nil⟩⟩) (Nat.le_of_ble_eq_true rfl) rfl ?_
  intro p e s m args below meth c hC hr hnm
  refine xi_aload_n hC dX6_takeBack_0 (pc' := 1) rfl rfl rfl ?_
  refine xi_aload_n hC dX6_takeBack_1 (pc' := 2) rfl rfl rfl ?_
  refine xg6_next hC dX6_takeBack_2 (pc' := 5) rfl xw_f_X6_32 h1 ?_
  refine xtop (y := (nI x)) (hx) ?_
  refine xi_iconst (v := nI 5) hC dX6_takeBack_5 (pc' := 6) rfl (by decide +kernel) ?_
  refine xn_iadd hC dX6_takeBack_6 (pc' := 7) rfl ?_
  refine xi_iload_n hC dX6_takeBack_7 (pc' := 8) rfl rfl rfl ?_
  refine xn_isub hC dX6_takeBack_8 (pc' := 9) rfl (by omega) ?_
  refine xi_iconst (v := nI 5) hC dX6_takeBack_9 (pc' := 10) rfl (by decide +kernel) ?_
  refine xi_irem hC dX6_takeBack_10 (pc' := 11) rfl (by decide) ?_
  refine xtop (y := nI (((x + 5) - z) % 5)) (pk_rem (by omega) (by decide) (by decide)) ?_
  refine xp6_next hC dX6_takeBack_11 (pc' := 14) rfl xw_f_X6_32 h1 ?_
  refine xi_aload_n hC dX6_takeBack_14 (pc' := 15) rfl rfl rfl ?_
  refine xg6_entries hC dX6_takeBack_15 (pc' := 18) rfl xw_f_X6_12 h1 ?_
  refine xi_aload_n hC dX6_takeBack_18 (pc' := 19) rfl rfl rfl ?_
  refine xg6_before hC dX6_takeBack_19 (pc' := 22) rfl xw_f_X6_18 h1 ?_
  refine xi_aload_n hC dX6_takeBack_22 (pc' := 23) rfl rfl rfl ?_
  refine xg6_next hC dX6_takeBack_23 (pc' := 26) rfl xw_f_X6_32 h1 ?_
  refine xtop (y := (nI (((x + 5) - z) % 5))) (by rw [sw_s]) ?_
  refine xa_before hC dX6_takeBack_26 (pc' := 27) rfl (kd_oBef h1) rfl (by omega) ?_
  refine xi_callV (As := [.ref (b + (oBk (oBef o1) (((x + 5) - z) % 5)))]) (rest := []) (c_X1_copyFrom l D b n (σ := (sw σ o1 3 (nI (((x + 5) - z) % 5)))) (kd_oEnt h1) (kd_oBk (kd_oBef h1) (by omega)) (by first | (simp only [oMs, oVws, oScr, oSgn, oMod, oMem, oSig, oKno, oPro, oBox, oFst, oSnd, oLts, oLet, oNum, oVw, oEnt, oBef, oBk, oVs, oCon, oVec, m_row, m_keptOf, m_keptRow, m_viewOf, m_alarmOf, m_hasProof, m_depthOf, m_proofOf, m_signedOf, m_knownOf, m_doneOf, m_shownTo, m_sentBy, m_hasRead, m_readOf, m_lettersOf, m_letter, m_hand, m_text] <;> omega) | decide | omega | (simp only [oMs, oVws, oScr, oSgn, oMod, oMem, oSig, oKno, oPro, oBox, oFst, oSnd, oLts, oLet, oNum, oVw, oEnt, oBef, oBk, oVs, oCon, oVec, m_row, m_keptOf, m_keptRow, m_viewOf, m_alarmOf, m_hasProof, m_depthOf, m_proofOf, m_signedOf, m_knownOf, m_doneOf, m_shownTo, m_sentBy, m_hasRead, m_readOf, m_lettersOf, m_letter, m_hand, m_text] at * <;> omega))) hC dX6_takeBack_27 (pc' := 30) rfl xw_m_X6_35 xw_c_X1_copyFrom xw_ins_X1_copyFrom xw_sel_X1_copyFrom xw_ini_X1 xd_X1_copyFrom (xH_at.trans (xsh_1 (kd_oEnt h1))) rfl ⟨Nat.le_of_ble_eq_true rfl, Nat.le_of_ble_eq_true rfl⟩ rfl (Nat.le_of_ble_eq_true rfl) ⟨Nat.le_of_ble_eq_true rfl, Nat.le_of_ble_eq_true rfl⟩ ?_
  rintro _ _ ⟨rfl, τ_1, hA_2, hF_3, rfl⟩
  show xV _ _ _ _ _ _ _ _ _ _ _ _ _ _ _ _ _ (xH D b τ_1) _ _ []
  refine xi_aload_n hC dX6_takeBack_30 (pc' := 31) rfl rfl rfl ?_
  refine xi_dup hC dX6_takeBack_31 (pc' := 32) rfl rfl ?_
  refine xg6_remembered hC dX6_takeBack_32 (pc' := 35) rfl xw_f_X6_28 h1 ?_
  refine xtop (y := (σ o1 2)) (by rw [hF_3 o1 (by first | (simp only [oMs, oVws, oScr, oSgn, oMod, oMem, oSig, oKno, oPro, oBox, oFst, oSnd, oLts, oLet, oNum, oVw, oEnt, oBef, oBk, oVs, oCon, oVec, m_row, m_keptOf, m_keptRow, m_viewOf, m_alarmOf, m_hasProof, m_depthOf, m_proofOf, m_signedOf, m_knownOf, m_doneOf, m_shownTo, m_sentBy, m_hasRead, m_readOf, m_lettersOf, m_letter, m_hand, m_text] <;> omega) | decide | omega | (simp only [oMs, oVws, oScr, oSgn, oMod, oMem, oSig, oKno, oPro, oBox, oFst, oSnd, oLts, oLet, oNum, oVw, oEnt, oBef, oBk, oVs, oCon, oVec, m_row, m_keptOf, m_keptRow, m_viewOf, m_alarmOf, m_hasProof, m_depthOf, m_proofOf, m_signedOf, m_knownOf, m_doneOf, m_shownTo, m_sentBy, m_hasRead, m_readOf, m_lettersOf, m_letter, m_hand, m_text] at * <;> omega)), sw_k (j := 2) (k := 3) (by first | (simp only [oMs, oVws, oScr, oSgn, oMod, oMem, oSig, oKno, oPro, oBox, oFst, oSnd, oLts, oLet, oNum, oVw, oEnt, oBef, oBk, oVs, oCon, oVec, m_row, m_keptOf, m_keptRow, m_viewOf, m_alarmOf, m_hasProof, m_depthOf, m_proofOf, m_signedOf, m_knownOf, m_doneOf, m_shownTo, m_sentBy, m_hasRead, m_readOf, m_lettersOf, m_letter, m_hand, m_text] <;> omega) | decide | omega | (simp only [oMs, oVws, oScr, oSgn, oMod, oMem, oSig, oKno, oPro, oBox, oFst, oSnd, oLts, oLet, oNum, oVw, oEnt, oBef, oBk, oVs, oCon, oVec, m_row, m_keptOf, m_keptRow, m_viewOf, m_alarmOf, m_hasProof, m_depthOf, m_proofOf, m_signedOf, m_knownOf, m_doneOf, m_shownTo, m_sentBy, m_hasRead, m_readOf, m_lettersOf, m_letter, m_hand, m_text] at * <;> omega))]) ?_
  refine xtop (y := (nI r)) (hr0) ?_
  refine xi_iload_n hC dX6_takeBack_35 (pc' := 36) rfl rfl rfl ?_
  refine xn_isub hC dX6_takeBack_36 (pc' := 37) rfl (by omega) ?_
  refine xp6_remembered hC dX6_takeBack_37 (pc' := 40) rfl xw_f_X6_28 h1 ?_
  refine xi_return hC dX6_takeBack_40 hr rfl ?_
  refine ⟨rfl, _, hA_2.of (fun q q1 q2 => ?_) (fun q q1 q2 => ?_), sw_s, ?_, fun q q1 q2 => ?_, rfl⟩
  · rw [sw_n (by first | (simp only [oMs, oVws, oScr, oSgn, oMod, oMem, oSig, oKno, oPro, oBox, oFst, oSnd, oLts, oLet, oNum, oVw, oEnt, oBef, oBk, oVs, oCon, oVec, m_row, m_keptOf, m_keptRow, m_viewOf, m_alarmOf, m_hasProof, m_depthOf, m_proofOf, m_signedOf, m_knownOf, m_doneOf, m_shownTo, m_sentBy, m_hasRead, m_readOf, m_lettersOf, m_letter, m_hand, m_text] <;> omega) | decide | omega | (simp only [oMs, oVws, oScr, oSgn, oMod, oMem, oSig, oKno, oPro, oBox, oFst, oSnd, oLts, oLet, oNum, oVw, oEnt, oBef, oBk, oVs, oCon, oVec, m_row, m_keptOf, m_keptRow, m_viewOf, m_alarmOf, m_hasProof, m_depthOf, m_proofOf, m_signedOf, m_knownOf, m_doneOf, m_shownTo, m_sentBy, m_hasRead, m_readOf, m_lettersOf, m_letter, m_hand, m_text] at * <;> omega))]
  · rw [sw_n (by first | (simp only [oMs, oVws, oScr, oSgn, oMod, oMem, oSig, oKno, oPro, oBox, oFst, oSnd, oLts, oLet, oNum, oVw, oEnt, oBef, oBk, oVs, oCon, oVec, m_row, m_keptOf, m_keptRow, m_viewOf, m_alarmOf, m_hasProof, m_depthOf, m_proofOf, m_signedOf, m_knownOf, m_doneOf, m_shownTo, m_sentBy, m_hasRead, m_readOf, m_lettersOf, m_letter, m_hand, m_text] <;> omega) | decide | omega | (simp only [oMs, oVws, oScr, oSgn, oMod, oMem, oSig, oKno, oPro, oBox, oFst, oSnd, oLts, oLet, oNum, oVw, oEnt, oBef, oBk, oVs, oCon, oVec, m_row, m_keptOf, m_keptRow, m_viewOf, m_alarmOf, m_hasProof, m_depthOf, m_proofOf, m_signedOf, m_knownOf, m_doneOf, m_shownTo, m_sentBy, m_hasRead, m_readOf, m_lettersOf, m_letter, m_hand, m_text] at * <;> omega))]
  · rw [sw_k (by decide), hF_3 _ (by first | (simp only [oMs, oVws, oScr, oSgn, oMod, oMem, oSig, oKno, oPro, oBox, oFst, oSnd, oLts, oLet, oNum, oVw, oEnt, oBef, oBk, oVs, oCon, oVec, m_row, m_keptOf, m_keptRow, m_viewOf, m_alarmOf, m_hasProof, m_depthOf, m_proofOf, m_signedOf, m_knownOf, m_doneOf, m_shownTo, m_sentBy, m_hasRead, m_readOf, m_lettersOf, m_letter, m_hand, m_text] <;> omega) | decide | omega | (simp only [oMs, oVws, oScr, oSgn, oMod, oMem, oSig, oKno, oPro, oBox, oFst, oSnd, oLts, oLet, oNum, oVw, oEnt, oBef, oBk, oVs, oCon, oVec, m_row, m_keptOf, m_keptRow, m_viewOf, m_alarmOf, m_hasProof, m_depthOf, m_proofOf, m_signedOf, m_knownOf, m_doneOf, m_shownTo, m_sentBy, m_hasRead, m_readOf, m_lettersOf, m_letter, m_hand, m_text] at * <;> omega)), sw_s]
  · rw [sw_n q1, hF_3 q q2, sw_n q1]
