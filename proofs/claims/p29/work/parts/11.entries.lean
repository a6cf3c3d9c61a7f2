/-! ===== Entries, Proof ===== -/
/-- the entries at e1 in τ are those at e2 in σ -/
def EqE (τ : XM) (e1 : Nat) (σ : XM) (e2 : Nat) : Prop := ∀ i, i < 5 → (∀ k, k < 5 → τ (oNum (oVec (oVs e1) i)) k = σ (oNum (oVec (oVs e2) i)) k) ∧ τ (oCon e1) i = σ (oCon e2) i
/-- nothing but the block of w cells from e on has changed -/
def OutE (τ σ : XM) (e w : Nat) : Prop := ∀ q, (q < e ∨ e + w ≤ q) → τ q = σ q
theorem EqE.of {τ τ' σ σ' : XM} {e1 e2 : Nat} (h : EqE τ e1 σ e2) (h1 : ∀ q, e1 ≤ q → q < e1 + 13 → τ' q = τ q) (h2 : ∀ q, e2 ≤ q → q < e2 + 13 → σ' q = σ q) : EqE τ' e1 σ' e2 := by
  intro i hi
  refine ⟨fun k hk => ?_, ?_⟩
  · rw [h1 _ (by simp only [oNum, oVec, oVs]; omega) (by simp only [oNum, oVec, oVs]; omega), h2 _ (by simp only [oNum, oVec, oVs]; omega) (by simp only [oNum, oVec, oVs]; omega)]
    exact (h i hi).1 k hk
  · rw [h1 _ (by simp only [oCon]; omega) (by simp only [oCon]; omega), h2 _ (by simp only [oCon]; omega) (by simp only [oCon]; omega)]
    exact (h i hi).2
/-- some two of the first n vectors are incomparable in the first w places -/
def fkd (n w : Nat) (v : Nat → Nat → Int32) : Prop := ∃ i j, i < j ∧ j < n ∧ rel w (v i) (v j) = 2
/-- the first such two, the lower first -/
def fstP (n w : Nat) (v : Nat → Nat → Int32) (i j : Nat) : Prop := i < j ∧ j < n ∧ rel w (v i) (v j) = 2 ∧ ∀ i' j', i' < j' → j' < n → rel w (v i') (v j') = 2 → i < i' ∨ (i = i' ∧ j ≤ j')
/-- the vectors of the entries at e -/
def xve (σ : XM) (e : Nat) : Nat → Nat → Int32 := fun i => σ (oNum (oVec (oVs e) i))
set_option maxRecDepth 100000 in
set_option maxHeartbeats 4000000 in
theorem c_X1_clear (l : Launch) (D : XD) (b n : Nat) {σ : XM} {o1 : Nat} (h1 : kd o1 = 1) : xM l yX1_clear cX1_clear 2 none 1 21 0 0 D b n [.ref (b + o1)] (xH D b σ) n (fun v h' => v = none ∧ ∃ τ : XM, (∀ i, i < 5 → (∀ k, k < 5 → τ (oNum (oVec (oVs o1) i)) k = 0) ∧ τ (oCon o1) i = 0) ∧ OutE τ σ o1 13 ∧ h' = xH D b τ) := by
  refine xM.of (lv := [some (.ref (b + o1)), none]) (by decide +kernel) rfl (List.forall_mem_cons.mpr ⟨rfl, fun _ h => absurd h List.not_mem_nil⟩) (Nat.le_of_ble_eq_true rfl) rfl ?_
  intro p e s m args below meth c hC hr hnm
  refine xi_iconst (v := nI 0) hC dX1_clear_0 (pc' := 1) rfl (by decide +kernel) ?_
  refine xi_istore_n (lv' := [some (.ref (b + o1)), some (.int (nI 0))]) hC dX1_clear_1 (pc' := 2) rfl rfl (by decide) rfl ?_
  have L2 : ∀ (d : Nat) (j : Nat) (τ : XM), 5 - j < d → (j ≤ 5) → (∀ i, i < j → (∀ k, k < 5 → τ (oNum (oVec (oVs o1) i)) k = 0) ∧ τ (oCon o1) i = 0) → (OutE τ σ o1 13) → xV p l e (xR 1 21 0 0) s m args below meth c D b 2 0 0 (MQ below (xQ D b n (fun v h' => v = none ∧ ∃ τ : XM, (∀ i, i < 5 → (∀ k, k < 5 → τ (oNum (oVec (oVs o1) i)) k = 0) ∧ τ (oCon o1) i = 0) ∧ OutE τ σ o1 13 ∧ h' = xH D b τ)) args s 0 0 (fun q => b ≤ q)) n (xH D b τ) 2 [some (.ref (b + o1)), some (.int (nI j))] [] := by
    intro d
    induction d with
    | zero => intro j τ h; exact absurd h (Nat.not_lt_zero _)
    | succ d ih2 =>
      intro j τ hd2 hj hA hF
      refine xi_iload_n hC dX1_clear_2 (pc' := 3) rfl rfl rfl ?_
      refine xi_iconst (v := nI 5) hC dX1_clear_3 (pc' := 4) rfl (by decide +kernel) ?_
      refine xn_icmpge (tgt := 29) hC dX1_clear_4 (pc' := 7) rfl (by decide) (by omega) (by omega) (fun zc4 => ?_) (fun zc4 => ?_)
      · skip
        refine xi_return hC dX1_clear_29 hr rfl ?_
        exact ⟨rfl, τ, fun i hi => hA i (by omega), hF, rfl⟩
      · skip
        refine xi_aload_n hC dX1_clear_7 (pc' := 8) rfl rfl rfl ?_
        refine xg1_vectors hC dX1_clear_8 (pc' := 11) rfl xw_f_X1_11 h1 ?_
        refine xi_iload_n hC dX1_clear_11 (pc' := 12) rfl rfl rfl ?_
        refine xa_vectors hC dX1_clear_12 (pc' := 13) rfl (kd_oVs h1) rfl (by omega) ?_
        refine xi_callV (As := []) (rest := []) (c_X5_clear l D b n (σ := τ) (kd_oVec (kd_oVs h1) (by omega))) hC dX1_clear_13 (pc' := 16) rfl xw_m_X1_22 xw_c_X5_clear xw_ins_X5_clear xw_sel_X5_clear xw_ini_X5 xd_X5_clear (xH_at.trans (xsh_5 (kd_oVec (kd_oVs h1) (by omega)))) rfl ⟨Nat.le_of_ble_eq_true rfl, Nat.le_of_ble_eq_true rfl⟩ rfl (Nat.le_of_ble_eq_true rfl) ⟨Nat.le_of_ble_eq_true rfl, Nat.le_of_ble_eq_true rfl⟩ ?_
        rintro _ _ ⟨rfl, g_1, hg_2, rfl⟩
        show xV _ _ _ _ _ _ _ _ _ _ _ _ _ _ _ _ _ (xH D b (su τ (oNum (oVec (oVs o1) j)) g_1)) _ _ []
        refine xi_aload_n hC dX1_clear_16 (pc' := 17) rfl rfl rfl ?_
        refine xg1_contents hC dX1_clear_17 (pc' := 20) rfl xw_f_X1_17 h1 ?_
        refine xi_iload_n hC dX1_clear_20 (pc' := 21) rfl rfl rfl ?_
        refine xi_iconst (v := nI 0) hC dX1_clear_21 (pc' := 22) rfl (by decide +kernel) ?_
        refine xs_i hC dX1_clear_22 (pc' := 23) rfl (N := 5) (kd_oCon h1) (by decide) rfl (by omega) ?_
        refine xn_iinc (lv' := [some (.ref (b + o1)), some (.int (nI (j + 1)))]) hC dX1_clear_23 (pc' := 26) rfl rfl (by decide) rfl ?_
        refine xi_goto (tgt := 2) hC dX1_clear_26 (by decide) ?_
        refine ih2 _ _ (by omega) ?_ ?_ ?_
        · omega
        · intro i hi
          by_cases hij : i = j
          · subst hij
            refine ⟨fun k hk => ?_, ?_⟩
            · rw [sw_n (by first | (simp only [oMs, oVws, oScr, oSgn, oMod, oMem, oSig, oKno, oPro, oBox, oFst, oSnd, oLts, oLet, oNum, oVw, oEnt, oBef, oBk, oVs, oCon, oVec, m_row, m_keptOf, m_keptRow, m_viewOf, m_alarmOf, m_hasProof, m_depthOf, m_proofOf, m_signedOf, m_knownOf, m_doneOf, m_shownTo, m_sentBy, m_hasRead, m_readOf, m_lettersOf, m_letter, m_hand, m_text] <;> omega) | decide | omega | (simp only [oMs, oVws, oScr, oSgn, oMod, oMem, oSig, oKno, oPro, oBox, oFst, oSnd, oLts, oLet, oNum, oVw, oEnt, oBef, oBk, oVs, oCon, oVec, m_row, m_keptOf, m_keptRow, m_viewOf, m_alarmOf, m_hasProof, m_depthOf, m_proofOf, m_signedOf, m_knownOf, m_doneOf, m_shownTo, m_sentBy, m_hasRead, m_readOf, m_lettersOf, m_letter, m_hand, m_text] at * <;> omega)), su_s]; exact hg_2 k hk
            · rw [sw_s]; decide
          · refine ⟨fun k hk => ?_, ?_⟩
            · rw [sw_n (by first | (simp only [oMs, oVws, oScr, oSgn, oMod, oMem, oSig, oKno, oPro, oBox, oFst, oSnd, oLts, oLet, oNum, oVw, oEnt, oBef, oBk, oVs, oCon, oVec, m_row, m_keptOf, m_keptRow, m_viewOf, m_alarmOf, m_hasProof, m_depthOf, m_proofOf, m_signedOf, m_knownOf, m_doneOf, m_shownTo, m_sentBy, m_hasRead, m_readOf, m_lettersOf, m_letter, m_hand, m_text] <;> omega) | decide | omega | (simp only [oMs, oVws, oScr, oSgn, oMod, oMem, oSig, oKno, oPro, oBox, oFst, oSnd, oLts, oLet, oNum, oVw, oEnt, oBef, oBk, oVs, oCon, oVec, m_row, m_keptOf, m_keptRow, m_viewOf, m_alarmOf, m_hasProof, m_depthOf, m_proofOf, m_signedOf, m_knownOf, m_doneOf, m_shownTo, m_sentBy, m_hasRead, m_readOf, m_lettersOf, m_letter, m_hand, m_text] at * <;> omega)), su_n (by first | (simp only [oMs, oVws, oScr, oSgn, oMod, oMem, oSig, oKno, oPro, oBox, oFst, oSnd, oLts, oLet, oNum, oVw, oEnt, oBef, oBk, oVs, oCon, oVec, m_row, m_keptOf, m_keptRow, m_viewOf, m_alarmOf, m_hasProof, m_depthOf, m_proofOf, m_signedOf, m_knownOf, m_doneOf, m_shownTo, m_sentBy, m_hasRead, m_readOf, m_lettersOf, m_letter, m_hand, m_text] <;> omega) | decide | omega | (simp only [oMs, oVws, oScr, oSgn, oMod, oMem, oSig, oKno, oPro, oBox, oFst, oSnd, oLts, oLet, oNum, oVw, oEnt, oBef, oBk, oVs, oCon, oVec, m_row, m_keptOf, m_keptRow, m_viewOf, m_alarmOf, m_hasProof, m_depthOf, m_proofOf, m_signedOf, m_knownOf, m_doneOf, m_shownTo, m_sentBy, m_hasRead, m_readOf, m_lettersOf, m_letter, m_hand, m_text] at * <;> omega))]; exact (hA i (by omega)).1 k hk
            · rw [sw_k hij, su_n (by first | (simp only [oMs, oVws, oScr, oSgn, oMod, oMem, oSig, oKno, oPro, oBox, oFst, oSnd, oLts, oLet, oNum, oVw, oEnt, oBef, oBk, oVs, oCon, oVec, m_row, m_keptOf, m_keptRow, m_viewOf, m_alarmOf, m_hasProof, m_depthOf, m_proofOf, m_signedOf, m_knownOf, m_doneOf, m_shownTo, m_sentBy, m_hasRead, m_readOf, m_lettersOf, m_letter, m_hand, m_text] <;> omega) | decide | omega | (simp only [oMs, oVws, oScr, oSgn, oMod, oMem, oSig, oKno, oPro, oBox, oFst, oSnd, oLts, oLet, oNum, oVw, oEnt, oBef, oBk, oVs, oCon, oVec, m_row, m_keptOf, m_keptRow, m_viewOf, m_alarmOf, m_hasProof, m_depthOf, m_proofOf, m_signedOf, m_knownOf, m_doneOf, m_shownTo, m_sentBy, m_hasRead, m_readOf, m_lettersOf, m_letter, m_hand, m_text] at * <;> omega))]; exact (hA i (by omega)).2
        · intro q hq
          rw [sw_n (by first | (simp only [oMs, oVws, oScr, oSgn, oMod, oMem, oSig, oKno, oPro, oBox, oFst, oSnd, oLts, oLet, oNum, oVw, oEnt, oBef, oBk, oVs, oCon, oVec, m_row, m_keptOf, m_keptRow, m_viewOf, m_alarmOf, m_hasProof, m_depthOf, m_proofOf, m_signedOf, m_knownOf, m_doneOf, m_shownTo, m_sentBy, m_hasRead, m_readOf, m_lettersOf, m_letter, m_hand, m_text] <;> omega) | decide | omega | (simp only [oMs, oVws, oScr, oSgn, oMod, oMem, oSig, oKno, oPro, oBox, oFst, oSnd, oLts, oLet, oNum, oVw, oEnt, oBef, oBk, oVs, oCon, oVec, m_row, m_keptOf, m_keptRow, m_viewOf, m_alarmOf, m_hasProof, m_depthOf, m_proofOf, m_signedOf, m_knownOf, m_doneOf, m_shownTo, m_sentBy, m_hasRead, m_readOf, m_lettersOf, m_letter, m_hand, m_text] at * <;> omega)), su_n (by first | (simp only [oMs, oVws, oScr, oSgn, oMod, oMem, oSig, oKno, oPro, oBox, oFst, oSnd, oLts, oLet, oNum, oVw, oEnt, oBef, oBk, oVs, oCon, oVec, m_row, m_keptOf, m_keptRow, m_viewOf, m_alarmOf, m_hasProof, m_depthOf, m_proofOf, m_signedOf, m_knownOf, m_doneOf, m_shownTo, m_sentBy, m_hasRead, m_readOf, m_lettersOf, m_letter, m_hand, m_text] <;> omega) | decide | omega | (simp only [oMs, oVws, oScr, oSgn, oMod, oMem, oSig, oKno, oPro, oBox, oFst, oSnd, oLts, oLet, oNum, oVw, oEnt, oBef, oBk, oVs, oCon, oVec, m_row, m_keptOf, m_keptRow, m_viewOf, m_alarmOf, m_hasProof, m_depthOf, m_proofOf, m_signedOf, m_knownOf, m_doneOf, m_shownTo, m_sentBy, m_hasRead, m_readOf, m_lettersOf, m_letter, m_hand, m_text] at * <;> omega))]
          exact hF q hq
  refine L2 _ _ _ (Nat.lt_succ_self _) ?_ ?_ ?_
  · omega
  · intro i hi; omega
  · exact fun q _ => rfl
set_option maxRecDepth 100000 in
set_option maxHeartbeats 4000000 in
theorem c_X1_copyFrom (l : Launch) (D : XD) (b n : Nat) {σ : XM} {o1 o2 : Nat} (h1 : kd o1 = 1) (h2 : kd o2 = 1) (hd : o1 + 13 ≤ o2 ∨ o2 + 13 ≤ o1) : xM l yX1_copyFrom cX1_copyFrom 3 none 1 22 0 0 D b n [.ref (b + o1), .ref (b + o2)] (xH D b σ) n (fun v h' => v = none ∧ ∃ τ : XM, EqE τ o1 σ o2 ∧ OutE τ σ o1 13 ∧ h' = xH D b τ) := by
  refine xM.of (lv := [some (.ref (b + o1)), some (.ref (b + o2)), none]) (by decide +kernel) rfl (List.forall_mem_cons.mpr ⟨rfl, List.forall_mem_cons.mpr ⟨rfl, fun _ h => absurd h List.not_mem_nil⟩⟩) (Nat.le_of_ble_eq_true rfl) rfl ?_
  intro p e s m args below meth c hC hr hnm
  refine xi_iconst (v := nI 0) hC dX1_copyFrom_0 (pc' := 1) rfl (by decide +kernel) ?_
  refine xi_istore_n (lv' := [some (.ref (b + o1)), some (.ref (b + o2)), some (.int (nI 0))]) hC dX1_copyFrom_1 (pc' := 2) rfl rfl (by decide) rfl ?_
  have L2 : ∀ (d : Nat) (j : Nat) (τ : XM), 5 - j < d → (j ≤ 5) → (∀ i, i < j → (∀ k, k < 5 → τ (oNum (oVec (oVs o1) i)) k = σ (oNum (oVec (oVs o2) i)) k) ∧ τ (oCon o1) i = σ (oCon o2) i) → (OutE τ σ o1 13) → xV p l e (xR 1 22 0 0) s m args below meth c D b 3 0 0 (MQ below (xQ D b n (fun v h' => v = none ∧ ∃ τ : XM, EqE τ o1 σ o2 ∧ OutE τ σ o1 13 ∧ h' = xH D b τ)) args s 0 0 (fun q => b ≤ q)) n (xH D b τ) 2 [some (.ref (b + o1)), some (.ref (b + o2)), some (.int (nI j))] [] := by
    intro d
    induction d with
    | zero => intro j τ h; exact absurd h (Nat.not_lt_zero _)
    | succ d ih2 =>
      intro j τ hd2 hj hA hF
      refine xi_iload_n hC dX1_copyFrom_2 (pc' := 3) rfl rfl rfl ?_
      refine xi_iconst (v := nI 5) hC dX1_copyFrom_3 (pc' := 4) rfl (by decide +kernel) ?_
      refine xn_icmpge (tgt := 40) hC dX1_copyFrom_4 (pc' := 7) rfl (by decide) (by omega) (by omega) (fun zc4 => ?_) (fun zc4 => ?_)
      · skip
        refine xi_return hC dX1_copyFrom_40 hr rfl ?_
        exact ⟨rfl, τ, fun i hi => hA i (by omega), hF, rfl⟩
      · skip
        refine xi_aload_n hC dX1_copyFrom_7 (pc' := 8) rfl rfl rfl ?_
        refine xg1_vectors hC dX1_copyFrom_8 (pc' := 11) rfl xw_f_X1_11 h1 ?_
        refine xi_iload_n hC dX1_copyFrom_11 (pc' := 12) rfl rfl rfl ?_
        refine xa_vectors hC dX1_copyFrom_12 (pc' := 13) rfl (kd_oVs h1) rfl (by omega) ?_
        refine xi_aload_n hC dX1_copyFrom_13 (pc' := 14) rfl rfl rfl ?_
        refine xg1_vectors hC dX1_copyFrom_14 (pc' := 17) rfl xw_f_X1_11 h2 ?_
        refine xi_iload_n hC dX1_copyFrom_17 (pc' := 18) rfl rfl rfl ?_
        refine xa_vectors hC dX1_copyFrom_18 (pc' := 19) rfl (kd_oVs h2) rfl (by omega) ?_
        refine xi_callV (As := [.ref (b + (oVec (oVs o2) j))]) (rest := []) (c_X5_copyFrom l D b n (σ := τ) (kd_oVec (kd_oVs h1) (by omega)) (kd_oVec (kd_oVs h2) (by omega)) (by first | (simp only [oMs, oVws, oScr, oSgn, oMod, oMem, oSig, oKno, oPro, oBox, oFst, oSnd, oLts, oLet, oNum, oVw, oEnt, oBef, oBk, oVs, oCon, oVec, m_row, m_keptOf, m_keptRow, m_viewOf, m_alarmOf, m_hasProof, m_depthOf, m_proofOf, m_signedOf, m_knownOf, m_doneOf, m_shownTo, m_sentBy, m_hasRead, m_readOf, m_lettersOf, m_letter, m_hand, m_text] <;> omega) | decide | omega | (simp only [oMs, oVws, oScr, oSgn, oMod, oMem, oSig, oKno, oPro, oBox, oFst, oSnd, oLts, oLet, oNum, oVw, oEnt, oBef, oBk, oVs, oCon, oVec, m_row, m_keptOf, m_keptRow, m_viewOf, m_alarmOf, m_hasProof, m_depthOf, m_proofOf, m_signedOf, m_knownOf, m_doneOf, m_shownTo, m_sentBy, m_hasRead, m_readOf, m_lettersOf, m_letter, m_hand, m_text] at * <;> omega))) hC dX1_copyFrom_19 (pc' := 22) rfl xw_m_X1_25 xw_c_X5_copyFrom xw_ins_X5_copyFrom xw_sel_X5_copyFrom xw_ini_X5 xd_X5_copyFrom (xH_at.trans (xsh_5 (kd_oVec (kd_oVs h1) (by omega)))) rfl ⟨Nat.le_of_ble_eq_true rfl, Nat.le_of_ble_eq_true rfl⟩ rfl (Nat.le_of_ble_eq_true rfl) ⟨Nat.le_of_ble_eq_true rfl, Nat.le_of_ble_eq_true rfl⟩ ?_
        rintro _ _ ⟨rfl, g_1, hg_2, rfl⟩
        show xV _ _ _ _ _ _ _ _ _ _ _ _ _ _ _ _ _ (xH D b (su τ (oNum (oVec (oVs o1) j)) g_1)) _ _ []
        refine xi_aload_n hC dX1_copyFrom_22 (pc' := 23) rfl rfl rfl ?_
        refine xg1_contents hC dX1_copyFrom_23 (pc' := 26) rfl xw_f_X1_17 h1 ?_
        refine xi_iload_n hC dX1_copyFrom_26 (pc' := 27) rfl rfl rfl ?_
        refine xi_aload_n hC dX1_copyFrom_27 (pc' := 28) rfl rfl rfl ?_
        refine xg1_contents hC dX1_copyFrom_28 (pc' := 31) rfl xw_f_X1_17 h2 ?_
        refine xi_iload_n hC dX1_copyFrom_31 (pc' := 32) rfl rfl rfl ?_
        refine xl_i hC dX1_copyFrom_32 (pc' := 33) rfl (N := 5) (kd_oCon h2) (by decide) rfl (by omega) ?_
        refine xtop (y := (τ (oCon o2) j)) (by rw [su_n (q := (oCon o2)) (o := (oNum (oVec (oVs o1) j))) (by first | (simp only [oMs, oVws, oScr, oSgn, oMod, oMem, oSig, oKno, oPro, oBox, oFst, oSnd, oLts, oLet, oNum, oVw, oEnt, oBef, oBk, oVs, oCon, oVec, m_row, m_keptOf, m_keptRow, m_viewOf, m_alarmOf, m_hasProof, m_depthOf, m_proofOf, m_signedOf, m_knownOf, m_doneOf, m_shownTo, m_sentBy, m_hasRead, m_readOf, m_lettersOf, m_letter, m_hand, m_text] <;> omega) | decide | omega | (simp only [oMs, oVws, oScr, oSgn, oMod, oMem, oSig, oKno, oPro, oBox, oFst, oSnd, oLts, oLet, oNum, oVw, oEnt, oBef, oBk, oVs, oCon, oVec, m_row, m_keptOf, m_keptRow, m_viewOf, m_alarmOf, m_hasProof, m_depthOf, m_proofOf, m_signedOf, m_knownOf, m_doneOf, m_shownTo, m_sentBy, m_hasRead, m_readOf, m_lettersOf, m_letter, m_hand, m_text] at * <;> omega))]) ?_
        refine xs_i hC dX1_copyFrom_33 (pc' := 34) rfl (N := 5) (kd_oCon h1) (by decide) rfl (by omega) ?_
        refine xn_iinc (lv' := [some (.ref (b + o1)), some (.ref (b + o2)), some (.int (nI (j + 1)))]) hC dX1_copyFrom_34 (pc' := 37) rfl rfl (by decide) rfl ?_
        refine xi_goto (tgt := 2) hC dX1_copyFrom_37 (by decide) ?_
        refine ih2 _ _ (by omega) ?_ ?_ ?_
        · omega
        · intro i hi
          by_cases hij : i = j
          · subst hij
            refine ⟨fun k hk => ?_, ?_⟩
            · rw [sw_n (by first | (simp only [oMs, oVws, oScr, oSgn, oMod, oMem, oSig, oKno, oPro, oBox, oFst, oSnd, oLts, oLet, oNum, oVw, oEnt, oBef, oBk, oVs, oCon, oVec, m_row, m_keptOf, m_keptRow, m_viewOf, m_alarmOf, m_hasProof, m_depthOf, m_proofOf, m_signedOf, m_knownOf, m_doneOf, m_shownTo, m_sentBy, m_hasRead, m_readOf, m_lettersOf, m_letter, m_hand, m_text] <;> omega) | decide | omega | (simp only [oMs, oVws, oScr, oSgn, oMod, oMem, oSig, oKno, oPro, oBox, oFst, oSnd, oLts, oLet, oNum, oVw, oEnt, oBef, oBk, oVs, oCon, oVec, m_row, m_keptOf, m_keptRow, m_viewOf, m_alarmOf, m_hasProof, m_depthOf, m_proofOf, m_signedOf, m_knownOf, m_doneOf, m_shownTo, m_sentBy, m_hasRead, m_readOf, m_lettersOf, m_letter, m_hand, m_text] at * <;> omega)), su_s, hg_2 k hk, hF _ (by first | (simp only [oMs, oVws, oScr, oSgn, oMod, oMem, oSig, oKno, oPro, oBox, oFst, oSnd, oLts, oLet, oNum, oVw, oEnt, oBef, oBk, oVs, oCon, oVec, m_row, m_keptOf, m_keptRow, m_viewOf, m_alarmOf, m_hasProof, m_depthOf, m_proofOf, m_signedOf, m_knownOf, m_doneOf, m_shownTo, m_sentBy, m_hasRead, m_readOf, m_lettersOf, m_letter, m_hand, m_text] <;> omega) | decide | omega | (simp only [oMs, oVws, oScr, oSgn, oMod, oMem, oSig, oKno, oPro, oBox, oFst, oSnd, oLts, oLet, oNum, oVw, oEnt, oBef, oBk, oVs, oCon, oVec, m_row, m_keptOf, m_keptRow, m_viewOf, m_alarmOf, m_hasProof, m_depthOf, m_proofOf, m_signedOf, m_knownOf, m_doneOf, m_shownTo, m_sentBy, m_hasRead, m_readOf, m_lettersOf, m_letter, m_hand, m_text] at * <;> omega))]
            · rw [sw_s, hF _ (by first | (simp only [oMs, oVws, oScr, oSgn, oMod, oMem, oSig, oKno, oPro, oBox, oFst, oSnd, oLts, oLet, oNum, oVw, oEnt, oBef, oBk, oVs, oCon, oVec, m_row, m_keptOf, m_keptRow, m_viewOf, m_alarmOf, m_hasProof, m_depthOf, m_proofOf, m_signedOf, m_knownOf, m_doneOf, m_shownTo, m_sentBy, m_hasRead, m_readOf, m_lettersOf, m_letter, m_hand, m_text] <;> omega) | decide | omega | (simp only [oMs, oVws, oScr, oSgn, oMod, oMem, oSig, oKno, oPro, oBox, oFst, oSnd, oLts, oLet, oNum, oVw, oEnt, oBef, oBk, oVs, oCon, oVec, m_row, m_keptOf, m_keptRow, m_viewOf, m_alarmOf, m_hasProof, m_depthOf, m_proofOf, m_signedOf, m_knownOf, m_doneOf, m_shownTo, m_sentBy, m_hasRead, m_readOf, m_lettersOf, m_letter, m_hand, m_text] at * <;> omega))]
          · refine ⟨fun k hk => ?_, ?_⟩
            · rw [sw_n (by first | (simp only [oMs, oVws, oScr, oSgn, oMod, oMem, oSig, oKno, oPro, oBox, oFst, oSnd, oLts, oLet, oNum, oVw, oEnt, oBef, oBk, oVs, oCon, oVec, m_row, m_keptOf, m_keptRow, m_viewOf, m_alarmOf, m_hasProof, m_depthOf, m_proofOf, m_signedOf, m_knownOf, m_doneOf, m_shownTo, m_sentBy, m_hasRead, m_readOf, m_lettersOf, m_letter, m_hand, m_text] <;> omega) | decide | omega | (simp only [oMs, oVws, oScr, oSgn, oMod, oMem, oSig, oKno, oPro, oBox, oFst, oSnd, oLts, oLet, oNum, oVw, oEnt, oBef, oBk, oVs, oCon, oVec, m_row, m_keptOf, m_keptRow, m_viewOf, m_alarmOf, m_hasProof, m_depthOf, m_proofOf, m_signedOf, m_knownOf, m_doneOf, m_shownTo, m_sentBy, m_hasRead, m_readOf, m_lettersOf, m_letter, m_hand, m_text] at * <;> omega)), su_n (by first | (simp only [oMs, oVws, oScr, oSgn, oMod, oMem, oSig, oKno, oPro, oBox, oFst, oSnd, oLts, oLet, oNum, oVw, oEnt, oBef, oBk, oVs, oCon, oVec, m_row, m_keptOf, m_keptRow, m_viewOf, m_alarmOf, m_hasProof, m_depthOf, m_proofOf, m_signedOf, m_knownOf, m_doneOf, m_shownTo, m_sentBy, m_hasRead, m_readOf, m_lettersOf, m_letter, m_hand, m_text] <;> omega) | decide | omega | (simp only [oMs, oVws, oScr, oSgn, oMod, oMem, oSig, oKno, oPro, oBox, oFst, oSnd, oLts, oLet, oNum, oVw, oEnt, oBef, oBk, oVs, oCon, oVec, m_row, m_keptOf, m_keptRow, m_viewOf, m_alarmOf, m_hasProof, m_depthOf, m_proofOf, m_signedOf, m_knownOf, m_doneOf, m_shownTo, m_sentBy, m_hasRead, m_readOf, m_lettersOf, m_letter, m_hand, m_text] at * <;> omega))]; exact (hA i (by omega)).1 k hk
            · rw [sw_k hij, su_n (by first | (simp only [oMs, oVws, oScr, oSgn, oMod, oMem, oSig, oKno, oPro, oBox, oFst, oSnd, oLts, oLet, oNum, oVw, oEnt, oBef, oBk, oVs, oCon, oVec, m_row, m_keptOf, m_keptRow, m_viewOf, m_alarmOf, m_hasProof, m_depthOf, m_proofOf, m_signedOf, m_knownOf, m_doneOf, m_shownTo, m_sentBy, m_hasRead, m_readOf, m_lettersOf, m_letter, m_hand, m_text] <;> omega) | decide | omega | (simp only [oMs, oVws, oScr, oSgn, oMod, oMem, oSig, oKno, oPro, oBox, oFst, oSnd, oLts, oLet, oNum, oVw, oEnt, oBef, oBk, oVs, oCon, oVec, m_row, m_keptOf, m_keptRow, m_viewOf, m_alarmOf, m_hasProof, m_depthOf, m_proofOf, m_signedOf, m_knownOf, m_doneOf, m_shownTo, m_sentBy, m_hasRead, m_readOf, m_lettersOf, m_letter, m_hand, m_text] at * <;> omega))]; exact (hA i (by omega)).2
        · intro q hq
          rw [sw_n (by first | (simp only [oMs, oVws, oScr, oSgn, oMod, oMem, oSig, oKno, oPro, oBox, oFst, oSnd, oLts, oLet, oNum, oVw, oEnt, oBef, oBk, oVs, oCon, oVec, m_row, m_keptOf, m_keptRow, m_viewOf, m_alarmOf, m_hasProof, m_depthOf, m_proofOf, m_signedOf, m_knownOf, m_doneOf, m_shownTo, m_sentBy, m_hasRead, m_readOf, m_lettersOf, m_letter, m_hand, m_text] <;> omega) | decide | omega | (simp only [oMs, oVws, oScr, oSgn, oMod, oMem, oSig, oKno, oPro, oBox, oFst, oSnd, oLts, oLet, oNum, oVw, oEnt, oBef, oBk, oVs, oCon, oVec, m_row, m_keptOf, m_keptRow, m_viewOf, m_alarmOf, m_hasProof, m_depthOf, m_proofOf, m_signedOf, m_knownOf, m_doneOf, m_shownTo, m_sentBy, m_hasRead, m_readOf, m_lettersOf, m_letter, m_hand, m_text] at * <;> omega)), su_n (by first | (simp only [oMs, oVws, oScr, oSgn, oMod, oMem, oSig, oKno, oPro, oBox, oFst, oSnd, oLts, oLet, oNum, oVw, oEnt, oBef, oBk, oVs, oCon, oVec, m_row, m_keptOf, m_keptRow, m_viewOf, m_alarmOf, m_hasProof, m_depthOf, m_proofOf, m_signedOf, m_knownOf, m_doneOf, m_shownTo, m_sentBy, m_hasRead, m_readOf, m_lettersOf, m_letter, m_hand, m_text] <;> omega) | decide | omega | (simp only [oMs, oVws, oScr, oSgn, oMod, oMem, oSig, oKno, oPro, oBox, oFst, oSnd, oLts, oLet, oNum, oVw, oEnt, oBef, oBk, oVs, oCon, oVec, m_row, m_keptOf, m_keptRow, m_viewOf, m_alarmOf, m_hasProof, m_depthOf, m_proofOf, m_signedOf, m_knownOf, m_doneOf, m_shownTo, m_sentBy, m_hasRead, m_readOf, m_lettersOf, m_letter, m_hand, m_text] at * <;> omega))]
          exact hF q hq
  refine L2 _ _ _ (Nat.lt_succ_self _) ?_ ?_ ?_
  · omega
  · intro i hi; omega
  · exact fun q _ => rfl
set_option maxRecDepth 100000 in
set_option maxHeartbeats 4000000 in
theorem c_X1_replaceByLater (l : Launch) (D : XD) (b n : Nat) {σ : XM} {o1 o2 : Nat} (h1 : kd o1 = 1) (h2 : kd o2 = 1) (hd : o1 + 13 ≤ o2 ∨ o2 + 13 ≤ o1) : xM l yX1_replaceByLater cX1_replaceByLater 4 (some .int) 1 22 0 0 D b n [.ref (b + o1), .ref (b + o2)] (xH D b σ) n (fun v h' => v = some (.int (nI (xcnt (fun i => σ (oNum (oVec (oVs o1) i)) i < σ (oNum (oVec (oVs o2) i)) i) 5))) ∧ ∃ τ : XM, (∀ i, i < 5 → (σ (oNum (oVec (oVs o1) i)) i < σ (oNum (oVec (oVs o2) i)) i → (∀ k, k < 5 → τ (oNum (oVec (oVs o1) i)) k = σ (oNum (oVec (oVs o2) i)) k) ∧ τ (oCon o1) i = σ (oCon o2) i) ∧ (¬ σ (oNum (oVec (oVs o1) i)) i < σ (oNum (oVec (oVs o2) i)) i → τ (oNum (oVec (oVs o1) i)) = σ (oNum (oVec (oVs o1) i)) ∧ τ (oCon o1) i = σ (oCon o1) i)) ∧ OutE τ σ o1 13 ∧ h' = xH D b τ) := by
  refine xM.of (lv := [some (.ref (b + o1)), some (.ref (b + o2)), none, none]) (by decide +kernel) rfl (List.forall_mem_cons.mpr ⟨rfl, List.forall_mem_cons.mpr ⟨rfl, fun _ h => absurd h List.not_mem_nil⟩⟩) (Nat.le_of_ble_eq_true rfl) rfl ?_
  intro p e s m args below meth c hC hr hnm
  refine xi_iconst (v := nI 0) hC dX1_replaceByLater_0 (pc' := 1) rfl (by decide +kernel) ?_
  refine xi_istore_n (lv' := [some (.ref (b + o1)), some (.ref (b + o2)), some (.int (nI 0)), none]) hC dX1_replaceByLater_1 (pc' := 2) rfl rfl (by decide) rfl ?_
  refine xi_iconst (v := nI 0) hC dX1_replaceByLater_2 (pc' := 3) rfl (by decide +kernel) ?_
  refine xi_istore_n (lv' := [some (.ref (b + o1)), some (.ref (b + o2)), some (.int (nI 0)), some (.int (nI 0))]) hC dX1_replaceByLater_3 (pc' := 4) rfl rfl (by decide) rfl ?_
  have L4 : ∀ (d : Nat) (j : Nat) (z : Nat) (τ : XM), 5 - j < d → (j ≤ 5) → (z = xcnt (fun i => σ (oNum (oVec (oVs o1) i)) i < σ (oNum (oVec (oVs o2) i)) i) j) → (∀ i, i < j → (σ (oNum (oVec (oVs o1) i)) i < σ (oNum (oVec (oVs o2) i)) i → (∀ k, k < 5 → τ (oNum (oVec (oVs o1) i)) k = σ (oNum (oVec (oVs o2) i)) k) ∧ τ (oCon o1) i = σ (oCon o2) i) ∧ (¬ σ (oNum (oVec (oVs o1) i)) i < σ (oNum (oVec (oVs o2) i)) i → τ (oNum (oVec (oVs o1) i)) = σ (oNum (oVec (oVs o1) i)) ∧ τ (oCon o1) i = σ (oCon o1) i)) → (∀ i, j ≤ i → i < 5 → τ (oNum (oVec (oVs o1) i)) = σ (oNum (oVec (oVs o1) i)) ∧ τ (oCon o1) i = σ (oCon o1) i) → (OutE τ σ o1 13) → xV p l e (xR 1 22 0 0) s m args below meth c D b 4 0 0 (MQ below (xQ D b n (fun v h' => v = some (.int (nI (xcnt (fun i => σ (oNum (oVec (oVs o1) i)) i < σ (oNum (oVec (oVs o2) i)) i) 5))) ∧ ∃ τ : XM, (∀ i, i < 5 → (σ (oNum (oVec (oVs o1) i)) i < σ (oNum (oVec (oVs o2) i)) i → (∀ k, k < 5 → τ (oNum (oVec (oVs o1) i)) k = σ (oNum (oVec (oVs o2) i)) k) ∧ τ (oCon o1) i = σ (oCon o2) i) ∧ (¬ σ (oNum (oVec (oVs o1) i)) i < σ (oNum (oVec (oVs o2) i)) i → τ (oNum (oVec (oVs o1) i)) = σ (oNum (oVec (oVs o1) i)) ∧ τ (oCon o1) i = σ (oCon o1) i)) ∧ OutE τ σ o1 13 ∧ h' = xH D b τ)) args s 0 0 (fun q => b ≤ q)) n (xH D b τ) 4 [some (.ref (b + o1)), some (.ref (b + o2)), some (.int (nI z)), some (.int (nI j))] [] := by
    intro d
    induction d with
    | zero => intro j z τ h; exact absurd h (Nat.not_lt_zero _)
    | succ d ih4 =>
      intro j z τ hd4 hj hz hA hB hF
      refine xi_iload_n hC dX1_replaceByLater_4 (pc' := 5) rfl rfl rfl ?_
      refine xi_iconst (v := nI 5) hC dX1_replaceByLater_5 (pc' := 6) rfl (by decide +kernel) ?_
      refine xn_icmpge (tgt := 70) hC dX1_replaceByLater_6 (pc' := 9) rfl (by decide) (by omega) (by omega) (fun zc6 => ?_) (fun zc6 => ?_)
      · skip
        refine xi_iload_n hC dX1_replaceByLater_70 (pc' := 71) rfl rfl rfl ?_
        refine xi_ireturn hC dX1_replaceByLater_71 hr rfl ?_
        obtain rfl : j = 5 := by omega
        exact ⟨by rw [hz], τ, hA, hF, rfl⟩
      · skip
        refine xi_aload_n hC dX1_replaceByLater_9 (pc' := 10) rfl rfl rfl ?_
        refine xg1_vectors hC dX1_replaceByLater_10 (pc' := 13) rfl xw_f_X1_11 h2 ?_
        refine xi_iload_n hC dX1_replaceByLater_13 (pc' := 14) rfl rfl rfl ?_
        refine xa_vectors hC dX1_replaceByLater_14 (pc' := 15) rfl (kd_oVs h2) rfl (by omega) ?_
        refine xg5_numbers hC dX1_replaceByLater_15 (pc' := 18) rfl xw_f_X1_29 (kd_oVec (kd_oVs h2) (by omega)) ?_
        refine xi_iload_n hC dX1_replaceByLater_18 (pc' := 19) rfl rfl rfl ?_
        refine xl_i hC dX1_replaceByLater_19 (pc' := 20) rfl (N := 5) (kd_oNum (kd_oVec (kd_oVs h2) (by omega))) (by decide) rfl (by omega) ?_
        refine xi_aload_n hC dX1_replaceByLater_20 (pc' := 21) rfl rfl rfl ?_
        refine xg1_vectors hC dX1_replaceByLater_21 (pc' := 24) rfl xw_f_X1_11 h1 ?_
        refine xi_iload_n hC dX1_replaceByLater_24 (pc' := 25) rfl rfl rfl ?_
        refine xa_vectors hC dX1_replaceByLater_25 (pc' := 26) rfl (kd_oVs h1) rfl (by omega) ?_
        refine xg5_numbers hC dX1_replaceByLater_26 (pc' := 29) rfl xw_f_X1_29 (kd_oVec (kd_oVs h1) (by omega)) ?_
        refine xi_iload_n hC dX1_replaceByLater_29 (pc' := 30) rfl rfl rfl ?_
        refine xl_i hC dX1_replaceByLater_30 (pc' := 31) rfl (N := 5) (kd_oNum (kd_oVec (kd_oVs h1) (by omega))) (by decide) rfl (by omega) ?_
        refine xi_icmple (tgt := 64) hC dX1_replaceByLater_31 (pc' := 34) rfl (by decide) (fun zc31 => ?_) (fun zc31 => ?_)
        · skip
          have hc := zc31
          rw [hF _ (by first | (simp only [oMs, oVws, oScr, oSgn, oMod, oMem, oSig, oKno, oPro, oBox, oFst, oSnd, oLts, oLet, oNum, oVw, oEnt, oBef, oBk, oVs, oCon, oVec, m_row, m_keptOf, m_keptRow, m_viewOf, m_alarmOf, m_hasProof, m_depthOf, m_proofOf, m_signedOf, m_knownOf, m_doneOf, m_shownTo, m_sentBy, m_hasRead, m_readOf, m_lettersOf, m_letter, m_hand, m_text] <;> omega) | decide | omega | (simp only [oMs, oVws, oScr, oSgn, oMod, oMem, oSig, oKno, oPro, oBox, oFst, oSnd, oLts, oLet, oNum, oVw, oEnt, oBef, oBk, oVs, oCon, oVec, m_row, m_keptOf, m_keptRow, m_viewOf, m_alarmOf, m_hasProof, m_depthOf, m_proofOf, m_signedOf, m_knownOf, m_doneOf, m_shownTo, m_sentBy, m_hasRead, m_readOf, m_lettersOf, m_letter, m_hand, m_text] at * <;> omega)), (hB j (Nat.le_refl _) (by omega)).1] at hc
          refine xn_iinc (lv' := [some (.ref (b + o1)), some (.ref (b + o2)), some (.int (nI z)), some (.int (nI (j + 1)))]) hC dX1_replaceByLater_64 (pc' := 67) rfl rfl (by decide) rfl ?_
          refine xi_goto (tgt := 4) hC dX1_replaceByLater_67 (by decide) ?_
          refine ih4 _ _ _ (by omega) ?_ ?_ ?_ ?_ ?_
          · omega
          · first
              | exact (by rw [hz, xcnt_t (i_not_le.mp hc)])
              | exact (by rw [hz, xcnt_f (i_not_lt.mpr hc)])
          · intro i hi
            by_cases hij : i = j
            · subst hij
              first
                | (refine ⟨fun _ => ⟨fun k hk => ?_, ?_⟩, fun q => absurd (i_not_le.mp hc) q⟩
                   · rw [sw_n (by first | (simp only [oMs, oVws, oScr, oSgn, oMod, oMem, oSig, oKno, oPro, oBox, oFst, oSnd, oLts, oLet, oNum, oVw, oEnt, oBef, oBk, oVs, oCon, oVec, m_row, m_keptOf, m_keptRow, m_viewOf, m_alarmOf, m_hasProof, m_depthOf, m_proofOf, m_signedOf, m_knownOf, m_doneOf, m_shownTo, m_sentBy, m_hasRead, m_readOf, m_lettersOf, m_letter, m_hand, m_text] <;> omega) | decide | omega | (simp only [oMs, oVws, oScr, oSgn, oMod, oMem, oSig, oKno, oPro, oBox, oFst, oSnd, oLts, oLet, oNum, oVw, oEnt, oBef, oBk, oVs, oCon, oVec, m_row, m_keptOf, m_keptRow, m_viewOf, m_alarmOf, m_hasProof, m_depthOf, m_proofOf, m_signedOf, m_knownOf, m_doneOf, m_shownTo, m_sentBy, m_hasRead, m_readOf, m_lettersOf, m_letter, m_hand, m_text] at * <;> omega)), su_s, hg_2 k hk, hF _ (by first | (simp only [oMs, oVws, oScr, oSgn, oMod, oMem, oSig, oKno, oPro, oBox, oFst, oSnd, oLts, oLet, oNum, oVw, oEnt, oBef, oBk, oVs, oCon, oVec, m_row, m_keptOf, m_keptRow, m_viewOf, m_alarmOf, m_hasProof, m_depthOf, m_proofOf, m_signedOf, m_knownOf, m_doneOf, m_shownTo, m_sentBy, m_hasRead, m_readOf, m_lettersOf, m_letter, m_hand, m_text] <;> omega) | decide | omega | (simp only [oMs, oVws, oScr, oSgn, oMod, oMem, oSig, oKno, oPro, oBox, oFst, oSnd, oLts, oLet, oNum, oVw, oEnt, oBef, oBk, oVs, oCon, oVec, m_row, m_keptOf, m_keptRow, m_viewOf, m_alarmOf, m_hasProof, m_depthOf, m_proofOf, m_signedOf, m_knownOf, m_doneOf, m_shownTo, m_sentBy, m_hasRead, m_readOf, m_lettersOf, m_letter, m_hand, m_text] at * <;> omega))]
                   · rw [sw_s, hF _ (by first | (simp only [oMs, oVws, oScr, oSgn, oMod, oMem, oSig, oKno, oPro, oBox, oFst, oSnd, oLts, oLet, oNum, oVw, oEnt, oBef, oBk, oVs, oCon, oVec, m_row, m_keptOf, m_keptRow, m_viewOf, m_alarmOf, m_hasProof, m_depthOf, m_proofOf, m_signedOf, m_knownOf, m_doneOf, m_shownTo, m_sentBy, m_hasRead, m_readOf, m_lettersOf, m_letter, m_hand, m_text] <;> omega) | decide | omega | (simp only [oMs, oVws, oScr, oSgn, oMod, oMem, oSig, oKno, oPro, oBox, oFst, oSnd, oLts, oLet, oNum, oVw, oEnt, oBef, oBk, oVs, oCon, oVec, m_row, m_keptOf, m_keptRow, m_viewOf, m_alarmOf, m_hasProof, m_depthOf, m_proofOf, m_signedOf, m_knownOf, m_doneOf, m_shownTo, m_sentBy, m_hasRead, m_readOf, m_lettersOf, m_letter, m_hand, m_text] at * <;> omega))])
                | exact ⟨fun q => absurd q (i_not_lt.mpr hc), fun _ => hB i (Nat.le_refl _) (by omega)⟩
            · first
                | (rw [sw_n (q := oNum (oVec (oVs o1) i)) (by first | (simp only [oMs, oVws, oScr, oSgn, oMod, oMem, oSig, oKno, oPro, oBox, oFst, oSnd, oLts, oLet, oNum, oVw, oEnt, oBef, oBk, oVs, oCon, oVec, m_row, m_keptOf, m_keptRow, m_viewOf, m_alarmOf, m_hasProof, m_depthOf, m_proofOf, m_signedOf, m_knownOf, m_doneOf, m_shownTo, m_sentBy, m_hasRead, m_readOf, m_lettersOf, m_letter, m_hand, m_text] <;> omega) | decide | omega | (simp only [oMs, oVws, oScr, oSgn, oMod, oMem, oSig, oKno, oPro, oBox, oFst, oSnd, oLts, oLet, oNum, oVw, oEnt, oBef, oBk, oVs, oCon, oVec, m_row, m_keptOf, m_keptRow, m_viewOf, m_alarmOf, m_hasProof, m_depthOf, m_proofOf, m_signedOf, m_knownOf, m_doneOf, m_shownTo, m_sentBy, m_hasRead, m_readOf, m_lettersOf, m_letter, m_hand, m_text] at * <;> omega)), su_n (q := oNum (oVec (oVs o1) i)) (by first | (simp only [oMs, oVws, oScr, oSgn, oMod, oMem, oSig, oKno, oPro, oBox, oFst, oSnd, oLts, oLet, oNum, oVw, oEnt, oBef, oBk, oVs, oCon, oVec, m_row, m_keptOf, m_keptRow, m_viewOf, m_alarmOf, m_hasProof, m_depthOf, m_proofOf, m_signedOf, m_knownOf, m_doneOf, m_shownTo, m_sentBy, m_hasRead, m_readOf, m_lettersOf, m_letter, m_hand, m_text] <;> omega) | decide | omega | (simp only [oMs, oVws, oScr, oSgn, oMod, oMem, oSig, oKno, oPro, oBox, oFst, oSnd, oLts, oLet, oNum, oVw, oEnt, oBef, oBk, oVs, oCon, oVec, m_row, m_keptOf, m_keptRow, m_viewOf, m_alarmOf, m_hasProof, m_depthOf, m_proofOf, m_signedOf, m_knownOf, m_doneOf, m_shownTo, m_sentBy, m_hasRead, m_readOf, m_lettersOf, m_letter, m_hand, m_text] at * <;> omega)), sw_k hij, su_n (q := oCon o1) (by first | (simp only [oMs, oVws, oScr, oSgn, oMod, oMem, oSig, oKno, oPro, oBox, oFst, oSnd, oLts, oLet, oNum, oVw, oEnt, oBef, oBk, oVs, oCon, oVec, m_row, m_keptOf, m_keptRow, m_viewOf, m_alarmOf, m_hasProof, m_depthOf, m_proofOf, m_signedOf, m_knownOf, m_doneOf, m_shownTo, m_sentBy, m_hasRead, m_readOf, m_lettersOf, m_letter, m_hand, m_text] <;> omega) | decide | omega | (simp only [oMs, oVws, oScr, oSgn, oMod, oMem, oSig, oKno, oPro, oBox, oFst, oSnd, oLts, oLet, oNum, oVw, oEnt, oBef, oBk, oVs, oCon, oVec, m_row, m_keptOf, m_keptRow, m_viewOf, m_alarmOf, m_hasProof, m_depthOf, m_proofOf, m_signedOf, m_knownOf, m_doneOf, m_shownTo, m_sentBy, m_hasRead, m_readOf, m_lettersOf, m_letter, m_hand, m_text] at * <;> omega))]; exact hA i (by omega))
                | exact hA i (by omega)
          · intro i hi h5
            first
              | (rw [sw_n (q := oNum (oVec (oVs o1) i)) (by first | (simp only [oMs, oVws, oScr, oSgn, oMod, oMem, oSig, oKno, oPro, oBox, oFst, oSnd, oLts, oLet, oNum, oVw, oEnt, oBef, oBk, oVs, oCon, oVec, m_row, m_keptOf, m_keptRow, m_viewOf, m_alarmOf, m_hasProof, m_depthOf, m_proofOf, m_signedOf, m_knownOf, m_doneOf, m_shownTo, m_sentBy, m_hasRead, m_readOf, m_lettersOf, m_letter, m_hand, m_text] <;> omega) | decide | omega | (simp only [oMs, oVws, oScr, oSgn, oMod, oMem, oSig, oKno, oPro, oBox, oFst, oSnd, oLts, oLet, oNum, oVw, oEnt, oBef, oBk, oVs, oCon, oVec, m_row, m_keptOf, m_keptRow, m_viewOf, m_alarmOf, m_hasProof, m_depthOf, m_proofOf, m_signedOf, m_knownOf, m_doneOf, m_shownTo, m_sentBy, m_hasRead, m_readOf, m_lettersOf, m_letter, m_hand, m_text] at * <;> omega)), su_n (q := oNum (oVec (oVs o1) i)) (by first | (simp only [oMs, oVws, oScr, oSgn, oMod, oMem, oSig, oKno, oPro, oBox, oFst, oSnd, oLts, oLet, oNum, oVw, oEnt, oBef, oBk, oVs, oCon, oVec, m_row, m_keptOf, m_keptRow, m_viewOf, m_alarmOf, m_hasProof, m_depthOf, m_proofOf, m_signedOf, m_knownOf, m_doneOf, m_shownTo, m_sentBy, m_hasRead, m_readOf, m_lettersOf, m_letter, m_hand, m_text] <;> omega) | decide | omega | (simp only [oMs, oVws, oScr, oSgn, oMod, oMem, oSig, oKno, oPro, oBox, oFst, oSnd, oLts, oLet, oNum, oVw, oEnt, oBef, oBk, oVs, oCon, oVec, m_row, m_keptOf, m_keptRow, m_viewOf, m_alarmOf, m_hasProof, m_depthOf, m_proofOf, m_signedOf, m_knownOf, m_doneOf, m_shownTo, m_sentBy, m_hasRead, m_readOf, m_lettersOf, m_letter, m_hand, m_text] at * <;> omega)), sw_k (show i ≠ j by omega), su_n (q := oCon o1) (by first | (simp only [oMs, oVws, oScr, oSgn, oMod, oMem, oSig, oKno, oPro, oBox, oFst, oSnd, oLts, oLet, oNum, oVw, oEnt, oBef, oBk, oVs, oCon, oVec, m_row, m_keptOf, m_keptRow, m_viewOf, m_alarmOf, m_hasProof, m_depthOf, m_proofOf, m_signedOf, m_knownOf, m_doneOf, m_shownTo, m_sentBy, m_hasRead, m_readOf, m_lettersOf, m_letter, m_hand, m_text] <;> omega) | decide | omega | (simp only [oMs, oVws, oScr, oSgn, oMod, oMem, oSig, oKno, oPro, oBox, oFst, oSnd, oLts, oLet, oNum, oVw, oEnt, oBef, oBk, oVs, oCon, oVec, m_row, m_keptOf, m_keptRow, m_viewOf, m_alarmOf, m_hasProof, m_depthOf, m_proofOf, m_signedOf, m_knownOf, m_doneOf, m_shownTo, m_sentBy, m_hasRead, m_readOf, m_lettersOf, m_letter, m_hand, m_text] at * <;> omega))]; exact hB i (by omega) h5)
              | exact hB i (by omega) h5
          · intro q hq
            first
              | (rw [sw_n (by first | (simp only [oMs, oVws, oScr, oSgn, oMod, oMem, oSig, oKno, oPro, oBox, oFst, oSnd, oLts, oLet, oNum, oVw, oEnt, oBef, oBk, oVs, oCon, oVec, m_row, m_keptOf, m_keptRow, m_viewOf, m_alarmOf, m_hasProof, m_depthOf, m_proofOf, m_signedOf, m_knownOf, m_doneOf, m_shownTo, m_sentBy, m_hasRead, m_readOf, m_lettersOf, m_letter, m_hand, m_text] <;> omega) | decide | omega | (simp only [oMs, oVws, oScr, oSgn, oMod, oMem, oSig, oKno, oPro, oBox, oFst, oSnd, oLts, oLet, oNum, oVw, oEnt, oBef, oBk, oVs, oCon, oVec, m_row, m_keptOf, m_keptRow, m_viewOf, m_alarmOf, m_hasProof, m_depthOf, m_proofOf, m_signedOf, m_knownOf, m_doneOf, m_shownTo, m_sentBy, m_hasRead, m_readOf, m_lettersOf, m_letter, m_hand, m_text] at * <;> omega)), su_n (by first | (simp only [oMs, oVws, oScr, oSgn, oMod, oMem, oSig, oKno, oPro, oBox, oFst, oSnd, oLts, oLet, oNum, oVw, oEnt, oBef, oBk, oVs, oCon, oVec, m_row, m_keptOf, m_keptRow, m_viewOf, m_alarmOf, m_hasProof, m_depthOf, m_proofOf, m_signedOf, m_knownOf, m_doneOf, m_shownTo, m_sentBy, m_hasRead, m_readOf, m_lettersOf, m_letter, m_hand, m_text] <;> omega) | decide | omega | (simp only [oMs, oVws, oScr, oSgn, oMod, oMem, oSig, oKno, oPro, oBox, oFst, oSnd, oLts, oLet, oNum, oVw, oEnt, oBef, oBk, oVs, oCon, oVec, m_row, m_keptOf, m_keptRow, m_viewOf, m_alarmOf, m_hasProof, m_depthOf, m_proofOf, m_signedOf, m_knownOf, m_doneOf, m_shownTo, m_sentBy, m_hasRead, m_readOf, m_lettersOf, m_letter, m_hand, m_text] at * <;> omega))]; exact hF q hq)
              | exact hF q hq
        · skip
          have hc := zc31
          rw [hF _ (by first | (simp only [oMs, oVws, oScr, oSgn, oMod, oMem, oSig, oKno, oPro, oBox, oFst, oSnd, oLts, oLet, oNum, oVw, oEnt, oBef, oBk, oVs, oCon, oVec, m_row, m_keptOf, m_keptRow, m_viewOf, m_alarmOf, m_hasProof, m_depthOf, m_proofOf, m_signedOf, m_knownOf, m_doneOf, m_shownTo, m_sentBy, m_hasRead, m_readOf, m_lettersOf, m_letter, m_hand, m_text] <;> omega) | decide | omega | (simp only [oMs, oVws, oScr, oSgn, oMod, oMem, oSig, oKno, oPro, oBox, oFst, oSnd, oLts, oLet, oNum, oVw, oEnt, oBef, oBk, oVs, oCon, oVec, m_row, m_keptOf, m_keptRow, m_viewOf, m_alarmOf, m_hasProof, m_depthOf, m_proofOf, m_signedOf, m_knownOf, m_doneOf, m_shownTo, m_sentBy, m_hasRead, m_readOf, m_lettersOf, m_letter, m_hand, m_text] at * <;> omega)), (hB j (Nat.le_refl _) (by omega)).1] at hc
          refine xi_aload_n hC dX1_replaceByLater_34 (pc' := 35) rfl rfl rfl ?_
          refine xg1_vectors hC dX1_replaceByLater_35 (pc' := 38) rfl xw_f_X1_11 h1 ?_
          refine xi_iload_n hC dX1_replaceByLater_38 (pc' := 39) rfl rfl rfl ?_
          refine xa_vectors hC dX1_replaceByLater_39 (pc' := 40) rfl (kd_oVs h1) rfl (by omega) ?_
          refine xi_aload_n hC dX1_replaceByLater_40 (pc' := 41) rfl rfl rfl ?_
          refine xg1_vectors hC dX1_replaceByLater_41 (pc' := 44) rfl xw_f_X1_11 h2 ?_
          refine xi_iload_n hC dX1_replaceByLater_44 (pc' := 45) rfl rfl rfl ?_
          refine xa_vectors hC dX1_replaceByLater_45 (pc' := 46) rfl (kd_oVs h2) rfl (by omega) ?_
          refine xi_callV (As := [.ref (b + (oVec (oVs o2) j))]) (rest := []) (c_X5_copyFrom l D b n (σ := τ) (kd_oVec (kd_oVs h1) (by omega)) (kd_oVec (kd_oVs h2) (by omega)) (by first | (simp only [oMs, oVws, oScr, oSgn, oMod, oMem, oSig, oKno, oPro, oBox, oFst, oSnd, oLts, oLet, oNum, oVw, oEnt, oBef, oBk, oVs, oCon, oVec, m_row, m_keptOf, m_keptRow, m_viewOf, m_alarmOf, m_hasProof, m_depthOf, m_proofOf, m_signedOf, m_knownOf, m_doneOf, m_shownTo, m_sentBy, m_hasRead, m_readOf, m_lettersOf, m_letter, m_hand, m_text] <;> omega) | decide | omega | (simp only [oMs, oVws, oScr, oSgn, oMod, oMem, oSig, oKno, oPro, oBox, oFst, oSnd, oLts, oLet, oNum, oVw, oEnt, oBef, oBk, oVs, oCon, oVec, m_row, m_keptOf, m_keptRow, m_viewOf, m_alarmOf, m_hasProof, m_depthOf, m_proofOf, m_signedOf, m_knownOf, m_doneOf, m_shownTo, m_sentBy, m_hasRead, m_readOf, m_lettersOf, m_letter, m_hand, m_text] at * <;> omega))) hC dX1_replaceByLater_46 (pc' := 49) rfl xw_m_X1_25 xw_c_X5_copyFrom xw_ins_X5_copyFrom xw_sel_X5_copyFrom xw_ini_X5 xd_X5_copyFrom (xH_at.trans (xsh_5 (kd_oVec (kd_oVs h1) (by omega)))) rfl ⟨Nat.le_of_ble_eq_true rfl, Nat.le_of_ble_eq_true rfl⟩ rfl (Nat.le_of_ble_eq_true rfl) ⟨Nat.le_of_ble_eq_true rfl, Nat.le_of_ble_eq_true rfl⟩ ?_
          rintro _ _ ⟨rfl, g_1, hg_2, rfl⟩
          show xV _ _ _ _ _ _ _ _ _ _ _ _ _ _ _ _ _ (xH D b (su τ (oNum (oVec (oVs o1) j)) g_1)) _ _ []
          refine xi_aload_n hC dX1_replaceByLater_49 (pc' := 50) rfl rfl rfl ?_
          refine xg1_contents hC dX1_replaceByLater_50 (pc' := 53) rfl xw_f_X1_17 h1 ?_
          refine xi_iload_n hC dX1_replaceByLater_53 (pc' := 54) rfl rfl rfl ?_
          refine xi_aload_n hC dX1_replaceByLater_54 (pc' := 55) rfl rfl rfl ?_
          refine xg1_contents hC dX1_replaceByLater_55 (pc' := 58) rfl xw_f_X1_17 h2 ?_
          refine xi_iload_n hC dX1_replaceByLater_58 (pc' := 59) rfl rfl rfl ?_
          refine xl_i hC dX1_replaceByLater_59 (pc' := 60) rfl (N := 5) (kd_oCon h2) (by decide) rfl (by omega) ?_
          refine xtop (y := (τ (oCon o2) j)) (by rw [su_n (q := (oCon o2)) (o := (oNum (oVec (oVs o1) j))) (by first | (simp only [oMs, oVws, oScr, oSgn, oMod, oMem, oSig, oKno, oPro, oBox, oFst, oSnd, oLts, oLet, oNum, oVw, oEnt, oBef, oBk, oVs, oCon, oVec, m_row, m_keptOf, m_keptRow, m_viewOf, m_alarmOf, m_hasProof, m_depthOf, m_proofOf, m_signedOf, m_knownOf, m_doneOf, m_shownTo, m_sentBy, m_hasRead, m_readOf, m_lettersOf, m_letter, m_hand, m_text] <;> omega) | decide | omega | (simp only [oMs, oVws, oScr, oSgn, oMod, oMem, oSig, oKno, oPro, oBox, oFst, oSnd, oLts, oLet, oNum, oVw, oEnt, oBef, oBk, oVs, oCon, oVec, m_row, m_keptOf, m_keptRow, m_viewOf, m_alarmOf, m_hasProof, m_depthOf, m_proofOf, m_signedOf, m_knownOf, m_doneOf, m_shownTo, m_sentBy, m_hasRead, m_readOf, m_lettersOf, m_letter, m_hand, m_text] at * <;> omega))]) ?_
          refine xs_i hC dX1_replaceByLater_60 (pc' := 61) rfl (N := 5) (kd_oCon h1) (by decide) rfl (by omega) ?_
          refine xn_iinc (lv' := [some (.ref (b + o1)), some (.ref (b + o2)), some (.int (nI (z + 1))), some (.int (nI j))]) hC dX1_replaceByLater_61 (pc' := 64) rfl rfl (by decide) rfl ?_
          refine xn_iinc (lv' := [some (.ref (b + o1)), some (.ref (b + o2)), some (.int (nI (z + 1))), some (.int (nI (j + 1)))]) hC dX1_replaceByLater_64 (pc' := 67) rfl rfl (by decide) rfl ?_
          refine xi_goto (tgt := 4) hC dX1_replaceByLater_67 (by decide) ?_
          refine ih4 _ _ _ (by omega) ?_ ?_ ?_ ?_ ?_
          · omega
          · first
              | exact (by rw [hz, xcnt_t (i_not_le.mp hc)])
              | exact (by rw [hz, xcnt_f (i_not_lt.mpr hc)])
          · intro i hi
            by_cases hij : i = j
            · subst hij
              first
                | (refine ⟨fun _ => ⟨fun k hk => ?_, ?_⟩, fun q => absurd (i_not_le.mp hc) q⟩
                   · rw [sw_n (by first | (simp only [oMs, oVws, oScr, oSgn, oMod, oMem, oSig, oKno, oPro, oBox, oFst, oSnd, oLts, oLet, oNum, oVw, oEnt, oBef, oBk, oVs, oCon, oVec, m_row, m_keptOf, m_keptRow, m_viewOf, m_alarmOf, m_hasProof, m_depthOf, m_proofOf, m_signedOf, m_knownOf, m_doneOf, m_shownTo, m_sentBy, m_hasRead, m_readOf, m_lettersOf, m_letter, m_hand, m_text] <;> omega) | decide | omega | (simp only [oMs, oVws, oScr, oSgn, oMod, oMem, oSig, oKno, oPro, oBox, oFst, oSnd, oLts, oLet, oNum, oVw, oEnt, oBef, oBk, oVs, oCon, oVec, m_row, m_keptOf, m_keptRow, m_viewOf, m_alarmOf, m_hasProof, m_depthOf, m_proofOf, m_signedOf, m_knownOf, m_doneOf, m_shownTo, m_sentBy, m_hasRead, m_readOf, m_lettersOf, m_letter, m_hand, m_text] at * <;> omega)), su_s, hg_2 k hk, hF _ (by first | (simp only [oMs, oVws, oScr, oSgn, oMod, oMem, oSig, oKno, oPro, oBox, oFst, oSnd, oLts, oLet, oNum, oVw, oEnt, oBef, oBk, oVs, oCon, oVec, m_row, m_keptOf, m_keptRow, m_viewOf, m_alarmOf, m_hasProof, m_depthOf, m_proofOf, m_signedOf, m_knownOf, m_doneOf, m_shownTo, m_sentBy, m_hasRead, m_readOf, m_lettersOf, m_letter, m_hand, m_text] <;> omega) | decide | omega | (simp only [oMs, oVws, oScr, oSgn, oMod, oMem, oSig, oKno, oPro, oBox, oFst, oSnd, oLts, oLet, oNum, oVw, oEnt, oBef, oBk, oVs, oCon, oVec, m_row, m_keptOf, m_keptRow, m_viewOf, m_alarmOf, m_hasProof, m_depthOf, m_proofOf, m_signedOf, m_knownOf, m_doneOf, m_shownTo, m_sentBy, m_hasRead, m_readOf, m_lettersOf, m_letter, m_hand, m_text] at * <;> omega))]
                   · rw [sw_s, hF _ (by first | (simp only [oMs, oVws, oScr, oSgn, oMod, oMem, oSig, oKno, oPro, oBox, oFst, oSnd, oLts, oLet, oNum, oVw, oEnt, oBef, oBk, oVs, oCon, oVec, m_row, m_keptOf, m_keptRow, m_viewOf, m_alarmOf, m_hasProof, m_depthOf, m_proofOf, m_signedOf, m_knownOf, m_doneOf, m_shownTo, m_sentBy, m_hasRead, m_readOf, m_lettersOf, m_letter, m_hand, m_text] <;> omega) | decide | omega | (simp only [oMs, oVws, oScr, oSgn, oMod, oMem, oSig, oKno, oPro, oBox, oFst, oSnd, oLts, oLet, oNum, oVw, oEnt, oBef, oBk, oVs, oCon, oVec, m_row, m_keptOf, m_keptRow, m_viewOf, m_alarmOf, m_hasProof, m_depthOf, m_proofOf, m_signedOf, m_knownOf, m_doneOf, m_shownTo, m_sentBy, m_hasRead, m_readOf, m_lettersOf, m_letter, m_hand, m_text] at * <;> omega))])
                | exact ⟨fun q => absurd q (i_not_lt.mpr hc), fun _ => hB i (Nat.le_refl _) (by omega)⟩
            · first
                | (rw [sw_n (q := oNum (oVec (oVs o1) i)) (by first | (simp only [oMs, oVws, oScr, oSgn, oMod, oMem, oSig, oKno, oPro, oBox, oFst, oSnd, oLts, oLet, oNum, oVw, oEnt, oBef, oBk, oVs, oCon, oVec, m_row, m_keptOf, m_keptRow, m_viewOf, m_alarmOf, m_hasProof, m_depthOf, m_proofOf, m_signedOf, m_knownOf, m_doneOf, m_shownTo, m_sentBy, m_hasRead, m_readOf, m_lettersOf, m_letter, m_hand, m_text] <;> omega) | decide | omega | (simp only [oMs, oVws, oScr, oSgn, oMod, oMem, oSig, oKno, oPro, oBox, oFst, oSnd, oLts, oLet, oNum, oVw, oEnt, oBef, oBk, oVs, oCon, oVec, m_row, m_keptOf, m_keptRow, m_viewOf, m_alarmOf, m_hasProof, m_depthOf, m_proofOf, m_signedOf, m_knownOf, m_doneOf, m_shownTo, m_sentBy, m_hasRead, m_readOf, m_lettersOf, m_letter, m_hand, m_text] at * <;> omega)), su_n (q := oNum (oVec (oVs o1) i)) (by first | (simp only [oMs, oVws, oScr, oSgn, oMod, oMem, oSig, oKno, oPro, oBox, oFst, oSnd, oLts, oLet, oNum, oVw, oEnt, oBef, oBk, oVs, oCon, oVec, m_row, m_keptOf, m_keptRow, m_viewOf, m_alarmOf, m_hasProof, m_depthOf, m_proofOf, m_signedOf, m_knownOf, m_doneOf, m_shownTo, m_sentBy, m_hasRead, m_readOf, m_lettersOf, m_letter, m_hand, m_text] <;> omega) | decide | omega | (simp only [oMs, oVws, oScr, oSgn, oMod, oMem, oSig, oKno, oPro, oBox, oFst, oSnd, oLts, oLet, oNum, oVw, oEnt, oBef, oBk, oVs, oCon, oVec, m_row, m_keptOf, m_keptRow, m_viewOf, m_alarmOf, m_hasProof, m_depthOf, m_proofOf, m_signedOf, m_knownOf, m_doneOf, m_shownTo, m_sentBy, m_hasRead, m_readOf, m_lettersOf, m_letter, m_hand, m_text] at * <;> omega)), sw_k hij, su_n (q := oCon o1) (by first | (simp only [oMs, oVws, oScr, oSgn, oMod, oMem, oSig, oKno, oPro, oBox, oFst, oSnd, oLts, oLet, oNum, oVw, oEnt, oBef, oBk, oVs, oCon, oVec, m_row, m_keptOf, m_keptRow, m_viewOf, m_alarmOf, m_hasProof, m_depthOf, m_proofOf, m_signedOf, m_knownOf, m_doneOf, m_shownTo, m_sentBy, m_hasRead, m_readOf, m_lettersOf, m_letter, m_hand, m_text] <;> omega) | decide | omega | (simp only [oMs, oVws, oScr, oSgn, oMod, oMem, oSig, oKno, oPro, oBox, oFst, oSnd, oLts, oLet, oNum, oVw, oEnt, oBef, oBk, oVs, oCon, oVec, m_row, m_keptOf, m_keptRow, m_viewOf, m_alarmOf, m_hasProof, m_depthOf, m_proofOf, m_signedOf, m_knownOf, m_doneOf, m_shownTo, m_sentBy, m_hasRead, m_readOf, m_lettersOf, m_letter, m_hand, m_text] at * <;> omega))]; exact hA i (by omega))
                | exact hA i (by omega)
          · intro i hi h5
            first
              | (rw [sw_n (q := oNum (oVec (oVs o1) i)) (by first | (simp only [oMs, oVws, oScr, oSgn, oMod, oMem, oSig, oKno, oPro, oBox, oFst, oSnd, oLts, oLet, oNum, oVw, oEnt, oBef, oBk, oVs, oCon, oVec, m_row, m_keptOf, m_keptRow, m_viewOf, m_alarmOf, m_hasProof, m_depthOf, m_proofOf, m_signedOf, m_knownOf, m_doneOf, m_shownTo, m_sentBy, m_hasRead, m_readOf, m_lettersOf, m_letter, m_hand, m_text] <;> omega) | decide | omega | (simp only [oMs, oVws, oScr, oSgn, oMod, oMem, oSig, oKno, oPro, oBox, oFst, oSnd, oLts, oLet, oNum, oVw, oEnt, oBef, oBk, oVs, oCon, oVec, m_row, m_keptOf, m_keptRow, m_viewOf, m_alarmOf, m_hasProof, m_depthOf, m_proofOf, m_signedOf, m_knownOf, m_doneOf, m_shownTo, m_sentBy, m_hasRead, m_readOf, m_lettersOf, m_letter, m_hand, m_text] at * <;> omega)), su_n (q := oNum (oVec (oVs o1) i)) (by first | (simp only [oMs, oVws, oScr, oSgn, oMod, oMem, oSig, oKno, oPro, oBox, oFst, oSnd, oLts, oLet, oNum, oVw, oEnt, oBef, oBk, oVs, oCon, oVec, m_row, m_keptOf, m_keptRow, m_viewOf, m_alarmOf, m_hasProof, m_depthOf, m_proofOf, m_signedOf, m_knownOf, m_doneOf, m_shownTo, m_sentBy, m_hasRead, m_readOf, m_lettersOf, m_letter, m_hand, m_text] <;> omega) | decide | omega | (simp only [oMs, oVws, oScr, oSgn, oMod, oMem, oSig, oKno, oPro, oBox, oFst, oSnd, oLts, oLet, oNum, oVw, oEnt, oBef, oBk, oVs, oCon, oVec, m_row, m_keptOf, m_keptRow, m_viewOf, m_alarmOf, m_hasProof, m_depthOf, m_proofOf, m_signedOf, m_knownOf, m_doneOf, m_shownTo, m_sentBy, m_hasRead, m_readOf, m_lettersOf, m_letter, m_hand, m_text] at * <;> omega)), sw_k (show i ≠ j by omega), su_n (q := oCon o1) (by first | (simp only [oMs, oVws, oScr, oSgn, oMod, oMem, oSig, oKno, oPro, oBox, oFst, oSnd, oLts, oLet, oNum, oVw, oEnt, oBef, oBk, oVs, oCon, oVec, m_row, m_keptOf, m_keptRow, m_viewOf, m_alarmOf, m_hasProof, m_depthOf, m_proofOf, m_signedOf, m_knownOf, m_doneOf, m_shownTo, m_sentBy, m_hasRead, m_readOf, m_lettersOf, m_letter, m_hand, m_text] <;> omega) | decide | omega | (simp only [oMs, oVws, oScr, oSgn, oMod, oMem, oSig, oKno, oPro, oBox, oFst, oSnd, oLts, oLet, oNum, oVw, oEnt, oBef, oBk, oVs, oCon, oVec, m_row, m_keptOf, m_keptRow, m_viewOf, m_alarmOf, m_hasProof, m_depthOf, m_proofOf, m_signedOf, m_knownOf, m_doneOf, m_shownTo, m_sentBy, m_hasRead, m_readOf, m_lettersOf, m_letter, m_hand, m_text] at * <;> omega))]; exact hB i (by omega) h5)
              | exact hB i (by omega) h5
          · intro q hq
            first
              | (rw [sw_n (by first | (simp only [oMs, oVws, oScr, oSgn, oMod, oMem, oSig, oKno, oPro, oBox, oFst, oSnd, oLts, oLet, oNum, oVw, oEnt, oBef, oBk, oVs, oCon, oVec, m_row, m_keptOf, m_keptRow, m_viewOf, m_alarmOf, m_hasProof, m_depthOf, m_proofOf, m_signedOf, m_knownOf, m_doneOf, m_shownTo, m_sentBy, m_hasRead, m_readOf, m_lettersOf, m_letter, m_hand, m_text] <;> omega) | decide | omega | (simp only [oMs, oVws, oScr, oSgn, oMod, oMem, oSig, oKno, oPro, oBox, oFst, oSnd, oLts, oLet, oNum, oVw, oEnt, oBef, oBk, oVs, oCon, oVec, m_row, m_keptOf, m_keptRow, m_viewOf, m_alarmOf, m_hasProof, m_depthOf, m_proofOf, m_signedOf, m_knownOf, m_doneOf, m_shownTo, m_sentBy, m_hasRead, m_readOf, m_lettersOf, m_letter, m_hand, m_text] at * <;> omega)), su_n (by first | (simp only [oMs, oVws, oScr, oSgn, oMod, oMem, oSig, oKno, oPro, oBox, oFst, oSnd, oLts, oLet, oNum, oVw, oEnt, oBef, oBk, oVs, oCon, oVec, m_row, m_keptOf, m_keptRow, m_viewOf, m_alarmOf, m_hasProof, m_depthOf, m_proofOf, m_signedOf, m_knownOf, m_doneOf, m_shownTo, m_sentBy, m_hasRead, m_readOf, m_lettersOf, m_letter, m_hand, m_text] <;> omega) | decide | omega | (simp only [oMs, oVws, oScr, oSgn, oMod, oMem, oSig, oKno, oPro, oBox, oFst, oSnd, oLts, oLet, oNum, oVw, oEnt, oBef, oBk, oVs, oCon, oVec, m_row, m_keptOf, m_keptRow, m_viewOf, m_alarmOf, m_hasProof, m_depthOf, m_proofOf, m_signedOf, m_knownOf, m_doneOf, m_shownTo, m_sentBy, m_hasRead, m_readOf, m_lettersOf, m_letter, m_hand, m_text] at * <;> omega))]; exact hF q hq)
              | exact hF q hq
  refine L4 _ _ _ _ (Nat.lt_succ_self _) ?_ ?_ ?_ ?_ ?_
  · omega
  · rfl
  · intro i hi; omega
  · exact fun i _ _ => ⟨rfl, rfl⟩
  · exact fun q _ => rfl
set_option maxRecDepth 100000 in
set_option maxHeartbeats 4000000 in
theorem c_X1_areForked (l : Launch) (D : XD) (b n : Nat) {σ : XM} {o1 : Nat} (h1 : kd o1 = 1) : xM l yX1_areForked cX1_areForked 3 (some .boolean) 1 24 0 0 D b n [.ref (b + o1)] (xH D b σ) n (fun v h' => v = some (.int (bI (fkd 5 5 (xve σ o1)))) ∧ h' = xH D b σ) := by
  refine xM.of (lv := [some (.ref (b + o1)), none, none]) (by decide +kernel) rfl (List.forall_mem_cons.mpr ⟨rfl, fun _ h => absurd h List.not_mem_nil⟩) (Nat.le_of_ble_eq_true rfl) rfl ?_
  intro p e s m args below meth c hC hr hnm
  refine xi_iconst (v := nI 0) hC dX1_areForked_0 (pc' := 1) rfl (by decide +kernel) ?_
  refine xi_istore_n (lv' := [some (.ref (b + o1)), some (.int (nI 0)), none]) hC dX1_areForked_1 (pc' := 2) rfl rfl (by decide) rfl ?_
  have L2 : ∀ (d : Nat) (x : Nat) (v2 : Option Value), 5 - x < d → (x ≤ 5) → (∀ i j, i < x → i < j → j < 5 → ¬ rel 5 (xve σ o1 i) (xve σ o1 j) = 2) → xV p l e (xR 1 24 0 0) s m args below meth c D b 3 0 0 (MQ below (xQ D b n (fun v h' => v = some (.int (bI (fkd 5 5 (xve σ o1)))) ∧ h' = xH D b σ)) args s 0 0 (fun q => b ≤ q)) n (xH D b σ) 2 [some (.ref (b + o1)), some (.int (nI x)), v2] [] := by
    intro d
    induction d with
    | zero => intro x v2 h; exact absurd h (Nat.not_lt_zero _)
    | succ d ih2 =>
      intro x v2 hd2 hx hA
      refine xi_iload_n hC dX1_areForked_2 (pc' := 3) rfl rfl rfl ?_
      refine xi_iconst (v := nI 5) hC dX1_areForked_3 (pc' := 4) rfl (by decide +kernel) ?_
      refine xn_icmpge (tgt := 49) hC dX1_areForked_4 (pc' := 7) rfl (by decide) (by omega) (by omega) (fun zc4 => ?_) (fun zc4 => ?_)
      · skip
        refine xi_iconst (v := nI 0) hC dX1_areForked_49 (pc' := 50) rfl (by decide +kernel) ?_
        refine xb_ireturn hC dX1_areForked_50 hr (by decide) rfl ?_
        exact ⟨by rw [bI_f (show ¬ fkd 5 5 _ from fun ⟨i, j, q1, q2, q3⟩ => hA i j (by omega) q1 q2 q3)], rfl⟩
      · skip
        refine xi_iload_n hC dX1_areForked_7 (pc' := 8) rfl rfl rfl ?_
        refine xi_iconst (v := nI 1) hC dX1_areForked_8 (pc' := 9) rfl (by decide +kernel) ?_
        refine xn_iadd hC dX1_areForked_9 (pc' := 10) rfl ?_
        refine xi_istore_n (lv' := [some (.ref (b + o1)), some (.int (nI x)), some (.int (nI (x + 1)))]) hC dX1_areForked_10 (pc' := 11) rfl rfl (by decide) rfl ?_
        have L11 : ∀ (d : Nat) (y : Nat), 5 - y < d → (x < y ∧ y ≤ 5) → (∀ j, x < j → j < y → ¬ rel 5 (xve σ o1 x) (xve σ o1 j) = 2) → xV p l e (xR 1 24 0 0) s m args below meth c D b 3 0 0 (MQ below (xQ D b n (fun v h' => v = some (.int (bI (fkd 5 5 (xve σ o1)))) ∧ h' = xH D b σ)) args s 0 0 (fun q => b ≤ q)) n (xH D b σ) 11 [some (.ref (b + o1)), some (.int (nI x)), some (.int (nI y))] [] := by
          intro d
          induction d with
          | zero => intro y h; exact absurd h (Nat.not_lt_zero _)
          | succ d ih11 =>
            intro y hd11 hy hB
            refine xi_iload_n hC dX1_areForked_11 (pc' := 12) rfl rfl rfl ?_
            refine xi_iconst (v := nI 5) hC dX1_areForked_12 (pc' := 13) rfl (by decide +kernel) ?_
            refine xn_icmpge (tgt := 43) hC dX1_areForked_13 (pc' := 16) rfl (by decide) (by omega) (by omega) (fun zc13 => ?_) (fun zc13 => ?_)
            · skip
              refine xn_iinc (lv' := [some (.ref (b + o1)), some (.int (nI (x + 1))), some (.int (nI y))]) hC dX1_areForked_43 (pc' := 46) rfl rfl (by decide) rfl ?_
              refine xi_goto (tgt := 2) hC dX1_areForked_46 (by decide) ?_
              refine ih2 _ _ (by omega) ?_ ?_
              · omega
              · intro i j q1 q2 q3
                rcases Nat.lt_or_ge i x with z | z
                · exact hA i j z q2 q3
                · obtain rfl : i = x := by omega
                  exact hB j q2 (by omega)
            · skip
              refine xi_aload_n hC dX1_areForked_16 (pc' := 17) rfl rfl rfl ?_
              refine xg1_vectors hC dX1_areForked_17 (pc' := 20) rfl xw_f_X1_11 h1 ?_
              refine xi_iload_n hC dX1_areForked_20 (pc' := 21) rfl rfl rfl ?_
              refine xa_vectors hC dX1_areForked_21 (pc' := 22) rfl (kd_oVs h1) rfl (by omega) ?_
              refine xi_aload_n hC dX1_areForked_22 (pc' := 23) rfl rfl rfl ?_
              refine xg1_vectors hC dX1_areForked_23 (pc' := 26) rfl xw_f_X1_11 h1 ?_
              refine xi_iload_n hC dX1_areForked_26 (pc' := 27) rfl rfl rfl ?_
              refine xa_vectors hC dX1_areForked_27 (pc' := 28) rfl (kd_oVs h1) rfl (by omega) ?_
              refine xi_callV (As := [.ref (b + (oVec (oVs o1) y))]) (rest := []) (c_X5_relationTo l D b n (σ := σ) (kd_oVec (kd_oVs h1) (by omega)) (kd_oVec (kd_oVs h1) (by omega))) hC dX1_areForked_28 (pc' := 31) rfl xw_m_X1_32 xw_c_X5_relationTo xw_ins_X5_relationTo xw_sel_X5_relationTo xw_ini_X5 xd_X5_relationTo (xH_at.trans (xsh_5 (kd_oVec (kd_oVs h1) (by omega)))) rfl ⟨Nat.le_of_ble_eq_true rfl, Nat.le_of_ble_eq_true rfl⟩ rfl (Nat.le_of_ble_eq_true rfl) ⟨Nat.le_of_ble_eq_true rfl, Nat.le_of_ble_eq_true rfl⟩ ?_
              rintro _ _ ⟨rfl, rfl⟩
              show xV _ _ _ _ _ _ _ _ _ _ _ _ _ _ _ _ _ (xH D b σ) _ _ [.int (rel 5 (σ (oNum (oVec (oVs o1) x))) (σ (oNum (oVec (oVs o1) y))))]
              refine xi_iconst (v := nI 2) hC dX1_areForked_31 (pc' := 32) rfl (by decide +kernel) ?_
              refine xi_icmpne (tgt := 37) hC dX1_areForked_32 (pc' := 35) rfl (by decide) (fun zc32 => ?_) (fun zc32 => ?_)
              · skip
                refine xn_iinc (lv' := [some (.ref (b + o1)), some (.int (nI x)), some (.int (nI (y + 1)))]) hC dX1_areForked_37 (pc' := 40) rfl rfl (by decide) rfl ?_
                refine xi_goto (tgt := 11) hC dX1_areForked_40 (by decide) ?_
                refine ih11 _ (by omega) ?_ ?_
                · omega
                · intro j q1 q2
                  rcases Nat.lt_or_ge j y with z | z
                  · exact hB j q1 z
                  · obtain rfl : j = y := by omega
                    exact fun z => zc32 (z.trans (by decide))
              · skip
                refine xi_iconst (v := nI 1) hC dX1_areForked_35 (pc' := 36) rfl (by decide +kernel) ?_
                refine xb_ireturn hC dX1_areForked_36 hr (by decide) rfl ?_
                exact ⟨by rw [bI_t (show fkd 5 5 _ from ⟨x, y, hy.1, by omega, zc32.trans (by decide)⟩)], rfl⟩
        refine L11 _ _ (Nat.lt_succ_self _) ?_ ?_
        · omega
        · intro j q1 q2; omega
  refine L2 _ _ _ (Nat.lt_succ_self _) ?_ ?_
  · omega
  · intro i j q; omega
set_option maxRecDepth 100000 in
set_option maxHeartbeats 4000000 in
theorem c_X1_greatest (l : Launch) (D : XD) (b n : Nat) {σ : XM} {o1 : Nat} (h1 : kd o1 = 1) : xM l yX1_greatest cX1_greatest 3 (some (.object "ForkedStore$VersionVector")) 1 22 0 0 D b n [.ref (b + o1)] (xH D b σ) n (fun v h' => ∃ g, g < 5 ∧ g = gix (fun a c => vle 5 (xve σ o1 a) (xve σ o1 c)) 4 ∧ v = some (.ref (b + oVec (oVs o1) g)) ∧ h' = xH D b σ) := by
  refine xM.of (lv := [some (.ref (b + o1)), none, none]) (by decide +kernel) rfl (List.forall_mem_cons.mpr ⟨rfl, fun _ h => absurd h List.not_mem_nil⟩) (Nat.le_of_ble_eq_true rfl) rfl ?_
  intro p e s m args below meth c hC hr hnm
  refine xi_aload_n hC dX1_greatest_0 (pc' := 1) rfl rfl rfl ?_
  refine xg1_vectors hC dX1_greatest_1 (pc' := 4) rfl xw_f_X1_11 h1 ?_
  refine xi_iconst (v := nI 0) hC dX1_greatest_4 (pc' := 5) rfl (by decide +kernel) ?_
  refine xa_vectors hC dX1_greatest_5 (pc' := 6) rfl (kd_oVs h1) rfl (by omega) ?_
  refine xi_astore_n (lv' := [some (.ref (b + o1)), some (.ref (b + (oVec (oVs o1) 0))), none]) hC dX1_greatest_6 (pc' := 7) rfl rfl (by decide) rfl ?_
  refine xi_iconst (v := nI 1) hC dX1_greatest_7 (pc' := 8) rfl (by decide +kernel) ?_
  refine xi_istore_n (lv' := [some (.ref (b + o1)), some (.ref (b + (oVec (oVs o1) 0))), some (.int (nI 1))]) hC dX1_greatest_8 (pc' := 9) rfl rfl (by decide) rfl ?_
  have L9 : ∀ (d : Nat) (j : Nat) (g : Nat), 4 - j < d → (j ≤ 4) → (g < 5) → (g = gix (fun a c => vle 5 (xve σ o1 a) (xve σ o1 c)) j) → xV p l e (xR 1 22 0 0) s m args below meth c D b 3 0 0 (MQ below (xQ D b n (fun v h' => ∃ g, g < 5 ∧ g = gix (fun a c => vle 5 (xve σ o1 a) (xve σ o1 c)) 4 ∧ v = some (.ref (b + oVec (oVs o1) g)) ∧ h' = xH D b σ)) args s 0 0 (fun q => b ≤ q)) n (xH D b σ) 9 [some (.ref (b + o1)), some (.ref (b + (oVec (oVs o1) g))), some (.int (nI (j + 1)))] [] := by
    intro d
    induction d with
    | zero => intro j g h; exact absurd h (Nat.not_lt_zero _)
    | succ d ih9 =>
      intro j g hd9 hj hg eg
      refine xi_iload_n hC dX1_greatest_9 (pc' := 10) rfl rfl rfl ?_
      refine xi_iconst (v := nI 5) hC dX1_greatest_10 (pc' := 11) rfl (by decide +kernel) ?_
      refine xn_icmpge (tgt := 40) hC dX1_greatest_11 (pc' := 14) rfl (by decide) (by omega) (by omega) (fun zc11 => ?_) (fun zc11 => ?_)
      · skip
        refine xi_aload_n hC dX1_greatest_40 (pc' := 41) rfl rfl rfl ?_
        refine xi_areturn hC dX1_greatest_41 hr rfl ?_
        obtain rfl : j = 4 := by omega
        exact ⟨g, hg, eg, rfl, rfl⟩
      · skip
        refine xi_aload_n hC dX1_greatest_14 (pc' := 15) rfl rfl rfl ?_
        refine xi_aload_n hC dX1_greatest_15 (pc' := 16) rfl rfl rfl ?_
        refine xg1_vectors hC dX1_greatest_16 (pc' := 19) rfl xw_f_X1_11 h1 ?_
        refine xi_iload_n hC dX1_greatest_19 (pc' := 20) rfl rfl rfl ?_
        refine xa_vectors hC dX1_greatest_20 (pc' := 21) rfl (kd_oVs h1) rfl (by omega) ?_
        refine xi_callV (As := [.ref (b + (oVec (oVs o1) (j + 1)))]) (rest := []) (c_X5_isAtMost l D b n (σ := σ) (kd_oVec (kd_oVs h1) hg) (kd_oVec (kd_oVs h1) (by omega))) hC dX1_greatest_21 (pc' := 24) rfl xw_m_X1_36 xw_c_X5_isAtMost xw_ins_X5_isAtMost xw_sel_X5_isAtMost xw_ini_X5 xd_X5_isAtMost (xH_at.trans (xsh_5 (kd_oVec (kd_oVs h1) hg))) rfl ⟨Nat.le_of_ble_eq_true rfl, Nat.le_of_ble_eq_true rfl⟩ rfl (Nat.le_of_ble_eq_true rfl) ⟨Nat.le_of_ble_eq_true rfl, Nat.le_of_ble_eq_true rfl⟩ ?_
        rintro _ _ ⟨rfl, rfl⟩
        show xV _ _ _ _ _ _ _ _ _ _ _ _ _ _ _ _ _ (xH D b σ) _ _ [.int (bI (vle 5 (σ (oNum (oVec (oVs o1) g))) (σ (oNum (oVec (oVs o1) (j + 1))))))]
        refine xb_ifeq (tgt := 34) hC dX1_greatest_24 (pc' := 27) rfl (by decide) (fun zc24 => ?_) (fun zc24 => ?_)
        · skip
          refine xn_iinc (lv' := [some (.ref (b + o1)), some (.ref (b + (oVec (oVs o1) g))), some (.int (nI (j + 1 + 1)))]) hC dX1_greatest_34 (pc' := 37) rfl rfl (by decide) rfl ?_
          refine xi_goto (tgt := 9) hC dX1_greatest_37 (by decide) ?_
          refine ih9 _ _ (by omega) ?_ ?_ ?_
          · omega
          · omega
          · first | (rw [gix_t (by rw [← eg]; exact zc24)]) | (rw [gix_f (by rw [← eg]; exact zc24)]; exact eg)
        · skip
          refine xi_aload_n hC dX1_greatest_27 (pc' := 28) rfl rfl rfl ?_
          refine xg1_vectors hC dX1_greatest_28 (pc' := 31) rfl xw_f_X1_11 h1 ?_
          refine xi_iload_n hC dX1_greatest_31 (pc' := 32) rfl rfl rfl ?_
          refine xa_vectors hC dX1_greatest_32 (pc' := 33) rfl (kd_oVs h1) rfl (by omega) ?_
          refine xi_astore_n (lv' := [some (.ref (b + o1)), some (.ref (b + (oVec (oVs o1) (j + 1)))), some (.int (nI (j + 1)))]) hC dX1_greatest_33 (pc' := 34) rfl rfl (by decide) rfl ?_
          refine xn_iinc (lv' := [some (.ref (b + o1)), some (.ref (b + (oVec (oVs o1) (j + 1)))), some (.int (nI (j + 1 + 1)))]) hC dX1_greatest_34 (pc' := 37) rfl rfl (by decide) rfl ?_
          refine xi_goto (tgt := 9) hC dX1_greatest_37 (by decide) ?_
          refine ih9 _ _ (by omega) ?_ ?_ ?_
          · omega
          · omega
          · first | (rw [gix_t (by rw [← eg]; exact zc24)]) | (rw [gix_f (by rw [← eg]; exact zc24)]; exact eg)
  refine L9 _ _ _ (Nat.lt_succ_self _) ?_ ?_ ?_
  · omega
  · omega
  · rfl
set_option maxRecDepth 100000 in
set_option maxHeartbeats 4000000 in
theorem c_X3_clear (l : Launch) (D : XD) (b n : Nat) {σ : XM} {o1 : Nat} (h1 : kd o1 = 3) : xM l yX3_clear cX3_clear 1 none 0 0 0 0 D b n [.ref (b + o1)] (xH D b σ) n (fun v h' => v = none ∧ h' = xH D b (sw σ o1 2 (nI 0))) := by
  refine xM.of (lv := [some (.ref (b + o1))]) (by decide +kernel) rfl (List.forall_mem_cons.mpr ⟨rfl, fun _ h => absurd h List.not_mem_nil⟩) (Nat.le_of_ble_eq_true rfl) rfl ?_
  intro p e s m args below meth c hC hr hnm
  refine xi_aload_n hC dX3_clear_0 (pc' := 1) rfl rfl rfl ?_
  refine xi_iconst (v := nI 0) hC dX3_clear_1 (pc' := 2) rfl (by decide +kernel) ?_
  refine xp3_isHeld hC dX3_clear_2 (pc' := 5) rfl xw_f_X3_19 h1 (by decide) ?_
  refine xi_return hC dX3_clear_5 hr rfl ?_
  exact ⟨rfl, rfl⟩
set_option maxRecDepth 100000 in
set_option maxHeartbeats 4000000 in
theorem c_X3_keepFirst (l : Launch) (D : XD) (b n : Nat) {σ : XM} {o1 q1 q2 : Nat} {x : Int32} (h1 : kd o1 = 3) (h2 : kd q1 = 5) (h3 : kd q2 = 5) (hne : q1 ≠ oFst o1 ∧ q2 ≠ oSnd o1 ∧ q2 ≠ oFst o1) : xM l yX3_keepFirst cX3_keepFirst 4 none 1 22 0 0 D b n [.ref (b + o1), .ref (b + q1), .ref (b + q2), .int x] (xH D b σ) n (fun v h' => v = none ∧ ∃ τ : XM, xKeep σ o1 x (σ (oNum q1)) (σ (oNum q2)) τ ∧ h' = xH D b τ) := by
  refine xM.of (lv := [some (.ref (b + o1)), some (.ref (b + q1)), some (.ref (b + q2)), some (.int x)]) (by decide +kernel) rfl (List.forall_mem_cons.mpr ⟨rfl, List.forall_mem_cons.mpr ⟨rfl, List.forall_mem_cons.mpr ⟨rfl, List.forall_mem_cons.mpr ⟨rfl, fun _ h => absurd h List.not_mem_nil⟩⟩⟩⟩) (Nat.le_of_ble_eq_true rfl) rfl ?_
  intro p e s m args below meth c hC hr hnm
  refine xi_aload_n hC dX3_keepFirst_0 (pc' := 1) rfl rfl rfl ?_
  refine xg3_isHeld hC dX3_keepFirst_1 (pc' := 4) rfl xw_f_X3_19 h1 ?_
  refine xi_ifeq (tgt := 8) hC dX3_keepFirst_4 (pc' := 7) rfl (by decide) (fun zc4 => ?_) (fun zc4 => ?_)
  · skip
    refine xi_aload_n hC dX3_keepFirst_8 (pc' := 9) rfl rfl rfl ?_
    refine xg3_first hC dX3_keepFirst_9 (pc' := 12) rfl xw_f_X3_10 h1 ?_
    refine xi_aload_n hC dX3_keepFirst_12 (pc' := 13) rfl rfl rfl ?_
    refine xi_callV (As := [.ref (b + q1)]) (rest := []) (c_X5_copyFrom l D b n (σ := σ) (kd_oFst h1) h2 (by first | (simp only [oMs, oVws, oScr, oSgn, oMod, oMem, oSig, oKno, oPro, oBox, oFst, oSnd, oLts, oLet, oNum, oVw, oEnt, oBef, oBk, oVs, oCon, oVec, m_row, m_keptOf, m_keptRow, m_viewOf, m_alarmOf, m_hasProof, m_depthOf, m_proofOf, m_signedOf, m_knownOf, m_doneOf, m_shownTo, m_sentBy, m_hasRead, m_readOf, m_lettersOf, m_letter, m_hand, m_text] <;> omega) | decide | omega | (simp only [oMs, oVws, oScr, oSgn, oMod, oMem, oSig, oKno, oPro, oBox, oFst, oSnd, oLts, oLet, oNum, oVw, oEnt, oBef, oBk, oVs, oCon, oVec, m_row, m_keptOf, m_keptRow, m_viewOf, m_alarmOf, m_hasProof, m_depthOf, m_proofOf, m_signedOf, m_knownOf, m_doneOf, m_shownTo, m_sentBy, m_hasRead, m_readOf, m_lettersOf, m_letter, m_hand, m_text] at * <;> omega))) hC dX3_keepFirst_13 (pc' := 16) rfl xw_m_X3_23 xw_c_X5_copyFrom xw_ins_X5_copyFrom xw_sel_X5_copyFrom xw_ini_X5 xd_X5_copyFrom (xH_at.trans (xsh_5 (kd_oFst h1))) rfl ⟨Nat.le_of_ble_eq_true rfl, Nat.le_of_ble_eq_true rfl⟩ rfl (Nat.le_of_ble_eq_true rfl) ⟨Nat.le_of_ble_eq_true rfl, Nat.le_of_ble_eq_true rfl⟩ ?_
    rintro _ _ ⟨rfl, g_1, hg_2, rfl⟩
    show xV _ _ _ _ _ _ _ _ _ _ _ _ _ _ _ _ _ (xH D b (su σ (oNum (oFst o1)) g_1)) _ _ []
    refine xi_aload_n hC dX3_keepFirst_16 (pc' := 17) rfl rfl rfl ?_
    refine xg3_second hC dX3_keepFirst_17 (pc' := 20) rfl xw_f_X3_16 h1 ?_
    refine xi_aload_n hC dX3_keepFirst_20 (pc' := 21) rfl rfl rfl ?_
    refine xi_callV (As := [.ref (b + q2)]) (rest := []) (c_X5_copyFrom l D b n (σ := (su σ (oNum (oFst o1)) g_1)) (kd_oSnd h1) h3 (by first | (simp only [oMs, oVws, oScr, oSgn, oMod, oMem, oSig, oKno, oPro, oBox, oFst, oSnd, oLts, oLet, oNum, oVw, oEnt, oBef, oBk, oVs, oCon, oVec, m_row, m_keptOf, m_keptRow, m_viewOf, m_alarmOf, m_hasProof, m_depthOf, m_proofOf, m_signedOf, m_knownOf, m_doneOf, m_shownTo, m_sentBy, m_hasRead, m_readOf, m_lettersOf, m_letter, m_hand, m_text] <;> omega) | decide | omega | (simp only [oMs, oVws, oScr, oSgn, oMod, oMem, oSig, oKno, oPro, oBox, oFst, oSnd, oLts, oLet, oNum, oVw, oEnt, oBef, oBk, oVs, oCon, oVec, m_row, m_keptOf, m_keptRow, m_viewOf, m_alarmOf, m_hasProof, m_depthOf, m_proofOf, m_signedOf, m_knownOf, m_doneOf, m_shownTo, m_sentBy, m_hasRead, m_readOf, m_lettersOf, m_letter, m_hand, m_text] at * <;> omega))) hC dX3_keepFirst_21 (pc' := 24) rfl xw_m_X3_23 xw_c_X5_copyFrom xw_ins_X5_copyFrom xw_sel_X5_copyFrom xw_ini_X5 xd_X5_copyFrom (xH_at.trans (xsh_5 (kd_oSnd h1))) rfl ⟨Nat.le_of_ble_eq_true rfl, Nat.le_of_ble_eq_true rfl⟩ rfl (Nat.le_of_ble_eq_true rfl) ⟨Nat.le_of_ble_eq_true rfl, Nat.le_of_ble_eq_true rfl⟩ ?_
    rintro _ _ ⟨rfl, g_3, hg_4, rfl⟩
    show xV _ _ _ _ _ _ _ _ _ _ _ _ _ _ _ _ _ (xH D b (su (su σ (oNum (oFst o1)) g_1) (oNum (oSnd o1)) g_3)) _ _ []
    refine xi_aload_n hC dX3_keepFirst_24 (pc' := 25) rfl rfl rfl ?_
    refine xi_iload_n hC dX3_keepFirst_25 (pc' := 26) rfl rfl rfl ?_
    refine xp3_depth hC dX3_keepFirst_26 (pc' := 29) rfl xw_f_X3_27 h1 ?_
    refine xi_aload_n hC dX3_keepFirst_29 (pc' := 30) rfl rfl rfl ?_
    refine xi_iconst (v := nI 1) hC dX3_keepFirst_30 (pc' := 31) rfl (by decide +kernel) ?_
    refine xp3_isHeld hC dX3_keepFirst_31 (pc' := 34) rfl xw_f_X3_19 h1 (by decide) ?_
    refine xi_return hC dX3_keepFirst_34 hr rfl ?_
    exact ⟨rfl, _, Or.inr ⟨zc4, _, _, hg_2, fun k hk => by rw [hg_4 k hk, su_n (by first | (simp only [oMs, oVws, oScr, oSgn, oMod, oMem, oSig, oKno, oPro, oBox, oFst, oSnd, oLts, oLet, oNum, oVw, oEnt, oBef, oBk, oVs, oCon, oVec, m_row, m_keptOf, m_keptRow, m_viewOf, m_alarmOf, m_hasProof, m_depthOf, m_proofOf, m_signedOf, m_knownOf, m_doneOf, m_shownTo, m_sentBy, m_hasRead, m_readOf, m_lettersOf, m_letter, m_hand, m_text] <;> omega) | decide | omega | (simp only [oMs, oVws, oScr, oSgn, oMod, oMem, oSig, oKno, oPro, oBox, oFst, oSnd, oLts, oLet, oNum, oVw, oEnt, oBef, oBk, oVs, oCon, oVec, m_row, m_keptOf, m_keptRow, m_viewOf, m_alarmOf, m_hasProof, m_depthOf, m_proofOf, m_signedOf, m_knownOf, m_doneOf, m_shownTo, m_sentBy, m_hasRead, m_readOf, m_lettersOf, m_letter, m_hand, m_text] at * <;> omega))], rfl⟩, rfl⟩
  · skip
    refine xi_return hC dX3_keepFirst_7 hr rfl ?_
    exact ⟨rfl, σ, Or.inl ⟨zc4, rfl⟩, rfl⟩
set_option maxRecDepth 100000 in
set_option maxHeartbeats 4000000 in
theorem c_X1_prove (l : Launch) (D : XD) (b n : Nat) {σ : XM} {o1 q : Nat} (h1 : kd o1 = 1) (h2 : kd q = 3) (hd : ∀ i, i < 5 → oVec (oVs o1) i ≠ oFst q ∧ oVec (oVs o1) i ≠ oSnd q) : xM l yX1_prove cX1_prove 4 none 2 45 0 0 D b n [.ref (b + o1), .ref (b + q)] (xH D b σ) n (fun v h' => v = none ∧ ∃ τ : XM, ((∃ i j, fstP 5 5 (xve σ o1) i j ∧ xKeep σ q (nI 0) (xve σ o1 i) (xve σ o1 j) τ) ∨ (¬ fkd 5 5 (xve σ o1) ∧ τ = σ)) ∧ h' = xH D b τ) := by
  refine xM.of (lv := [some (.ref (b + o1)), some (.ref (b + q)), none, none]) (by decide +kernel) rfl (List.forall_mem_cons.mpr ⟨rfl, List.forall_mem_cons.mpr ⟨rfl, fun _ h => absurd h List.not_mem_nil⟩⟩) (Nat.le_of_ble_eq_true rfl) rfl ?_
  intro p e s m args below meth c hC hr hnm
  refine xi_iconst (v := nI 0) hC dX1_prove_0 (pc' := 1) rfl (by decide +kernel) ?_
  refine xi_istore_n (lv' := [some (.ref (b + o1)), some (.ref (b + q)), some (.int (nI 0)), none]) hC dX1_prove_1 (pc' := 2) rfl rfl (by decide) rfl ?_
  have L2 : ∀ (d : Nat) (x : Nat) (v3 : Option Value), 5 - x < d → (x ≤ 5) → (∀ i j, i < x → i < j → j < 5 → ¬ rel 5 (xve σ o1 i) (xve σ o1 j) = 2) → xV p l e (xR 2 45 0 0) s m args below meth c D b 4 0 0 (MQ below (xQ D b n (fun v h' => v = none ∧ ∃ τ : XM, ((∃ i j, fstP 5 5 (xve σ o1) i j ∧ xKeep σ q (nI 0) (xve σ o1 i) (xve σ o1 j) τ) ∨ (¬ fkd 5 5 (xve σ o1) ∧ τ = σ)) ∧ h' = xH D b τ)) args s 0 0 (fun q => b ≤ q)) n (xH D b σ) 2 [some (.ref (b + o1)), some (.ref (b + q)), some (.int (nI x)), v3] [] := by
    intro d
    induction d with
    | zero => intro x v3 h; exact absurd h (Nat.not_lt_zero _)
    | succ d ih2 =>
      intro x v3 hd2 hx hA
      refine xi_iload_n hC dX1_prove_2 (pc' := 3) rfl rfl rfl ?_
      refine xi_iconst (v := nI 5) hC dX1_prove_3 (pc' := 4) rfl (by decide +kernel) ?_
      refine xn_icmpge (tgt := 65) hC dX1_prove_4 (pc' := 7) rfl (by decide) (by omega) (by omega) (fun zc4 => ?_) (fun zc4 => ?_)
      · skip
        refine xi_return hC dX1_prove_65 hr rfl ?_
        exact ⟨rfl, σ, Or.inr ⟨fun ⟨i, j, q1, q2, q3⟩ => hA i j (by omega) q1 q2 q3, rfl⟩, rfl⟩
      · skip
        refine xi_iload_n hC dX1_prove_7 (pc' := 8) rfl rfl rfl ?_
        refine xi_iconst (v := nI 1) hC dX1_prove_8 (pc' := 9) rfl (by decide +kernel) ?_
        refine xn_iadd hC dX1_prove_9 (pc' := 10) rfl ?_
        refine xi_istore_n (lv' := [some (.ref (b + o1)), some (.ref (b + q)), some (.int (nI x)), some (.int (nI (x + 1)))]) hC dX1_prove_10 (pc' := 11) rfl rfl (by decide) rfl ?_
        have L11 : ∀ (d : Nat) (y : Nat), 5 - y < d → (x < y ∧ y ≤ 5) → (∀ j, x < j → j < y → ¬ rel 5 (xve σ o1 x) (xve σ o1 j) = 2) → xV p l e (xR 2 45 0 0) s m args below meth c D b 4 0 0 (MQ below (xQ D b n (fun v h' => v = none ∧ ∃ τ : XM, ((∃ i j, fstP 5 5 (xve σ o1) i j ∧ xKeep σ q (nI 0) (xve σ o1 i) (xve σ o1 j) τ) ∨ (¬ fkd 5 5 (xve σ o1) ∧ τ = σ)) ∧ h' = xH D b τ)) args s 0 0 (fun q => b ≤ q)) n (xH D b σ) 11 [some (.ref (b + o1)), some (.ref (b + q)), some (.int (nI x)), some (.int (nI y))] [] := by
          intro d
          induction d with
          | zero => intro y h; exact absurd h (Nat.not_lt_zero _)
          | succ d ih11 =>
            intro y hd11 hy hB
            refine xi_iload_n hC dX1_prove_11 (pc' := 12) rfl rfl rfl ?_
            refine xi_iconst (v := nI 5) hC dX1_prove_12 (pc' := 13) rfl (by decide +kernel) ?_
            refine xn_icmpge (tgt := 59) hC dX1_prove_13 (pc' := 16) rfl (by decide) (by omega) (by omega) (fun zc13 => ?_) (fun zc13 => ?_)
            · skip
              refine xn_iinc (lv' := [some (.ref (b + o1)), some (.ref (b + q)), some (.int (nI (x + 1))), some (.int (nI y))]) hC dX1_prove_59 (pc' := 62) rfl rfl (by decide) rfl ?_
              refine xi_goto (tgt := 2) hC dX1_prove_62 (by decide) ?_
              refine ih2 _ _ (by omega) ?_ ?_
              · omega
              · intro i j q1 q2 q3
                rcases Nat.lt_or_ge i x with z | z
                · exact hA i j z q2 q3
                · obtain rfl : i = x := by omega
                  exact hB j q2 (by omega)
            · skip
              refine xi_aload_n hC dX1_prove_16 (pc' := 17) rfl rfl rfl ?_
              refine xg1_vectors hC dX1_prove_17 (pc' := 20) rfl xw_f_X1_11 h1 ?_
              refine xi_iload_n hC dX1_prove_20 (pc' := 21) rfl rfl rfl ?_
              refine xa_vectors hC dX1_prove_21 (pc' := 22) rfl (kd_oVs h1) rfl (by omega) ?_
              refine xi_aload_n hC dX1_prove_22 (pc' := 23) rfl rfl rfl ?_
              refine xg1_vectors hC dX1_prove_23 (pc' := 26) rfl xw_f_X1_11 h1 ?_
              refine xi_iload_n hC dX1_prove_26 (pc' := 27) rfl rfl rfl ?_
              refine xa_vectors hC dX1_prove_27 (pc' := 28) rfl (kd_oVs h1) rfl (by omega) ?_
              refine xi_callV (As := [.ref (b + (oVec (oVs o1) y))]) (rest := []) (c_X5_relationTo l D b n (σ := σ) (kd_oVec (kd_oVs h1) (by omega)) (kd_oVec (kd_oVs h1) (by omega))) hC dX1_prove_28 (pc' := 31) rfl xw_m_X1_32 xw_c_X5_relationTo xw_ins_X5_relationTo xw_sel_X5_relationTo xw_ini_X5 xd_X5_relationTo (xH_at.trans (xsh_5 (kd_oVec (kd_oVs h1) (by omega)))) rfl ⟨Nat.le_of_ble_eq_true rfl, Nat.le_of_ble_eq_true rfl⟩ rfl (Nat.le_of_ble_eq_true rfl) ⟨Nat.le_of_ble_eq_true rfl, Nat.le_of_ble_eq_true rfl⟩ ?_
              rintro _ _ ⟨rfl, rfl⟩
              show xV _ _ _ _ _ _ _ _ _ _ _ _ _ _ _ _ _ (xH D b σ) _ _ [.int (rel 5 (σ (oNum (oVec (oVs o1) x))) (σ (oNum (oVec (oVs o1) y))))]
              refine xi_iconst (v := nI 2) hC dX1_prove_31 (pc' := 32) rfl (by decide +kernel) ?_
              refine xi_icmpne (tgt := 53) hC dX1_prove_32 (pc' := 35) rfl (by decide) (fun zc32 => ?_) (fun zc32 => ?_)
              · skip
                refine xn_iinc (lv' := [some (.ref (b + o1)), some (.ref (b + q)), some (.int (nI x)), some (.int (nI (y + 1)))]) hC dX1_prove_53 (pc' := 56) rfl rfl (by decide) rfl ?_
                refine xi_goto (tgt := 11) hC dX1_prove_56 (by decide) ?_
                refine ih11 _ (by omega) ?_ ?_
                · omega
                · intro j q1 q2
                  rcases Nat.lt_or_ge j y with z | z
                  · exact hB j q1 z
                  · obtain rfl : j = y := by omega
                    exact fun z => zc32 (z.trans (by decide))
              · skip
                refine xi_aload_n hC dX1_prove_35 (pc' := 36) rfl rfl rfl ?_
                refine xi_aload_n hC dX1_prove_36 (pc' := 37) rfl rfl rfl ?_
                refine xg1_vectors hC dX1_prove_37 (pc' := 40) rfl xw_f_X1_11 h1 ?_
                refine xi_iload_n hC dX1_prove_40 (pc' := 41) rfl rfl rfl ?_
                refine xa_vectors hC dX1_prove_41 (pc' := 42) rfl (kd_oVs h1) rfl (by omega) ?_
                refine xi_aload_n hC dX1_prove_42 (pc' := 43) rfl rfl rfl ?_
                refine xg1_vectors hC dX1_prove_43 (pc' := 46) rfl xw_f_X1_11 h1 ?_
                refine xi_iload_n hC dX1_prove_46 (pc' := 47) rfl rfl rfl ?_
                refine xa_vectors hC dX1_prove_47 (pc' := 48) rfl (kd_oVs h1) rfl (by omega) ?_
                refine xi_iconst (v := nI 0) hC dX1_prove_48 (pc' := 49) rfl (by decide +kernel) ?_
                refine xi_callV (As := [.ref (b + (oVec (oVs o1) x)), .ref (b + (oVec (oVs o1) y)), .int (nI 0)]) (rest := []) (c_X3_keepFirst l D b n (σ := σ) (x := (nI 0)) h2 (kd_oVec (kd_oVs h1) (by omega)) (kd_oVec (kd_oVs h1) (by omega)) ⟨(hd x (by omega)).1, (hd y (by omega)).2, (hd y (by omega)).1⟩) hC dX1_prove_49 (pc' := 52) rfl xw_m_X1_40 xw_c_X3_keepFirst xw_ins_X3_keepFirst xw_sel_X3_keepFirst xw_ini_X3 xd_X3_keepFirst (xH_at.trans (xsh_3 h2)) rfl ⟨Nat.le_of_ble_eq_true rfl, Nat.le_of_ble_eq_true rfl⟩ rfl (Nat.le_of_ble_eq_true rfl) ⟨Nat.le_of_ble_eq_true rfl, Nat.le_of_ble_eq_true rfl⟩ ?_
                rintro _ _ ⟨rfl, τ_1, hK_2, rfl⟩
                show xV _ _ _ _ _ _ _ _ _ _ _ _ _ _ _ _ _ (xH D b τ_1) _ _ []
                refine xi_return hC dX1_prove_52 hr rfl ?_
                refine ⟨rfl, _, Or.inl ⟨x, y, ⟨hy.1, by omega, zc32.trans (by decide), fun i j q1 q2 q3 => ?_⟩, hK_2⟩, rfl⟩
                rcases Nat.lt_or_ge i x with z | z
                · exact absurd q3 (hA i j z q1 q2)
                · rcases Nat.lt_or_ge x i with z2 | z2
                  · exact Or.inl z2
                  · obtain rfl : i = x := by omega
                    refine Or.inr ⟨rfl, ?_⟩
                    rcases Nat.lt_or_ge j y with z3 | z3
                    · exact absurd q3 (hB j q1 z3)
                    · exact z3
        refine L11 _ _ (Nat.lt_succ_self _) ?_ ?_
        · omega
        · intro j q1 q2; omega
  refine L2 _ _ _ (Nat.lt_succ_self _) ?_ ?_
  · omega
  · intro i j q; omega
