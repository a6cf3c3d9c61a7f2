/-! ===== Member, Script ===== -/
def xRaise (τ : XM) (o : Nat) (x : Int32) (τ2 : XM) : Prop := (τ o 5 = 0 ∧ τ2 = sw τ o 5 x) ∨ (τ o 5 ≠ 0 ∧ τ2 = τ)
theorem xKeep.out {σ τ : XM} {o : Nat} {d : Int32} {f1 f2 : Nat → Int32} (h : xKeep σ o d f1 f2 τ) {q : Nat} (h1 : q ≠ o) (h2 : q ≠ oNum (oFst o)) (h3 : q ≠ oNum (oSnd o)) : τ q = σ q := by
  rcases h with ⟨-, rfl⟩ | ⟨-, g1, g2, -, -, rfl⟩
  · rfl
  · rw [sw_n h1, sw_n h1, su_n h3, su_n h2]
theorem xRaise.out {σ τ : XM} {o : Nat} {x : Int32} (h : xRaise σ o x τ) {q : Nat} (h1 : q ≠ o) : τ q = σ q := by
  rcases h with ⟨-, rfl⟩ | ⟨-, rfl⟩
  · exact sw_n h1
  · rfl
/-- the letters and digits of a text -/
def isL (x : Int32) : Prop := x = nI 119 ∨ x = nI 114 ∨ x = nI 115 ∨ x = nI 103 ∨ x = nI 109
def isD (x : Int32) : Prop := nI 48 ≤ x ∧ x ≤ nI 57
def okc (f : Nat → Int32) (i : Nat) : Prop := (i % 3 = 0 → isL (f i)) ∧ (i % 3 ≠ 0 → isD (f i))
/-- the first place below n that isn't right, n if there is none -/
noncomputable def fb (ok : Nat → Prop) : Nat → Nat
  | 0 => 0
  | n + 1 => @ite _ (fb ok n < n) (Classical.propDecidable _) (fb ok n) (@ite _ (ok n) (Classical.propDecidable _) (n + 1) n)
theorem fb_s {ok : Nat → Prop} {n : Nat} : fb ok (n + 1) = @ite _ (fb ok n < n) (Classical.propDecidable _) (fb ok n) (@ite _ (ok n) (Classical.propDecidable _) (n + 1) n) := rfl
theorem fb_all {ok : Nat → Prop} : ∀ {n : Nat}, (∀ i, i < n → ok i) → fb ok n = n
  | 0, _ => rfl
  | n + 1, h => by
    have h1 := fb_all (n := n) (fun i hi => h i (by omega))
    rw [fb_s, if_neg (by omega), if_pos (h n (by omega))]
theorem fb_bad {ok : Nat → Prop} {i : Nat} (hb : ¬ ok i) (ha : ∀ j, j < i → ok j) : ∀ {n : Nat}, i < n → fb ok n = i
  | 0, h => absurd h (Nat.not_lt_zero _)
  | n + 1, h => by
    rw [fb_s]
    rcases Nat.lt_or_ge i n with q | q
    · rw [fb_bad hb ha q, if_pos q]
    · obtain rfl : i = n := by omega
      rw [fb_all ha, if_neg (by omega), if_neg hb]
theorem fb_congr {ok ok' : Nat → Prop} : ∀ {n : Nat}, (∀ i, i < n → (ok i ↔ ok' i)) → fb ok n = fb ok' n
  | 0, _ => rfl
  | n + 1, h => by
    rw [fb_s, fb_s, fb_congr (n := n) (fun i hi => h i (by omega))]
    rw [propext (h n (by omega))]
/-- a text's fault: none of it where it is whole -/
noncomputable def tfault (none : Int32) (f : Nat → Int32) (z : Nat) : Int32 := @ite _ (fb (okc f) z = z ∧ z % 3 = 0) (Classical.propDecidable _) none (nI (fb (okc f) z))
theorem tfault_bad {none : Int32} {f : Nat → Int32} {z i : Nat} (hb : ¬ okc f i) (ha : ∀ j, j < i → okc f j) (hi : i < z) : tfault none f z = nI i := by
  unfold tfault
  rw [fb_bad hb ha hi, if_neg (by omega)]
theorem tfault_ok {none : Int32} {f : Nat → Int32} {z : Nat} (ha : ∀ j, j < z → okc f j) (h3 : z % 3 = 0) : tfault none f z = none := by
  unfold tfault
  rw [fb_all ha, if_pos ⟨rfl, h3⟩]
theorem tfault_cut {none : Int32} {f : Nat → Int32} {z : Nat} (ha : ∀ j, j < z → okc f j) (h3 : z % 3 ≠ 0) : tfault none f z = nI z := by
  unfold tfault
  rw [fb_all ha, if_neg (fun q => h3 q.2)]
set_option maxRecDepth 100000 in
set_option maxHeartbeats 4000000 in
theorem c_X2_clear (l : Launch) (D : XD) (b n : Nat) {σ : XM} {o1 : Nat} (h1 : kd o1 = 2) : xM l yX2_clear cX2_clear 1 none 1 21 0 0 D b n [.ref (b + o1)] (xH D b σ) n (fun v h' => v = none ∧ ∃ τ : XM, ((∀ k, k < 5 → τ (oNum (oSig o1)) k = 0 ∧ τ (oNum (oKno o1)) k = 0) ∧ τ (oPro o1) 2 = nI 0 ∧ τ (oBox o1) 1 = nI 0 ∧ τ o1 4 = nI 0 ∧ τ o1 5 = nI 0 ∧ τ o1 6 = nI 0 ∧ τ o1 8 = nI 0 ∧ τ o1 9 = nI 0 ∧ τ o1 10 = nI 0) ∧ OutE τ σ o1 20 ∧ h' = xH D b τ) := by
  refine xM.of (lv := [some (.ref (b + o1))]) (by decide +kernel) rfl (List.forall_mem_cons.mpr ⟨rfl, fun _ h => absurd h List.not_mem_nil⟩) (Nat.le_of_ble_eq_true rfl) rfl ?_
  intro p e s m args below meth c hC hr hnm
  refine xi_aload_n hC dX2_clear_0 (pc' := 1) rfl rfl rfl ?_
  refine xg2_signed hC dX2_clear_1 (pc' := 4) rfl xw_f_X2_12 h1 ?_
  refine xi_callV (As := []) (rest := []) (c_X5_clear l D b n (σ := σ) (kd_oSig h1)) hC dX2_clear_4 (pc' := 7) rfl xw_m_X2_35 xw_c_X5_clear xw_ins_X5_clear xw_sel_X5_clear xw_ini_X5 xd_X5_clear (xH_at.trans (xsh_5 (kd_oSig h1))) rfl ⟨Nat.le_of_ble_eq_true rfl, Nat.le_of_ble_eq_true rfl⟩ rfl (Nat.le_of_ble_eq_true rfl) ⟨Nat.le_of_ble_eq_true rfl, Nat.le_of_ble_eq_true rfl⟩ ?_
  rintro _ _ ⟨rfl, g_1, hg_2, rfl⟩
  show xV _ _ _ _ _ _ _ _ _ _ _ _ _ _ _ _ _ (xH D b (su σ (oNum (oSig o1)) g_1)) _ _ []
  refine xi_aload_n hC dX2_clear_7 (pc' := 8) rfl rfl rfl ?_
  refine xg2_known hC dX2_clear_8 (pc' := 11) rfl xw_f_X2_18 h1 ?_
  refine xi_callV (As := []) (rest := []) (c_X5_clear l D b n (σ := (su σ (oNum (oSig o1)) g_1)) (kd_oKno h1)) hC dX2_clear_11 (pc' := 14) rfl xw_m_X2_35 xw_c_X5_clear xw_ins_X5_clear xw_sel_X5_clear xw_ini_X5 xd_X5_clear (xH_at.trans (xsh_5 (kd_oKno h1))) rfl ⟨Nat.le_of_ble_eq_true rfl, Nat.le_of_ble_eq_true rfl⟩ rfl (Nat.le_of_ble_eq_true rfl) ⟨Nat.le_of_ble_eq_true rfl, Nat.le_of_ble_eq_true rfl⟩ ?_
  rintro _ _ ⟨rfl, g_3, hg_4, rfl⟩
  show xV _ _ _ _ _ _ _ _ _ _ _ _ _ _ _ _ _ (xH D b (su (su σ (oNum (oSig o1)) g_1) (oNum (oKno o1)) g_3)) _ _ []
  refine xi_aload_n hC dX2_clear_14 (pc' := 15) rfl rfl rfl ?_
  refine xg2_proof hC dX2_clear_15 (pc' := 18) rfl xw_f_X2_24 h1 ?_
  refine xi_callV (As := []) (rest := []) (c_X3_clear l D b n (σ := (su (su σ (oNum (oSig o1)) g_1) (oNum (oKno o1)) g_3)) (kd_oPro h1)) hC dX2_clear_18 (pc' := 21) rfl xw_m_X2_38 xw_c_X3_clear xw_ins_X3_clear xw_sel_X3_clear xw_ini_X3 xd_X3_clear (xH_at.trans (xsh_3 (kd_oPro h1))) rfl ⟨Nat.le_of_ble_eq_true rfl, Nat.le_of_ble_eq_true rfl⟩ rfl (Nat.le_of_ble_eq_true rfl) ⟨Nat.le_of_ble_eq_true rfl, Nat.le_of_ble_eq_true rfl⟩ ?_
  rintro _ _ ⟨rfl, rfl⟩
  show xV _ _ _ _ _ _ _ _ _ _ _ _ _ _ _ _ _ (xH D b (sw (su (su σ (oNum (oSig o1)) g_1) (oNum (oKno o1)) g_3) (oPro o1) 2 (nI 0))) _ _ []
  refine xi_aload_n hC dX2_clear_21 (pc' := 22) rfl rfl rfl ?_
  refine xg2_box hC dX2_clear_22 (pc' := 25) rfl xw_f_X2_31 h1 ?_
  refine xi_iconst (v := nI 0) hC dX2_clear_25 (pc' := 26) rfl (by decide +kernel) ?_
  refine xp0_size hC dX2_clear_26 (pc' := 29) rfl xw_f_X2_39 (kd_oBox h1) ?_
  refine xi_aload_n hC dX2_clear_29 (pc' := 30) rfl rfl rfl ?_
  refine xi_iconst (v := nI 0) hC dX2_clear_30 (pc' := 31) rfl (by decide +kernel) ?_
  refine xp2_view hC dX2_clear_31 (pc' := 34) rfl xw_f_X2_43 h1 ?_
  refine xi_aload_n hC dX2_clear_34 (pc' := 35) rfl rfl rfl ?_
  refine xi_iconst (v := nI 0) hC dX2_clear_35 (pc' := 36) rfl (by decide +kernel) ?_
  refine xp2_alarm hC dX2_clear_36 (pc' := 39) rfl xw_f_X2_46 h1 ?_
  refine xi_aload_n hC dX2_clear_39 (pc' := 40) rfl rfl rfl ?_
  refine xi_iconst (v := nI 0) hC dX2_clear_40 (pc' := 41) rfl (by decide +kernel) ?_
  refine xp2_hasHeard hC dX2_clear_41 (pc' := 44) rfl xw_f_X2_49 h1 (by decide) ?_
  refine xi_aload_n hC dX2_clear_44 (pc' := 45) rfl rfl rfl ?_
  refine xi_iconst (v := nI 0) hC dX2_clear_45 (pc' := 46) rfl (by decide +kernel) ?_
  refine xp2_operations hC dX2_clear_46 (pc' := 49) rfl xw_f_X2_53 h1 ?_
  refine xi_aload_n hC dX2_clear_49 (pc' := 50) rfl rfl rfl ?_
  refine xi_iconst (v := nI 0) hC dX2_clear_50 (pc' := 51) rfl (by decide +kernel) ?_
  refine xp2_shown hC dX2_clear_51 (pc' := 54) rfl xw_f_X2_56 h1 ?_
  refine xi_aload_n hC dX2_clear_54 (pc' := 55) rfl rfl rfl ?_
  refine xi_iconst (v := nI 0) hC dX2_clear_55 (pc' := 56) rfl (by decide +kernel) ?_
  refine xp2_sent hC dX2_clear_56 (pc' := 59) rfl xw_f_X2_59 h1 ?_
  refine xi_return hC dX2_clear_59 hr rfl ?_
  refine ⟨rfl, _, ⟨fun k hk => ⟨?_, ?_⟩, ?_, ?_, ?_, ?_, ?_, ?_, ?_, ?_⟩, fun q hq => ?_, rfl⟩
  · rw [sw_n (q := (oNum (oSig o1))) (o := o1) (by first | (simp only [oMs, oVws, oScr, oSgn, oMod, oMem, oSig, oKno, oPro, oBox, oFst, oSnd, oLts, oLet, oNum, oVw, oEnt, oBef, oBk, oVs, oCon, oVec, m_row, m_keptOf, m_keptRow, m_viewOf, m_alarmOf, m_hasProof, m_depthOf, m_proofOf, m_signedOf, m_knownOf, m_doneOf, m_shownTo, m_sentBy, m_hasRead, m_readOf, m_lettersOf, m_letter, m_hand, m_text] <;> omega) | decide | omega | (simp only [oMs, oVws, oScr, oSgn, oMod, oMem, oSig, oKno, oPro, oBox, oFst, oSnd, oLts, oLet, oNum, oVw, oEnt, oBef, oBk, oVs, oCon, oVec, m_row, m_keptOf, m_keptRow, m_viewOf, m_alarmOf, m_hasProof, m_depthOf, m_proofOf, m_signedOf, m_knownOf, m_doneOf, m_shownTo, m_sentBy, m_hasRead, m_readOf, m_lettersOf, m_letter, m_hand, m_text] at * <;> omega)), sw_n (q := (oNum (oSig o1))) (o := o1) (by first | (simp only [oMs, oVws, oScr, oSgn, oMod, oMem, oSig, oKno, oPro, oBox, oFst, oSnd, oLts, oLet, oNum, oVw, oEnt, oBef, oBk, oVs, oCon, oVec, m_row, m_keptOf, m_keptRow, m_viewOf, m_alarmOf, m_hasProof, m_depthOf, m_proofOf, m_signedOf, m_knownOf, m_doneOf, m_shownTo, m_sentBy, m_hasRead, m_readOf, m_lettersOf, m_letter, m_hand, m_text] <;> omega) | decide | omega | (simp only [oMs, oVws, oScr, oSgn, oMod, oMem, oSig, oKno, oPro, oBox, oFst, oSnd, oLts, oLet, oNum, oVw, oEnt, oBef, oBk, oVs, oCon, oVec, m_row, m_keptOf, m_keptRow, m_viewOf, m_alarmOf, m_hasProof, m_depthOf, m_proofOf, m_signedOf, m_knownOf, m_doneOf, m_shownTo, m_sentBy, m_hasRead, m_readOf, m_lettersOf, m_letter, m_hand, m_text] at * <;> omega)), sw_n (q := (oNum (oSig o1))) (o := o1) (by first | (simp only [oMs, oVws, oScr, oSgn, oMod, oMem, oSig, oKno, oPro, oBox, oFst, oSnd, oLts, oLet, oNum, oVw, oEnt, oBef, oBk, oVs, oCon, oVec, m_row, m_keptOf, m_keptRow, m_viewOf, m_alarmOf, m_hasProof, m_depthOf, m_proofOf, m_signedOf, m_knownOf, m_doneOf, m_shownTo, m_sentBy, m_hasRead, m_readOf, m_lettersOf, m_letter, m_hand, m_text] <;> omega) | decide | omega | (simp only [oMs, oVws, oScr, oSgn, oMod, oMem, oSig, oKno, oPro, oBox, oFst, oSnd, oLts, oLet, oNum, oVw, oEnt, oBef, oBk, oVs, oCon, oVec, m_row, m_keptOf, m_keptRow, m_viewOf, m_alarmOf, m_hasProof, m_depthOf, m_proofOf, m_signedOf, m_knownOf, m_doneOf, m_shownTo, m_sentBy, m_hasRead, m_readOf, m_lettersOf, m_letter, m_hand, m_text] at * <;> omega)), sw_n (q := (oNum (oSig o1))) (o := o1) (by first | (simp only [oMs, oVws, oScr, oSgn, oMod, oMem, oSig, oKno, oPro, oBox, oFst, oSnd, oLts, oLet, oNum, oVw, oEnt, oBef, oBk, oVs, oCon, oVec, m_row, m_keptOf, m_keptRow, m_viewOf, m_alarmOf, m_hasProof, m_depthOf, m_proofOf, m_signedOf, m_knownOf, m_doneOf, m_shownTo, m_sentBy, m_hasRead, m_readOf, m_lettersOf, m_letter, m_hand, m_text] <;> omega) | decide | omega | (simp only [oMs, oVws, oScr, oSgn, oMod, oMem, oSig, oKno, oPro, oBox, oFst, oSnd, oLts, oLet, oNum, oVw, oEnt, oBef, oBk, oVs, oCon, oVec, m_row, m_keptOf, m_keptRow, m_viewOf, m_alarmOf, m_hasProof, m_depthOf, m_proofOf, m_signedOf, m_knownOf, m_doneOf, m_shownTo, m_sentBy, m_hasRead, m_readOf, m_lettersOf, m_letter, m_hand, m_text] at * <;> omega)), sw_n (q := (oNum (oSig o1))) (o := o1) (by first | (simp only [oMs, oVws, oScr, oSgn, oMod, oMem, oSig, oKno, oPro, oBox, oFst, oSnd, oLts, oLet, oNum, oVw, oEnt, oBef, oBk, oVs, oCon, oVec, m_row, m_keptOf, m_keptRow, m_viewOf, m_alarmOf, m_hasProof, m_depthOf, m_proofOf, m_signedOf, m_knownOf, m_doneOf, m_shownTo, m_sentBy, m_hasRead, m_readOf, m_lettersOf, m_letter, m_hand, m_text] <;> omega) | decide | omega | (simp only [oMs, oVws, oScr, oSgn, oMod, oMem, oSig, oKno, oPro, oBox, oFst, oSnd, oLts, oLet, oNum, oVw, oEnt, oBef, oBk, oVs, oCon, oVec, m_row, m_keptOf, m_keptRow, m_viewOf, m_alarmOf, m_hasProof, m_depthOf, m_proofOf, m_signedOf, m_knownOf, m_doneOf, m_shownTo, m_sentBy, m_hasRead, m_readOf, m_lettersOf, m_letter, m_hand, m_text] at * <;> omega)), sw_n (q := (oNum (oSig o1))) (o := o1) (by first | (simp only [oMs, oVws, oScr, oSgn, oMod, oMem, oSig, oKno, oPro, oBox, oFst, oSnd, oLts, oLet, oNum, oVw, oEnt, oBef, oBk, oVs, oCon, oVec, m_row, m_keptOf, m_keptRow, m_viewOf, m_alarmOf, m_hasProof, m_depthOf, m_proofOf, m_signedOf, m_knownOf, m_doneOf, m_shownTo, m_sentBy, m_hasRead, m_readOf, m_lettersOf, m_letter, m_hand, m_text] <;> omega) | decide | omega | (simp only [oMs, oVws, oScr, oSgn, oMod, oMem, oSig, oKno, oPro, oBox, oFst, oSnd, oLts, oLet, oNum, oVw, oEnt, oBef, oBk, oVs, oCon, oVec, m_row, m_keptOf, m_keptRow, m_viewOf, m_alarmOf, m_hasProof, m_depthOf, m_proofOf, m_signedOf, m_knownOf, m_doneOf, m_shownTo, m_sentBy, m_hasRead, m_readOf, m_lettersOf, m_letter, m_hand, m_text] at * <;> omega)), sw_n (q := (oNum (oSig o1))) (o := (oBox o1)) (by first | (simp only [oMs, oVws, oScr, oSgn, oMod, oMem, oSig, oKno, oPro, oBox, oFst, oSnd, oLts, oLet, oNum, oVw, oEnt, oBef, oBk, oVs, oCon, oVec, m_row, m_keptOf, m_keptRow, m_viewOf, m_alarmOf, m_hasProof, m_depthOf, m_proofOf, m_signedOf, m_knownOf, m_doneOf, m_shownTo, m_sentBy, m_hasRead, m_readOf, m_lettersOf, m_letter, m_hand, m_text] <;> omega) | decide | omega | (simp only [oMs, oVws, oScr, oSgn, oMod, oMem, oSig, oKno, oPro, oBox, oFst, oSnd, oLts, oLet, oNum, oVw, oEnt, oBef, oBk, oVs, oCon, oVec, m_row, m_keptOf, m_keptRow, m_viewOf, m_alarmOf, m_hasProof, m_depthOf, m_proofOf, m_signedOf, m_knownOf, m_doneOf, m_shownTo, m_sentBy, m_hasRead, m_readOf, m_lettersOf, m_letter, m_hand, m_text] at * <;> omega)), sw_n (q := (oNum (oSig o1))) (o := (oPro o1)) (by first | (simp only [oMs, oVws, oScr, oSgn, oMod, oMem, oSig, oKno, oPro, oBox, oFst, oSnd, oLts, oLet, oNum, oVw, oEnt, oBef, oBk, oVs, oCon, oVec, m_row, m_keptOf, m_keptRow, m_viewOf, m_alarmOf, m_hasProof, m_depthOf, m_proofOf, m_signedOf, m_knownOf, m_doneOf, m_shownTo, m_sentBy, m_hasRead, m_readOf, m_lettersOf, m_letter, m_hand, m_text] <;> omega) | decide | omega | (simp only [oMs, oVws, oScr, oSgn, oMod, oMem, oSig, oKno, oPro, oBox, oFst, oSnd, oLts, oLet, oNum, oVw, oEnt, oBef, oBk, oVs, oCon, oVec, m_row, m_keptOf, m_keptRow, m_viewOf, m_alarmOf, m_hasProof, m_depthOf, m_proofOf, m_signedOf, m_knownOf, m_doneOf, m_shownTo, m_sentBy, m_hasRead, m_readOf, m_lettersOf, m_letter, m_hand, m_text] at * <;> omega)), su_n (q := (oNum (oSig o1))) (o := (oNum (oKno o1))) (by first | (simp only [oMs, oVws, oScr, oSgn, oMod, oMem, oSig, oKno, oPro, oBox, oFst, oSnd, oLts, oLet, oNum, oVw, oEnt, oBef, oBk, oVs, oCon, oVec, m_row, m_keptOf, m_keptRow, m_viewOf, m_alarmOf, m_hasProof, m_depthOf, m_proofOf, m_signedOf, m_knownOf, m_doneOf, m_shownTo, m_sentBy, m_hasRead, m_readOf, m_lettersOf, m_letter, m_hand, m_text] <;> omega) | decide | omega | (simp only [oMs, oVws, oScr, oSgn, oMod, oMem, oSig, oKno, oPro, oBox, oFst, oSnd, oLts, oLet, oNum, oVw, oEnt, oBef, oBk, oVs, oCon, oVec, m_row, m_keptOf, m_keptRow, m_viewOf, m_alarmOf, m_hasProof, m_depthOf, m_proofOf, m_signedOf, m_knownOf, m_doneOf, m_shownTo, m_sentBy, m_hasRead, m_readOf, m_lettersOf, m_letter, m_hand, m_text] at * <;> omega)), su_s]; exact hg_2 k hk
  · rw [sw_n (q := (oNum (oKno o1))) (o := o1) (by first | (simp only [oMs, oVws, oScr, oSgn, oMod, oMem, oSig, oKno, oPro, oBox, oFst, oSnd, oLts, oLet, oNum, oVw, oEnt, oBef, oBk, oVs, oCon, oVec, m_row, m_keptOf, m_keptRow, m_viewOf, m_alarmOf, m_hasProof, m_depthOf, m_proofOf, m_signedOf, m_knownOf, m_doneOf, m_shownTo, m_sentBy, m_hasRead, m_readOf, m_lettersOf, m_letter, m_hand, m_text] <;> omega) | decide | omega | (simp only [oMs, oVws, oScr, oSgn, oMod, oMem, oSig, oKno, oPro, oBox, oFst, oSnd, oLts, oLet, oNum, oVw, oEnt, oBef, oBk, oVs, oCon, oVec, m_row, m_keptOf, m_keptRow, m_viewOf, m_alarmOf, m_hasProof, m_depthOf, m_proofOf, m_signedOf, m_knownOf, m_doneOf, m_shownTo, m_sentBy, m_hasRead, m_readOf, m_lettersOf, m_letter, m_hand, m_text] at * <;> omega)), sw_n (q := (oNum (oKno o1))) (o := o1) (by first | (simp only [oMs, oVws, oScr, oSgn, oMod, oMem, oSig, oKno, oPro, oBox, oFst, oSnd, oLts, oLet, oNum, oVw, oEnt, oBef, oBk, oVs, oCon, oVec, m_row, m_keptOf, m_keptRow, m_viewOf, m_alarmOf, m_hasProof, m_depthOf, m_proofOf, m_signedOf, m_knownOf, m_doneOf, m_shownTo, m_sentBy, m_hasRead, m_readOf, m_lettersOf, m_letter, m_hand, m_text] <;> omega) | decide | omega | (simp only [oMs, oVws, oScr, oSgn, oMod, oMem, oSig, oKno, oPro, oBox, oFst, oSnd, oLts, oLet, oNum, oVw, oEnt, oBef, oBk, oVs, oCon, oVec, m_row, m_keptOf, m_keptRow, m_viewOf, m_alarmOf, m_hasProof, m_depthOf, m_proofOf, m_signedOf, m_knownOf, m_doneOf, m_shownTo, m_sentBy, m_hasRead, m_readOf, m_lettersOf, m_letter, m_hand, m_text] at * <;> omega)), sw_n (q := (oNum (oKno o1))) (o := o1) (by first | (simp only [oMs, oVws, oScr, oSgn, oMod, oMem, oSig, oKno, oPro, oBox, oFst, oSnd, oLts, oLet, oNum, oVw, oEnt, oBef, oBk, oVs, oCon, oVec, m_row, m_keptOf, m_keptRow, m_viewOf, m_alarmOf, m_hasProof, m_depthOf, m_proofOf, m_signedOf, m_knownOf, m_doneOf, m_shownTo, m_sentBy, m_hasRead, m_readOf, m_lettersOf, m_letter, m_hand, m_text] <;> omega) | decide | omega | (simp only [oMs, oVws, oScr, oSgn, oMod, oMem, oSig, oKno, oPro, oBox, oFst, oSnd, oLts, oLet, oNum, oVw, oEnt, oBef, oBk, oVs, oCon, oVec, m_row, m_keptOf, m_keptRow, m_viewOf, m_alarmOf, m_hasProof, m_depthOf, m_proofOf, m_signedOf, m_knownOf, m_doneOf, m_shownTo, m_sentBy, m_hasRead, m_readOf, m_lettersOf, m_letter, m_hand, m_text] at * <;> omega)), sw_n (q := (oNum (oKno o1))) (o := o1) (by first | (simp only [oMs, oVws, oScr, oSgn, oMod, oMem, oSig, oKno, oPro, oBox, oFst, oSnd, oLts, oLet, oNum, oVw, oEnt, oBef, oBk, oVs, oCon, oVec, m_row, m_keptOf, m_keptRow, m_viewOf, m_alarmOf, m_hasProof, m_depthOf, m_proofOf, m_signedOf, m_knownOf, m_doneOf, m_shownTo, m_sentBy, m_hasRead, m_readOf, m_lettersOf, m_letter, m_hand, m_text] <;> omega) | decide | omega | (simp only [oMs, oVws, oScr, oSgn, oMod, oMem, oSig, oKno, oPro, oBox, oFst, oSnd, oLts, oLet, oNum, oVw, oEnt, oBef, oBk, oVs, oCon, oVec, m_row, m_keptOf, m_keptRow, m_viewOf, m_alarmOf, m_hasProof, m_depthOf, m_proofOf, m_signedOf, m_knownOf, m_doneOf, m_shownTo, m_sentBy, m_hasRead, m_readOf, m_lettersOf, m_letter, m_hand, m_text] at * <;> omega)), sw_n (q := (oNum (oKno o1))) (o := o1) (by first | (simp only [oMs, oVws, oScr, oSgn, oMod, oMem, oSig, oKno, oPro, oBox, oFst, oSnd, oLts, oLet, oNum, oVw, oEnt, oBef, oBk, oVs, oCon, oVec, m_row, m_keptOf, m_keptRow, m_viewOf, m_alarmOf, m_hasProof, m_depthOf, m_proofOf, m_signedOf, m_knownOf, m_doneOf, m_shownTo, m_sentBy, m_hasRead, m_readOf, m_lettersOf, m_letter, m_hand, m_text] <;> omega) | decide | omega | (simp only [oMs, oVws, oScr, oSgn, oMod, oMem, oSig, oKno, oPro, oBox, oFst, oSnd, oLts, oLet, oNum, oVw, oEnt, oBef, oBk, oVs, oCon, oVec, m_row, m_keptOf, m_keptRow, m_viewOf, m_alarmOf, m_hasProof, m_depthOf, m_proofOf, m_signedOf, m_knownOf, m_doneOf, m_shownTo, m_sentBy, m_hasRead, m_readOf, m_lettersOf, m_letter, m_hand, m_text] at * <;> omega)), sw_n (q := (oNum (oKno o1))) (o := o1) (by first | (simp only [oMs, oVws, oScr, oSgn, oMod, oMem, oSig, oKno, oPro, oBox, oFst, oSnd, oLts, oLet, oNum, oVw, oEnt, oBef, oBk, oVs, oCon, oVec, m_row, m_keptOf, m_keptRow, m_viewOf, m_alarmOf, m_hasProof, m_depthOf, m_proofOf, m_signedOf, m_knownOf, m_doneOf, m_shownTo, m_sentBy, m_hasRead, m_readOf, m_lettersOf, m_letter, m_hand, m_text] <;> omega) | decide | omega | (simp only [oMs, oVws, oScr, oSgn, oMod, oMem, oSig, oKno, oPro, oBox, oFst, oSnd, oLts, oLet, oNum, oVw, oEnt, oBef, oBk, oVs, oCon, oVec, m_row, m_keptOf, m_keptRow, m_viewOf, m_alarmOf, m_hasProof, m_depthOf, m_proofOf, m_signedOf, m_knownOf, m_doneOf, m_shownTo, m_sentBy, m_hasRead, m_readOf, m_lettersOf, m_letter, m_hand, m_text] at * <;> omega)), sw_n (q := (oNum (oKno o1))) (o := (oBox o1)) (by first | (simp only [oMs, oVws, oScr, oSgn, oMod, oMem, oSig, oKno, oPro, oBox, oFst, oSnd, oLts, oLet, oNum, oVw, oEnt, oBef, oBk, oVs, oCon, oVec, m_row, m_keptOf, m_keptRow, m_viewOf, m_alarmOf, m_hasProof, m_depthOf, m_proofOf, m_signedOf, m_knownOf, m_doneOf, m_shownTo, m_sentBy, m_hasRead, m_readOf, m_lettersOf, m_letter, m_hand, m_text] <;> omega) | decide | omega | (simp only [oMs, oVws, oScr, oSgn, oMod, oMem, oSig, oKno, oPro, oBox, oFst, oSnd, oLts, oLet, oNum, oVw, oEnt, oBef, oBk, oVs, oCon, oVec, m_row, m_keptOf, m_keptRow, m_viewOf, m_alarmOf, m_hasProof, m_depthOf, m_proofOf, m_signedOf, m_knownOf, m_doneOf, m_shownTo, m_sentBy, m_hasRead, m_readOf, m_lettersOf, m_letter, m_hand, m_text] at * <;> omega)), sw_n (q := (oNum (oKno o1))) (o := (oPro o1)) (by first | (simp only [oMs, oVws, oScr, oSgn, oMod, oMem, oSig, oKno, oPro, oBox, oFst, oSnd, oLts, oLet, oNum, oVw, oEnt, oBef, oBk, oVs, oCon, oVec, m_row, m_keptOf, m_keptRow, m_viewOf, m_alarmOf, m_hasProof, m_depthOf, m_proofOf, m_signedOf, m_knownOf, m_doneOf, m_shownTo, m_sentBy, m_hasRead, m_readOf, m_lettersOf, m_letter, m_hand, m_text] <;> omega) | decide | omega | (simp only [oMs, oVws, oScr, oSgn, oMod, oMem, oSig, oKno, oPro, oBox, oFst, oSnd, oLts, oLet, oNum, oVw, oEnt, oBef, oBk, oVs, oCon, oVec, m_row, m_keptOf, m_keptRow, m_viewOf, m_alarmOf, m_hasProof, m_depthOf, m_proofOf, m_signedOf, m_knownOf, m_doneOf, m_shownTo, m_sentBy, m_hasRead, m_readOf, m_lettersOf, m_letter, m_hand, m_text] at * <;> omega)), su_s]; exact hg_4 k hk
  · rw [sw_n (q := (oPro o1)) (o := o1) (by first | (simp only [oMs, oVws, oScr, oSgn, oMod, oMem, oSig, oKno, oPro, oBox, oFst, oSnd, oLts, oLet, oNum, oVw, oEnt, oBef, oBk, oVs, oCon, oVec, m_row, m_keptOf, m_keptRow, m_viewOf, m_alarmOf, m_hasProof, m_depthOf, m_proofOf, m_signedOf, m_knownOf, m_doneOf, m_shownTo, m_sentBy, m_hasRead, m_readOf, m_lettersOf, m_letter, m_hand, m_text] <;> omega) | decide | omega | (simp only [oMs, oVws, oScr, oSgn, oMod, oMem, oSig, oKno, oPro, oBox, oFst, oSnd, oLts, oLet, oNum, oVw, oEnt, oBef, oBk, oVs, oCon, oVec, m_row, m_keptOf, m_keptRow, m_viewOf, m_alarmOf, m_hasProof, m_depthOf, m_proofOf, m_signedOf, m_knownOf, m_doneOf, m_shownTo, m_sentBy, m_hasRead, m_readOf, m_lettersOf, m_letter, m_hand, m_text] at * <;> omega)), sw_n (q := (oPro o1)) (o := o1) (by first | (simp only [oMs, oVws, oScr, oSgn, oMod, oMem, oSig, oKno, oPro, oBox, oFst, oSnd, oLts, oLet, oNum, oVw, oEnt, oBef, oBk, oVs, oCon, oVec, m_row, m_keptOf, m_keptRow, m_viewOf, m_alarmOf, m_hasProof, m_depthOf, m_proofOf, m_signedOf, m_knownOf, m_doneOf, m_shownTo, m_sentBy, m_hasRead, m_readOf, m_lettersOf, m_letter, m_hand, m_text] <;> omega) | decide | omega | (simp only [oMs, oVws, oScr, oSgn, oMod, oMem, oSig, oKno, oPro, oBox, oFst, oSnd, oLts, oLet, oNum, oVw, oEnt, oBef, oBk, oVs, oCon, oVec, m_row, m_keptOf, m_keptRow, m_viewOf, m_alarmOf, m_hasProof, m_depthOf, m_proofOf, m_signedOf, m_knownOf, m_doneOf, m_shownTo, m_sentBy, m_hasRead, m_readOf, m_lettersOf, m_letter, m_hand, m_text] at * <;> omega)), sw_n (q := (oPro o1)) (o := o1) (by first | (simp only [oMs, oVws, oScr, oSgn, oMod, oMem, oSig, oKno, oPro, oBox, oFst, oSnd, oLts, oLet, oNum, oVw, oEnt, oBef, oBk, oVs, oCon, oVec, m_row, m_keptOf, m_keptRow, m_viewOf, m_alarmOf, m_hasProof, m_depthOf, m_proofOf, m_signedOf, m_knownOf, m_doneOf, m_shownTo, m_sentBy, m_hasRead, m_readOf, m_lettersOf, m_letter, m_hand, m_text] <;> omega) | decide | omega | (simp only [oMs, oVws, oScr, oSgn, oMod, oMem, oSig, oKno, oPro, oBox, oFst, oSnd, oLts, oLet, oNum, oVw, oEnt, oBef, oBk, oVs, oCon, oVec, m_row, m_keptOf, m_keptRow, m_viewOf, m_alarmOf, m_hasProof, m_depthOf, m_proofOf, m_signedOf, m_knownOf, m_doneOf, m_shownTo, m_sentBy, m_hasRead, m_readOf, m_lettersOf, m_letter, m_hand, m_text] at * <;> omega)), sw_n (q := (oPro o1)) (o := o1) (by first | (simp only [oMs, oVws, oScr, oSgn, oMod, oMem, oSig, oKno, oPro, oBox, oFst, oSnd, oLts, oLet, oNum, oVw, oEnt, oBef, oBk, oVs, oCon, oVec, m_row, m_keptOf, m_keptRow, m_viewOf, m_alarmOf, m_hasProof, m_depthOf, m_proofOf, m_signedOf, m_knownOf, m_doneOf, m_shownTo, m_sentBy, m_hasRead, m_readOf, m_lettersOf, m_letter, m_hand, m_text] <;> omega) | decide | omega | (simp only [oMs, oVws, oScr, oSgn, oMod, oMem, oSig, oKno, oPro, oBox, oFst, oSnd, oLts, oLet, oNum, oVw, oEnt, oBef, oBk, oVs, oCon, oVec, m_row, m_keptOf, m_keptRow, m_viewOf, m_alarmOf, m_hasProof, m_depthOf, m_proofOf, m_signedOf, m_knownOf, m_doneOf, m_shownTo, m_sentBy, m_hasRead, m_readOf, m_lettersOf, m_letter, m_hand, m_text] at * <;> omega)), sw_n (q := (oPro o1)) (o := o1) (by first | (simp only [oMs, oVws, oScr, oSgn, oMod, oMem, oSig, oKno, oPro, oBox, oFst, oSnd, oLts, oLet, oNum, oVw, oEnt, oBef, oBk, oVs, oCon, oVec, m_row, m_keptOf, m_keptRow, m_viewOf, m_alarmOf, m_hasProof, m_depthOf, m_proofOf, m_signedOf, m_knownOf, m_doneOf, m_shownTo, m_sentBy, m_hasRead, m_readOf, m_lettersOf, m_letter, m_hand, m_text] <;> omega) | decide | omega | (simp only [oMs, oVws, oScr, oSgn, oMod, oMem, oSig, oKno, oPro, oBox, oFst, oSnd, oLts, oLet, oNum, oVw, oEnt, oBef, oBk, oVs, oCon, oVec, m_row, m_keptOf, m_keptRow, m_viewOf, m_alarmOf, m_hasProof, m_depthOf, m_proofOf, m_signedOf, m_knownOf, m_doneOf, m_shownTo, m_sentBy, m_hasRead, m_readOf, m_lettersOf, m_letter, m_hand, m_text] at * <;> omega)), sw_n (q := (oPro o1)) (o := o1) (by first | (simp only [oMs, oVws, oScr, oSgn, oMod, oMem, oSig, oKno, oPro, oBox, oFst, oSnd, oLts, oLet, oNum, oVw, oEnt, oBef, oBk, oVs, oCon, oVec, m_row, m_keptOf, m_keptRow, m_viewOf, m_alarmOf, m_hasProof, m_depthOf, m_proofOf, m_signedOf, m_knownOf, m_doneOf, m_shownTo, m_sentBy, m_hasRead, m_readOf, m_lettersOf, m_letter, m_hand, m_text] <;> omega) | decide | omega | (simp only [oMs, oVws, oScr, oSgn, oMod, oMem, oSig, oKno, oPro, oBox, oFst, oSnd, oLts, oLet, oNum, oVw, oEnt, oBef, oBk, oVs, oCon, oVec, m_row, m_keptOf, m_keptRow, m_viewOf, m_alarmOf, m_hasProof, m_depthOf, m_proofOf, m_signedOf, m_knownOf, m_doneOf, m_shownTo, m_sentBy, m_hasRead, m_readOf, m_lettersOf, m_letter, m_hand, m_text] at * <;> omega)), sw_n (q := (oPro o1)) (o := (oBox o1)) (by first | (simp only [oMs, oVws, oScr, oSgn, oMod, oMem, oSig, oKno, oPro, oBox, oFst, oSnd, oLts, oLet, oNum, oVw, oEnt, oBef, oBk, oVs, oCon, oVec, m_row, m_keptOf, m_keptRow, m_viewOf, m_alarmOf, m_hasProof, m_depthOf, m_proofOf, m_signedOf, m_knownOf, m_doneOf, m_shownTo, m_sentBy, m_hasRead, m_readOf, m_lettersOf, m_letter, m_hand, m_text] <;> omega) | decide | omega | (simp only [oMs, oVws, oScr, oSgn, oMod, oMem, oSig, oKno, oPro, oBox, oFst, oSnd, oLts, oLet, oNum, oVw, oEnt, oBef, oBk, oVs, oCon, oVec, m_row, m_keptOf, m_keptRow, m_viewOf, m_alarmOf, m_hasProof, m_depthOf, m_proofOf, m_signedOf, m_knownOf, m_doneOf, m_shownTo, m_sentBy, m_hasRead, m_readOf, m_lettersOf, m_letter, m_hand, m_text] at * <;> omega)), sw_s]
  · rw [sw_n (q := (oBox o1)) (o := o1) (by first | (simp only [oMs, oVws, oScr, oSgn, oMod, oMem, oSig, oKno, oPro, oBox, oFst, oSnd, oLts, oLet, oNum, oVw, oEnt, oBef, oBk, oVs, oCon, oVec, m_row, m_keptOf, m_keptRow, m_viewOf, m_alarmOf, m_hasProof, m_depthOf, m_proofOf, m_signedOf, m_knownOf, m_doneOf, m_shownTo, m_sentBy, m_hasRead, m_readOf, m_lettersOf, m_letter, m_hand, m_text] <;> omega) | decide | omega | (simp only [oMs, oVws, oScr, oSgn, oMod, oMem, oSig, oKno, oPro, oBox, oFst, oSnd, oLts, oLet, oNum, oVw, oEnt, oBef, oBk, oVs, oCon, oVec, m_row, m_keptOf, m_keptRow, m_viewOf, m_alarmOf, m_hasProof, m_depthOf, m_proofOf, m_signedOf, m_knownOf, m_doneOf, m_shownTo, m_sentBy, m_hasRead, m_readOf, m_lettersOf, m_letter, m_hand, m_text] at * <;> omega)), sw_n (q := (oBox o1)) (o := o1) (by first | (simp only [oMs, oVws, oScr, oSgn, oMod, oMem, oSig, oKno, oPro, oBox, oFst, oSnd, oLts, oLet, oNum, oVw, oEnt, oBef, oBk, oVs, oCon, oVec, m_row, m_keptOf, m_keptRow, m_viewOf, m_alarmOf, m_hasProof, m_depthOf, m_proofOf, m_signedOf, m_knownOf, m_doneOf, m_shownTo, m_sentBy, m_hasRead, m_readOf, m_lettersOf, m_letter, m_hand, m_text] <;> omega) | decide | omega | (simp only [oMs, oVws, oScr, oSgn, oMod, oMem, oSig, oKno, oPro, oBox, oFst, oSnd, oLts, oLet, oNum, oVw, oEnt, oBef, oBk, oVs, oCon, oVec, m_row, m_keptOf, m_keptRow, m_viewOf, m_alarmOf, m_hasProof, m_depthOf, m_proofOf, m_signedOf, m_knownOf, m_doneOf, m_shownTo, m_sentBy, m_hasRead, m_readOf, m_lettersOf, m_letter, m_hand, m_text] at * <;> omega)), sw_n (q := (oBox o1)) (o := o1) (by first | (simp only [oMs, oVws, oScr, oSgn, oMod, oMem, oSig, oKno, oPro, oBox, oFst, oSnd, oLts, oLet, oNum, oVw, oEnt, oBef, oBk, oVs, oCon, oVec, m_row, m_keptOf, m_keptRow, m_viewOf, m_alarmOf, m_hasProof, m_depthOf, m_proofOf, m_signedOf, m_knownOf, m_doneOf, m_shownTo, m_sentBy, m_hasRead, m_readOf, m_lettersOf, m_letter, m_hand, m_text] <;> omega) | decide | omega | (simp only [oMs, oVws, oScr, oSgn, oMod, oMem, oSig, oKno, oPro, oBox, oFst, oSnd, oLts, oLet, oNum, oVw, oEnt, oBef, oBk, oVs, oCon, oVec, m_row, m_keptOf, m_keptRow, m_viewOf, m_alarmOf, m_hasProof, m_depthOf, m_proofOf, m_signedOf, m_knownOf, m_doneOf, m_shownTo, m_sentBy, m_hasRead, m_readOf, m_lettersOf, m_letter, m_hand, m_text] at * <;> omega)), sw_n (q := (oBox o1)) (o := o1) (by first | (simp only [oMs, oVws, oScr, oSgn, oMod, oMem, oSig, oKno, oPro, oBox, oFst, oSnd, oLts, oLet, oNum, oVw, oEnt, oBef, oBk, oVs, oCon, oVec, m_row, m_keptOf, m_keptRow, m_viewOf, m_alarmOf, m_hasProof, m_depthOf, m_proofOf, m_signedOf, m_knownOf, m_doneOf, m_shownTo, m_sentBy, m_hasRead, m_readOf, m_lettersOf, m_letter, m_hand, m_text] <;> omega) | decide | omega | (simp only [oMs, oVws, oScr, oSgn, oMod, oMem, oSig, oKno, oPro, oBox, oFst, oSnd, oLts, oLet, oNum, oVw, oEnt, oBef, oBk, oVs, oCon, oVec, m_row, m_keptOf, m_keptRow, m_viewOf, m_alarmOf, m_hasProof, m_depthOf, m_proofOf, m_signedOf, m_knownOf, m_doneOf, m_shownTo, m_sentBy, m_hasRead, m_readOf, m_lettersOf, m_letter, m_hand, m_text] at * <;> omega)), sw_n (q := (oBox o1)) (o := o1) (by first | (simp only [oMs, oVws, oScr, oSgn, oMod, oMem, oSig, oKno, oPro, oBox, oFst, oSnd, oLts, oLet, oNum, oVw, oEnt, oBef, oBk, oVs, oCon, oVec, m_row, m_keptOf, m_keptRow, m_viewOf, m_alarmOf, m_hasProof, m_depthOf, m_proofOf, m_signedOf, m_knownOf, m_doneOf, m_shownTo, m_sentBy, m_hasRead, m_readOf, m_lettersOf, m_letter, m_hand, m_text] <;> omega) | decide | omega | (simp only [oMs, oVws, oScr, oSgn, oMod, oMem, oSig, oKno, oPro, oBox, oFst, oSnd, oLts, oLet, oNum, oVw, oEnt, oBef, oBk, oVs, oCon, oVec, m_row, m_keptOf, m_keptRow, m_viewOf, m_alarmOf, m_hasProof, m_depthOf, m_proofOf, m_signedOf, m_knownOf, m_doneOf, m_shownTo, m_sentBy, m_hasRead, m_readOf, m_lettersOf, m_letter, m_hand, m_text] at * <;> omega)), sw_n (q := (oBox o1)) (o := o1) (by first | (simp only [oMs, oVws, oScr, oSgn, oMod, oMem, oSig, oKno, oPro, oBox, oFst, oSnd, oLts, oLet, oNum, oVw, oEnt, oBef, oBk, oVs, oCon, oVec, m_row, m_keptOf, m_keptRow, m_viewOf, m_alarmOf, m_hasProof, m_depthOf, m_proofOf, m_signedOf, m_knownOf, m_doneOf, m_shownTo, m_sentBy, m_hasRead, m_readOf, m_lettersOf, m_letter, m_hand, m_text] <;> omega) | decide | omega | (simp only [oMs, oVws, oScr, oSgn, oMod, oMem, oSig, oKno, oPro, oBox, oFst, oSnd, oLts, oLet, oNum, oVw, oEnt, oBef, oBk, oVs, oCon, oVec, m_row, m_keptOf, m_keptRow, m_viewOf, m_alarmOf, m_hasProof, m_depthOf, m_proofOf, m_signedOf, m_knownOf, m_doneOf, m_shownTo, m_sentBy, m_hasRead, m_readOf, m_lettersOf, m_letter, m_hand, m_text] at * <;> omega)), sw_s]
  · rw [sw_k (j := 4) (k := 10) (by first | (simp only [oMs, oVws, oScr, oSgn, oMod, oMem, oSig, oKno, oPro, oBox, oFst, oSnd, oLts, oLet, oNum, oVw, oEnt, oBef, oBk, oVs, oCon, oVec, m_row, m_keptOf, m_keptRow, m_viewOf, m_alarmOf, m_hasProof, m_depthOf, m_proofOf, m_signedOf, m_knownOf, m_doneOf, m_shownTo, m_sentBy, m_hasRead, m_readOf, m_lettersOf, m_letter, m_hand, m_text] <;> omega) | decide | omega | (simp only [oMs, oVws, oScr, oSgn, oMod, oMem, oSig, oKno, oPro, oBox, oFst, oSnd, oLts, oLet, oNum, oVw, oEnt, oBef, oBk, oVs, oCon, oVec, m_row, m_keptOf, m_keptRow, m_viewOf, m_alarmOf, m_hasProof, m_depthOf, m_proofOf, m_signedOf, m_knownOf, m_doneOf, m_shownTo, m_sentBy, m_hasRead, m_readOf, m_lettersOf, m_letter, m_hand, m_text] at * <;> omega)), sw_k (j := 4) (k := 9) (by first | (simp only [oMs, oVws, oScr, oSgn, oMod, oMem, oSig, oKno, oPro, oBox, oFst, oSnd, oLts, oLet, oNum, oVw, oEnt, oBef, oBk, oVs, oCon, oVec, m_row, m_keptOf, m_keptRow, m_viewOf, m_alarmOf, m_hasProof, m_depthOf, m_proofOf, m_signedOf, m_knownOf, m_doneOf, m_shownTo, m_sentBy, m_hasRead, m_readOf, m_lettersOf, m_letter, m_hand, m_text] <;> omega) | decide | omega | (simp only [oMs, oVws, oScr, oSgn, oMod, oMem, oSig, oKno, oPro, oBox, oFst, oSnd, oLts, oLet, oNum, oVw, oEnt, oBef, oBk, oVs, oCon, oVec, m_row, m_keptOf, m_keptRow, m_viewOf, m_alarmOf, m_hasProof, m_depthOf, m_proofOf, m_signedOf, m_knownOf, m_doneOf, m_shownTo, m_sentBy, m_hasRead, m_readOf, m_lettersOf, m_letter, m_hand, m_text] at * <;> omega)), sw_k (j := 4) (k := 8) (by first | (simp only [oMs, oVws, oScr, oSgn, oMod, oMem, oSig, oKno, oPro, oBox, oFst, oSnd, oLts, oLet, oNum, oVw, oEnt, oBef, oBk, oVs, oCon, oVec, m_row, m_keptOf, m_keptRow, m_viewOf, m_alarmOf, m_hasProof, m_depthOf, m_proofOf, m_signedOf, m_knownOf, m_doneOf, m_shownTo, m_sentBy, m_hasRead, m_readOf, m_lettersOf, m_letter, m_hand, m_text] <;> omega) | decide | omega | (simp only [oMs, oVws, oScr, oSgn, oMod, oMem, oSig, oKno, oPro, oBox, oFst, oSnd, oLts, oLet, oNum, oVw, oEnt, oBef, oBk, oVs, oCon, oVec, m_row, m_keptOf, m_keptRow, m_viewOf, m_alarmOf, m_hasProof, m_depthOf, m_proofOf, m_signedOf, m_knownOf, m_doneOf, m_shownTo, m_sentBy, m_hasRead, m_readOf, m_lettersOf, m_letter, m_hand, m_text] at * <;> omega)), sw_k (j := 4) (k := 6) (by first | (simp only [oMs, oVws, oScr, oSgn, oMod, oMem, oSig, oKno, oPro, oBox, oFst, oSnd, oLts, oLet, oNum, oVw, oEnt, oBef, oBk, oVs, oCon, oVec, m_row, m_keptOf, m_keptRow, m_viewOf, m_alarmOf, m_hasProof, m_depthOf, m_proofOf, m_signedOf, m_knownOf, m_doneOf, m_shownTo, m_sentBy, m_hasRead, m_readOf, m_lettersOf, m_letter, m_hand, m_text] <;> omega) | decide | omega | (simp only [oMs, oVws, oScr, oSgn, oMod, oMem, oSig, oKno, oPro, oBox, oFst, oSnd, oLts, oLet, oNum, oVw, oEnt, oBef, oBk, oVs, oCon, oVec, m_row, m_keptOf, m_keptRow, m_viewOf, m_alarmOf, m_hasProof, m_depthOf, m_proofOf, m_signedOf, m_knownOf, m_doneOf, m_shownTo, m_sentBy, m_hasRead, m_readOf, m_lettersOf, m_letter, m_hand, m_text] at * <;> omega)), sw_k (j := 4) (k := 5) (by first | (simp only [oMs, oVws, oScr, oSgn, oMod, oMem, oSig, oKno, oPro, oBox, oFst, oSnd, oLts, oLet, oNum, oVw, oEnt, oBef, oBk, oVs, oCon, oVec, m_row, m_keptOf, m_keptRow, m_viewOf, m_alarmOf, m_hasProof, m_depthOf, m_proofOf, m_signedOf, m_knownOf, m_doneOf, m_shownTo, m_sentBy, m_hasRead, m_readOf, m_lettersOf, m_letter, m_hand, m_text] <;> omega) | decide | omega | (simp only [oMs, oVws, oScr, oSgn, oMod, oMem, oSig, oKno, oPro, oBox, oFst, oSnd, oLts, oLet, oNum, oVw, oEnt, oBef, oBk, oVs, oCon, oVec, m_row, m_keptOf, m_keptRow, m_viewOf, m_alarmOf, m_hasProof, m_depthOf, m_proofOf, m_signedOf, m_knownOf, m_doneOf, m_shownTo, m_sentBy, m_hasRead, m_readOf, m_lettersOf, m_letter, m_hand, m_text] at * <;> omega)), sw_s]
  · rw [sw_k (j := 5) (k := 10) (by first | (simp only [oMs, oVws, oScr, oSgn, oMod, oMem, oSig, oKno, oPro, oBox, oFst, oSnd, oLts, oLet, oNum, oVw, oEnt, oBef, oBk, oVs, oCon, oVec, m_row, m_keptOf, m_keptRow, m_viewOf, m_alarmOf, m_hasProof, m_depthOf, m_proofOf, m_signedOf, m_knownOf, m_doneOf, m_shownTo, m_sentBy, m_hasRead, m_readOf, m_lettersOf, m_letter, m_hand, m_text] <;> omega) | decide | omega | (simp only [oMs, oVws, oScr, oSgn, oMod, oMem, oSig, oKno, oPro, oBox, oFst, oSnd, oLts, oLet, oNum, oVw, oEnt, oBef, oBk, oVs, oCon, oVec, m_row, m_keptOf, m_keptRow, m_viewOf, m_alarmOf, m_hasProof, m_depthOf, m_proofOf, m_signedOf, m_knownOf, m_doneOf, m_shownTo, m_sentBy, m_hasRead, m_readOf, m_lettersOf, m_letter, m_hand, m_text] at * <;> omega)), sw_k (j := 5) (k := 9) (by first | (simp only [oMs, oVws, oScr, oSgn, oMod, oMem, oSig, oKno, oPro, oBox, oFst, oSnd, oLts, oLet, oNum, oVw, oEnt, oBef, oBk, oVs, oCon, oVec, m_row, m_keptOf, m_keptRow, m_viewOf, m_alarmOf, m_hasProof, m_depthOf, m_proofOf, m_signedOf, m_knownOf, m_doneOf, m_shownTo, m_sentBy, m_hasRead, m_readOf, m_lettersOf, m_letter, m_hand, m_text] <;> omega) | decide | omega | (simp only [oMs, oVws, oScr, oSgn, oMod, oMem, oSig, oKno, oPro, oBox, oFst, oSnd, oLts, oLet, oNum, oVw, oEnt, oBef, oBk, oVs, oCon, oVec, m_row, m_keptOf, m_keptRow, m_viewOf, m_alarmOf, m_hasProof, m_depthOf, m_proofOf, m_signedOf, m_knownOf, m_doneOf, m_shownTo, m_sentBy, m_hasRead, m_readOf, m_lettersOf, m_letter, m_hand, m_text] at * <;> omega)), sw_k (j := 5) (k := 8) (by first | (simp only [oMs, oVws, oScr, oSgn, oMod, oMem, oSig, oKno, oPro, oBox, oFst, oSnd, oLts, oLet, oNum, oVw, oEnt, oBef, oBk, oVs, oCon, oVec, m_row, m_keptOf, m_keptRow, m_viewOf, m_alarmOf, m_hasProof, m_depthOf, m_proofOf, m_signedOf, m_knownOf, m_doneOf, m_shownTo, m_sentBy, m_hasRead, m_readOf, m_lettersOf, m_letter, m_hand, m_text] <;> omega) | decide | omega | (simp only [oMs, oVws, oScr, oSgn, oMod, oMem, oSig, oKno, oPro, oBox, oFst, oSnd, oLts, oLet, oNum, oVw, oEnt, oBef, oBk, oVs, oCon, oVec, m_row, m_keptOf, m_keptRow, m_viewOf, m_alarmOf, m_hasProof, m_depthOf, m_proofOf, m_signedOf, m_knownOf, m_doneOf, m_shownTo, m_sentBy, m_hasRead, m_readOf, m_lettersOf, m_letter, m_hand, m_text] at * <;> omega)), sw_k (j := 5) (k := 6) (by first | (simp only [oMs, oVws, oScr, oSgn, oMod, oMem, oSig, oKno, oPro, oBox, oFst, oSnd, oLts, oLet, oNum, oVw, oEnt, oBef, oBk, oVs, oCon, oVec, m_row, m_keptOf, m_keptRow, m_viewOf, m_alarmOf, m_hasProof, m_depthOf, m_proofOf, m_signedOf, m_knownOf, m_doneOf, m_shownTo, m_sentBy, m_hasRead, m_readOf, m_lettersOf, m_letter, m_hand, m_text] <;> omega) | decide | omega | (simp only [oMs, oVws, oScr, oSgn, oMod, oMem, oSig, oKno, oPro, oBox, oFst, oSnd, oLts, oLet, oNum, oVw, oEnt, oBef, oBk, oVs, oCon, oVec, m_row, m_keptOf, m_keptRow, m_viewOf, m_alarmOf, m_hasProof, m_depthOf, m_proofOf, m_signedOf, m_knownOf, m_doneOf, m_shownTo, m_sentBy, m_hasRead, m_readOf, m_lettersOf, m_letter, m_hand, m_text] at * <;> omega)), sw_s]
  · rw [sw_k (j := 6) (k := 10) (by first | (simp only [oMs, oVws, oScr, oSgn, oMod, oMem, oSig, oKno, oPro, oBox, oFst, oSnd, oLts, oLet, oNum, oVw, oEnt, oBef, oBk, oVs, oCon, oVec, m_row, m_keptOf, m_keptRow, m_viewOf, m_alarmOf, m_hasProof, m_depthOf, m_proofOf, m_signedOf, m_knownOf, m_doneOf, m_shownTo, m_sentBy, m_hasRead, m_readOf, m_lettersOf, m_letter, m_hand, m_text] <;> omega) | decide | omega | (simp only [oMs, oVws, oScr, oSgn, oMod, oMem, oSig, oKno, oPro, oBox, oFst, oSnd, oLts, oLet, oNum, oVw, oEnt, oBef, oBk, oVs, oCon, oVec, m_row, m_keptOf, m_keptRow, m_viewOf, m_alarmOf, m_hasProof, m_depthOf, m_proofOf, m_signedOf, m_knownOf, m_doneOf, m_shownTo, m_sentBy, m_hasRead, m_readOf, m_lettersOf, m_letter, m_hand, m_text] at * <;> omega)), sw_k (j := 6) (k := 9) (by first | (simp only [oMs, oVws, oScr, oSgn, oMod, oMem, oSig, oKno, oPro, oBox, oFst, oSnd, oLts, oLet, oNum, oVw, oEnt, oBef, oBk, oVs, oCon, oVec, m_row, m_keptOf, m_keptRow, m_viewOf, m_alarmOf, m_hasProof, m_depthOf, m_proofOf, m_signedOf, m_knownOf, m_doneOf, m_shownTo, m_sentBy, m_hasRead, m_readOf, m_lettersOf, m_letter, m_hand, m_text] <;> omega) | decide | omega | (simp only [oMs, oVws, oScr, oSgn, oMod, oMem, oSig, oKno, oPro, oBox, oFst, oSnd, oLts, oLet, oNum, oVw, oEnt, oBef, oBk, oVs, oCon, oVec, m_row, m_keptOf, m_keptRow, m_viewOf, m_alarmOf, m_hasProof, m_depthOf, m_proofOf, m_signedOf, m_knownOf, m_doneOf, m_shownTo, m_sentBy, m_hasRead, m_readOf, m_lettersOf, m_letter, m_hand, m_text] at * <;> omega)), sw_k (j := 6) (k := 8) (by first | (simp only [oMs, oVws, oScr, oSgn, oMod, oMem, oSig, oKno, oPro, oBox, oFst, oSnd, oLts, oLet, oNum, oVw, oEnt, oBef, oBk, oVs, oCon, oVec, m_row, m_keptOf, m_keptRow, m_viewOf, m_alarmOf, m_hasProof, m_depthOf, m_proofOf, m_signedOf, m_knownOf, m_doneOf, m_shownTo, m_sentBy, m_hasRead, m_readOf, m_lettersOf, m_letter, m_hand, m_text] <;> omega) | decide | omega | (simp only [oMs, oVws, oScr, oSgn, oMod, oMem, oSig, oKno, oPro, oBox, oFst, oSnd, oLts, oLet, oNum, oVw, oEnt, oBef, oBk, oVs, oCon, oVec, m_row, m_keptOf, m_keptRow, m_viewOf, m_alarmOf, m_hasProof, m_depthOf, m_proofOf, m_signedOf, m_knownOf, m_doneOf, m_shownTo, m_sentBy, m_hasRead, m_readOf, m_lettersOf, m_letter, m_hand, m_text] at * <;> omega)), sw_s]
  · rw [sw_k (j := 8) (k := 10) (by first | (simp only [oMs, oVws, oScr, oSgn, oMod, oMem, oSig, oKno, oPro, oBox, oFst, oSnd, oLts, oLet, oNum, oVw, oEnt, oBef, oBk, oVs, oCon, oVec, m_row, m_keptOf, m_keptRow, m_viewOf, m_alarmOf, m_hasProof, m_depthOf, m_proofOf, m_signedOf, m_knownOf, m_doneOf, m_shownTo, m_sentBy, m_hasRead, m_readOf, m_lettersOf, m_letter, m_hand, m_text] <;> omega) | decide | omega | (simp only [oMs, oVws, oScr, oSgn, oMod, oMem, oSig, oKno, oPro, oBox, oFst, oSnd, oLts, oLet, oNum, oVw, oEnt, oBef, oBk, oVs, oCon, oVec, m_row, m_keptOf, m_keptRow, m_viewOf, m_alarmOf, m_hasProof, m_depthOf, m_proofOf, m_signedOf, m_knownOf, m_doneOf, m_shownTo, m_sentBy, m_hasRead, m_readOf, m_lettersOf, m_letter, m_hand, m_text] at * <;> omega)), sw_k (j := 8) (k := 9) (by first | (simp only [oMs, oVws, oScr, oSgn, oMod, oMem, oSig, oKno, oPro, oBox, oFst, oSnd, oLts, oLet, oNum, oVw, oEnt, oBef, oBk, oVs, oCon, oVec, m_row, m_keptOf, m_keptRow, m_viewOf, m_alarmOf, m_hasProof, m_depthOf, m_proofOf, m_signedOf, m_knownOf, m_doneOf, m_shownTo, m_sentBy, m_hasRead, m_readOf, m_lettersOf, m_letter, m_hand, m_text] <;> omega) | decide | omega | (simp only [oMs, oVws, oScr, oSgn, oMod, oMem, oSig, oKno, oPro, oBox, oFst, oSnd, oLts, oLet, oNum, oVw, oEnt, oBef, oBk, oVs, oCon, oVec, m_row, m_keptOf, m_keptRow, m_viewOf, m_alarmOf, m_hasProof, m_depthOf, m_proofOf, m_signedOf, m_knownOf, m_doneOf, m_shownTo, m_sentBy, m_hasRead, m_readOf, m_lettersOf, m_letter, m_hand, m_text] at * <;> omega)), sw_s]
  · rw [sw_k (j := 9) (k := 10) (by first | (simp only [oMs, oVws, oScr, oSgn, oMod, oMem, oSig, oKno, oPro, oBox, oFst, oSnd, oLts, oLet, oNum, oVw, oEnt, oBef, oBk, oVs, oCon, oVec, m_row, m_keptOf, m_keptRow, m_viewOf, m_alarmOf, m_hasProof, m_depthOf, m_proofOf, m_signedOf, m_knownOf, m_doneOf, m_shownTo, m_sentBy, m_hasRead, m_readOf, m_lettersOf, m_letter, m_hand, m_text] <;> omega) | decide | omega | (simp only [oMs, oVws, oScr, oSgn, oMod, oMem, oSig, oKno, oPro, oBox, oFst, oSnd, oLts, oLet, oNum, oVw, oEnt, oBef, oBk, oVs, oCon, oVec, m_row, m_keptOf, m_keptRow, m_viewOf, m_alarmOf, m_hasProof, m_depthOf, m_proofOf, m_signedOf, m_knownOf, m_doneOf, m_shownTo, m_sentBy, m_hasRead, m_readOf, m_lettersOf, m_letter, m_hand, m_text] at * <;> omega)), sw_s]
  · rw [sw_s]
  · rw [sw_n (q := q) (o := o1) (by first | (simp only [oMs, oVws, oScr, oSgn, oMod, oMem, oSig, oKno, oPro, oBox, oFst, oSnd, oLts, oLet, oNum, oVw, oEnt, oBef, oBk, oVs, oCon, oVec, m_row, m_keptOf, m_keptRow, m_viewOf, m_alarmOf, m_hasProof, m_depthOf, m_proofOf, m_signedOf, m_knownOf, m_doneOf, m_shownTo, m_sentBy, m_hasRead, m_readOf, m_lettersOf, m_letter, m_hand, m_text] <;> omega) | decide | omega | (simp only [oMs, oVws, oScr, oSgn, oMod, oMem, oSig, oKno, oPro, oBox, oFst, oSnd, oLts, oLet, oNum, oVw, oEnt, oBef, oBk, oVs, oCon, oVec, m_row, m_keptOf, m_keptRow, m_viewOf, m_alarmOf, m_hasProof, m_depthOf, m_proofOf, m_signedOf, m_knownOf, m_doneOf, m_shownTo, m_sentBy, m_hasRead, m_readOf, m_lettersOf, m_letter, m_hand, m_text] at * <;> omega)), sw_n (q := q) (o := o1) (by first | (simp only [oMs, oVws, oScr, oSgn, oMod, oMem, oSig, oKno, oPro, oBox, oFst, oSnd, oLts, oLet, oNum, oVw, oEnt, oBef, oBk, oVs, oCon, oVec, m_row, m_keptOf, m_keptRow, m_viewOf, m_alarmOf, m_hasProof, m_depthOf, m_proofOf, m_signedOf, m_knownOf, m_doneOf, m_shownTo, m_sentBy, m_hasRead, m_readOf, m_lettersOf, m_letter, m_hand, m_text] <;> omega) | decide | omega | (simp only [oMs, oVws, oScr, oSgn, oMod, oMem, oSig, oKno, oPro, oBox, oFst, oSnd, oLts, oLet, oNum, oVw, oEnt, oBef, oBk, oVs, oCon, oVec, m_row, m_keptOf, m_keptRow, m_viewOf, m_alarmOf, m_hasProof, m_depthOf, m_proofOf, m_signedOf, m_knownOf, m_doneOf, m_shownTo, m_sentBy, m_hasRead, m_readOf, m_lettersOf, m_letter, m_hand, m_text] at * <;> omega)), sw_n (q := q) (o := o1) (by first | (simp only [oMs, oVws, oScr, oSgn, oMod, oMem, oSig, oKno, oPro, oBox, oFst, oSnd, oLts, oLet, oNum, oVw, oEnt, oBef, oBk, oVs, oCon, oVec, m_row, m_keptOf, m_keptRow, m_viewOf, m_alarmOf, m_hasProof, m_depthOf, m_proofOf, m_signedOf, m_knownOf, m_doneOf, m_shownTo, m_sentBy, m_hasRead, m_readOf, m_lettersOf, m_letter, m_hand, m_text] <;> omega) | decide | omega | (simp only [oMs, oVws, oScr, oSgn, oMod, oMem, oSig, oKno, oPro, oBox, oFst, oSnd, oLts, oLet, oNum, oVw, oEnt, oBef, oBk, oVs, oCon, oVec, m_row, m_keptOf, m_keptRow, m_viewOf, m_alarmOf, m_hasProof, m_depthOf, m_proofOf, m_signedOf, m_knownOf, m_doneOf, m_shownTo, m_sentBy, m_hasRead, m_readOf, m_lettersOf, m_letter, m_hand, m_text] at * <;> omega)), sw_n (q := q) (o := o1) (by first | (simp only [oMs, oVws, oScr, oSgn, oMod, oMem, oSig, oKno, oPro, oBox, oFst, oSnd, oLts, oLet, oNum, oVw, oEnt, oBef, oBk, oVs, oCon, oVec, m_row, m_keptOf, m_keptRow, m_viewOf, m_alarmOf, m_hasProof, m_depthOf, m_proofOf, m_signedOf, m_knownOf, m_doneOf, m_shownTo, m_sentBy, m_hasRead, m_readOf, m_lettersOf, m_letter, m_hand, m_text] <;> omega) | decide | omega | (simp only [oMs, oVws, oScr, oSgn, oMod, oMem, oSig, oKno, oPro, oBox, oFst, oSnd, oLts, oLet, oNum, oVw, oEnt, oBef, oBk, oVs, oCon, oVec, m_row, m_keptOf, m_keptRow, m_viewOf, m_alarmOf, m_hasProof, m_depthOf, m_proofOf, m_signedOf, m_knownOf, m_doneOf, m_shownTo, m_sentBy, m_hasRead, m_readOf, m_lettersOf, m_letter, m_hand, m_text] at * <;> omega)), sw_n (q := q) (o := o1) (by first | (simp only [oMs, oVws, oScr, oSgn, oMod, oMem, oSig, oKno, oPro, oBox, oFst, oSnd, oLts, oLet, oNum, oVw, oEnt, oBef, oBk, oVs, oCon, oVec, m_row, m_keptOf, m_keptRow, m_viewOf, m_alarmOf, m_hasProof, m_depthOf, m_proofOf, m_signedOf, m_knownOf, m_doneOf, m_shownTo, m_sentBy, m_hasRead, m_readOf, m_lettersOf, m_letter, m_hand, m_text] <;> omega) | decide | omega | (simp only [oMs, oVws, oScr, oSgn, oMod, oMem, oSig, oKno, oPro, oBox, oFst, oSnd, oLts, oLet, oNum, oVw, oEnt, oBef, oBk, oVs, oCon, oVec, m_row, m_keptOf, m_keptRow, m_viewOf, m_alarmOf, m_hasProof, m_depthOf, m_proofOf, m_signedOf, m_knownOf, m_doneOf, m_shownTo, m_sentBy, m_hasRead, m_readOf, m_lettersOf, m_letter, m_hand, m_text] at * <;> omega)), sw_n (q := q) (o := o1) (by first | (simp only [oMs, oVws, oScr, oSgn, oMod, oMem, oSig, oKno, oPro, oBox, oFst, oSnd, oLts, oLet, oNum, oVw, oEnt, oBef, oBk, oVs, oCon, oVec, m_row, m_keptOf, m_keptRow, m_viewOf, m_alarmOf, m_hasProof, m_depthOf, m_proofOf, m_signedOf, m_knownOf, m_doneOf, m_shownTo, m_sentBy, m_hasRead, m_readOf, m_lettersOf, m_letter, m_hand, m_text] <;> omega) | decide | omega | (simp only [oMs, oVws, oScr, oSgn, oMod, oMem, oSig, oKno, oPro, oBox, oFst, oSnd, oLts, oLet, oNum, oVw, oEnt, oBef, oBk, oVs, oCon, oVec, m_row, m_keptOf, m_keptRow, m_viewOf, m_alarmOf, m_hasProof, m_depthOf, m_proofOf, m_signedOf, m_knownOf, m_doneOf, m_shownTo, m_sentBy, m_hasRead, m_readOf, m_lettersOf, m_letter, m_hand, m_text] at * <;> omega)), sw_n (q := q) (o := (oBox o1)) (by first | (simp only [oMs, oVws, oScr, oSgn, oMod, oMem, oSig, oKno, oPro, oBox, oFst, oSnd, oLts, oLet, oNum, oVw, oEnt, oBef, oBk, oVs, oCon, oVec, m_row, m_keptOf, m_keptRow, m_viewOf, m_alarmOf, m_hasProof, m_depthOf, m_proofOf, m_signedOf, m_knownOf, m_doneOf, m_shownTo, m_sentBy, m_hasRead, m_readOf, m_lettersOf, m_letter, m_hand, m_text] <;> omega) | decide | omega | (simp only [oMs, oVws, oScr, oSgn, oMod, oMem, oSig, oKno, oPro, oBox, oFst, oSnd, oLts, oLet, oNum, oVw, oEnt, oBef, oBk, oVs, oCon, oVec, m_row, m_keptOf, m_keptRow, m_viewOf, m_alarmOf, m_hasProof, m_depthOf, m_proofOf, m_signedOf, m_knownOf, m_doneOf, m_shownTo, m_sentBy, m_hasRead, m_readOf, m_lettersOf, m_letter, m_hand, m_text] at * <;> omega)), sw_n (q := q) (o := (oPro o1)) (by first | (simp only [oMs, oVws, oScr, oSgn, oMod, oMem, oSig, oKno, oPro, oBox, oFst, oSnd, oLts, oLet, oNum, oVw, oEnt, oBef, oBk, oVs, oCon, oVec, m_row, m_keptOf, m_keptRow, m_viewOf, m_alarmOf, m_hasProof, m_depthOf, m_proofOf, m_signedOf, m_knownOf, m_doneOf, m_shownTo, m_sentBy, m_hasRead, m_readOf, m_lettersOf, m_letter, m_hand, m_text] <;> omega) | decide | omega | (simp only [oMs, oVws, oScr, oSgn, oMod, oMem, oSig, oKno, oPro, oBox, oFst, oSnd, oLts, oLet, oNum, oVw, oEnt, oBef, oBk, oVs, oCon, oVec, m_row, m_keptOf, m_keptRow, m_viewOf, m_alarmOf, m_hasProof, m_depthOf, m_proofOf, m_signedOf, m_knownOf, m_doneOf, m_shownTo, m_sentBy, m_hasRead, m_readOf, m_lettersOf, m_letter, m_hand, m_text] at * <;> omega)), su_n (q := q) (o := (oNum (oKno o1))) (by first | (simp only [oMs, oVws, oScr, oSgn, oMod, oMem, oSig, oKno, oPro, oBox, oFst, oSnd, oLts, oLet, oNum, oVw, oEnt, oBef, oBk, oVs, oCon, oVec, m_row, m_keptOf, m_keptRow, m_viewOf, m_alarmOf, m_hasProof, m_depthOf, m_proofOf, m_signedOf, m_knownOf, m_doneOf, m_shownTo, m_sentBy, m_hasRead, m_readOf, m_lettersOf, m_letter, m_hand, m_text] <;> omega) | decide | omega | (simp only [oMs, oVws, oScr, oSgn, oMod, oMem, oSig, oKno, oPro, oBox, oFst, oSnd, oLts, oLet, oNum, oVw, oEnt, oBef, oBk, oVs, oCon, oVec, m_row, m_keptOf, m_keptRow, m_viewOf, m_alarmOf, m_hasProof, m_depthOf, m_proofOf, m_signedOf, m_knownOf, m_doneOf, m_shownTo, m_sentBy, m_hasRead, m_readOf, m_lettersOf, m_letter, m_hand, m_text] at * <;> omega)), su_n (q := q) (o := (oNum (oSig o1))) (by first | (simp only [oMs, oVws, oScr, oSgn, oMod, oMem, oSig, oKno, oPro, oBox, oFst, oSnd, oLts, oLet, oNum, oVw, oEnt, oBef, oBk, oVs, oCon, oVec, m_row, m_keptOf, m_keptRow, m_viewOf, m_alarmOf, m_hasProof, m_depthOf, m_proofOf, m_signedOf, m_knownOf, m_doneOf, m_shownTo, m_sentBy, m_hasRead, m_readOf, m_lettersOf, m_letter, m_hand, m_text] <;> omega) | decide | omega | (simp only [oMs, oVws, oScr, oSgn, oMod, oMem, oSig, oKno, oPro, oBox, oFst, oSnd, oLts, oLet, oNum, oVw, oEnt, oBef, oBk, oVs, oCon, oVec, m_row, m_keptOf, m_keptRow, m_viewOf, m_alarmOf, m_hasProof, m_depthOf, m_proofOf, m_signedOf, m_knownOf, m_doneOf, m_shownTo, m_sentBy, m_hasRead, m_readOf, m_lettersOf, m_letter, m_hand, m_text] at * <;> omega))]
set_option maxRecDepth 100000 in
set_option maxHeartbeats 4000000 in
theorem c_X2_hear (l : Launch) (D : XD) (b n : Nat) {σ : XM} {o1 : Nat} {x : Int32} (h1 : kd o1 = 2) : xM l yX2_hear cX2_hear 2 none 0 0 0 0 D b n [.ref (b + o1), .int x] (xH D b σ) n (fun v h' => v = none ∧ h' = xH D b (sw (sw σ o1 7 x) o1 6 (nI 1))) := by
  refine xM.of (lv := [some (.ref (b + o1)), some (.int x)]) (by decide +kernel) rfl (List.forall_mem_cons.mpr ⟨rfl, List.forall_mem_cons.mpr ⟨rfl, fun _ h => absurd h List.not_mem_nil⟩⟩) (Nat.le_of_ble_eq_true rfl) rfl ?_
  intro p e s m args below meth c hC hr hnm
  refine xi_aload_n hC dX2_hear_0 (pc' := 1) rfl rfl rfl ?_
  refine xi_iload_n hC dX2_hear_1 (pc' := 2) rfl rfl rfl ?_
  refine xp2_heard hC dX2_hear_2 (pc' := 5) rfl xw_f_X2_62 h1 ?_
  refine xi_aload_n hC dX2_hear_5 (pc' := 6) rfl rfl rfl ?_
  refine xi_iconst (v := nI 1) hC dX2_hear_6 (pc' := 7) rfl (by decide +kernel) ?_
  refine xp2_hasHeard hC dX2_hear_7 (pc' := 10) rfl xw_f_X2_49 h1 (by decide) ?_
  refine xi_return hC dX2_hear_10 hr rfl ?_
  exact ⟨rfl, rfl⟩
set_option maxRecDepth 100000 in
set_option maxHeartbeats 4000000 in
theorem c_X2_raise (l : Launch) (D : XD) (b n : Nat) {σ : XM} {o1 : Nat} {x : Int32} (h1 : kd o1 = 2) : xM l yX2_raise cX2_raise 2 none 0 0 0 0 D b n [.ref (b + o1), .int x] (xH D b σ) n (fun v h' => v = none ∧ ∃ τ : XM, xRaise σ o1 x τ ∧ h' = xH D b τ) := by
  refine xM.of (lv := [some (.ref (b + o1)), some (.int x)]) (by decide +kernel) rfl (List.forall_mem_cons.mpr ⟨rfl, List.forall_mem_cons.mpr ⟨rfl, fun _ h => absurd h List.not_mem_nil⟩⟩) (Nat.le_of_ble_eq_true rfl) rfl ?_
  intro p e s m args below meth c hC hr hnm
  refine xi_aload_n hC dX2_raise_0 (pc' := 1) rfl rfl rfl ?_
  refine xg2_alarm hC dX2_raise_1 (pc' := 4) rfl xw_f_X2_46 h1 ?_
  refine xi_ifne (tgt := 12) hC dX2_raise_4 (pc' := 7) rfl (by decide) (fun zc4 => ?_) (fun zc4 => ?_)
  · skip
    refine xi_return hC dX2_raise_12 hr rfl ?_
    exact ⟨rfl, _, Or.inr ⟨zc4, rfl⟩, rfl⟩
  · skip
    refine xi_aload_n hC dX2_raise_7 (pc' := 8) rfl rfl rfl ?_
    refine xi_iload_n hC dX2_raise_8 (pc' := 9) rfl rfl rfl ?_
    refine xp2_alarm hC dX2_raise_9 (pc' := 12) rfl xw_f_X2_46 h1 ?_
    refine xi_return hC dX2_raise_12 hr rfl ?_
    exact ⟨rfl, _, Or.inl ⟨zc4, rfl⟩, rfl⟩
set_option maxRecDepth 100000 in
set_option maxHeartbeats 4000000 in
theorem c_X2_sign (l : Launch) (D : XD) (b n : Nat) {σ : XM} {o1 en j : Nat} (h1 : kd o1 = 2) (h2 : kd en = 1) (hj : j < 5) (hd : o1 + 20 ≤ en ∨ en + 13 ≤ o1) : xM l yX2_sign cX2_sign 3 none 2 44 0 0 D b n [.ref (b + o1), .int (nI j), .ref (b + en)] (xH D b σ) n (fun v h' => v = none ∧ ∃ τ : XM, (∀ k, k < 5 → τ (oNum (oKno o1)) k = (upd (xve σ en (gix (fun a c => vle 5 (xve σ en a) (xve σ en c)) 4)) j ((xve σ en (gix (fun a c => vle 5 (xve σ en a) (xve σ en c)) 4)) j + nI 1)) k) ∧ (∀ k, k < 5 → τ (oNum (oSig o1)) k = (upd (xve σ en (gix (fun a c => vle 5 (xve σ en a) (xve σ en c)) 4)) j ((xve σ en (gix (fun a c => vle 5 (xve σ en a) (xve σ en c)) 4)) j + nI 1)) k) ∧ (∀ k, k < 5 → τ (oNum (oVec (oVs en) j)) k = (upd (xve σ en (gix (fun a c => vle 5 (xve σ en a) (xve σ en c)) 4)) j ((xve σ en (gix (fun a c => vle 5 (xve σ en a) (xve σ en c)) 4)) j + nI 1)) k) ∧ τ o1 8 = σ o1 8 + nI 1 ∧ (∀ k, k ≠ 8 → τ o1 k = σ o1 k) ∧ (∀ q, q ≠ o1 → q ≠ oNum (oKno o1) → q ≠ oNum (oSig o1) → q ≠ oNum (oVec (oVs en) j) → τ q = σ q) ∧ h' = xH D b τ) := by
  refine xM.of (lv := [some (.ref (b + o1)), some (.int (nI j)), some (.ref (b + en))]) (by decide +kernel) rfl (List.forall_mem_cons.mpr ⟨rfl, List.forall_mem_cons.mpr ⟨rfl, List.forall_mem_cons.mpr ⟨rfl, fun _ h => absurd h List.not_mem_nil⟩⟩⟩) (Nat.le_of_ble_eq_true rfl) rfl ?_
  intro p e s m args below meth c hC hr hnm
  refine xi_aload_n hC dX2_sign_0 (pc' := 1) rfl rfl rfl ?_
  refine xg2_known hC dX2_sign_1 (pc' := 4) rfl xw_f_X2_18 h1 ?_
  refine xi_aload_n hC dX2_sign_4 (pc' := 5) rfl rfl rfl ?_
  refine xi_callV (As := []) (rest := [.ref (b + (oKno o1))]) (c_X1_greatest l D b n (σ := σ) h2) hC dX2_sign_5 (pc' := 8) rfl xw_m_X2_65 xw_c_X1_greatest xw_ins_X1_greatest xw_sel_X1_greatest xw_ini_X1 xd_X1_greatest (xH_at.trans (xsh_1 h2)) rfl ⟨Nat.le_of_ble_eq_true rfl, Nat.le_of_ble_eq_true rfl⟩ rfl (Nat.le_of_ble_eq_true rfl) ⟨Nat.le_of_ble_eq_true rfl, Nat.le_of_ble_eq_true rfl⟩ ?_
  rintro _ _ ⟨gi_1, hgi_2, egi_3, rfl, rfl⟩
  show xV _ _ _ _ _ _ _ _ _ _ _ _ _ _ _ _ _ (xH D b σ) _ _ [.ref (b + (oVec (oVs en) gi_1)), .ref (b + (oKno o1))]
  refine xi_callV (As := [.ref (b + (oVec (oVs en) gi_1))]) (rest := []) (c_X5_copyFrom l D b n (σ := σ) (kd_oKno h1) (kd_oVec (kd_oVs h2) hgi_2) (by first | (simp only [oMs, oVws, oScr, oSgn, oMod, oMem, oSig, oKno, oPro, oBox, oFst, oSnd, oLts, oLet, oNum, oVw, oEnt, oBef, oBk, oVs, oCon, oVec, m_row, m_keptOf, m_keptRow, m_viewOf, m_alarmOf, m_hasProof, m_depthOf, m_proofOf, m_signedOf, m_knownOf, m_doneOf, m_shownTo, m_sentBy, m_hasRead, m_readOf, m_lettersOf, m_letter, m_hand, m_text] <;> omega) | decide | omega | (simp only [oMs, oVws, oScr, oSgn, oMod, oMem, oSig, oKno, oPro, oBox, oFst, oSnd, oLts, oLet, oNum, oVw, oEnt, oBef, oBk, oVs, oCon, oVec, m_row, m_keptOf, m_keptRow, m_viewOf, m_alarmOf, m_hasProof, m_depthOf, m_proofOf, m_signedOf, m_knownOf, m_doneOf, m_shownTo, m_sentBy, m_hasRead, m_readOf, m_lettersOf, m_letter, m_hand, m_text] at * <;> omega))) hC dX2_sign_8 (pc' := 11) rfl xw_m_X2_71 xw_c_X5_copyFrom xw_ins_X5_copyFrom xw_sel_X5_copyFrom xw_ini_X5 xd_X5_copyFrom (xH_at.trans (xsh_5 (kd_oKno h1))) rfl ⟨Nat.le_of_ble_eq_true rfl, Nat.le_of_ble_eq_true rfl⟩ rfl (Nat.le_of_ble_eq_true rfl) ⟨Nat.le_of_ble_eq_true rfl, Nat.le_of_ble_eq_true rfl⟩ ?_
  rintro _ _ ⟨rfl, g_4, hg_5, rfl⟩
  show xV _ _ _ _ _ _ _ _ _ _ _ _ _ _ _ _ _ (xH D b (su σ (oNum (oKno o1)) g_4)) _ _ []
  refine xi_aload_n hC dX2_sign_11 (pc' := 12) rfl rfl rfl ?_
  refine xg2_known hC dX2_sign_12 (pc' := 15) rfl xw_f_X2_18 h1 ?_
  refine xg5_numbers hC dX2_sign_15 (pc' := 18) rfl xw_f_X2_75 (kd_oKno h1) ?_
  refine xi_iload_n hC dX2_sign_18 (pc' := 19) rfl rfl rfl ?_
  refine xi_dup2 hC dX2_sign_19 (pc' := 20) rfl rfl rfl ?_
  refine xl_i hC dX2_sign_20 (pc' := 21) rfl (N := 5) (kd_oNum (kd_oKno h1)) (by decide) rfl (by omega) ?_
  refine xtop (y := (g_4 j)) (by rw [su_s]) ?_
  refine xi_iconst (v := nI 1) hC dX2_sign_21 (pc' := 22) rfl (by decide +kernel) ?_
  refine xi_iadd hC dX2_sign_22 (pc' := 23) rfl ?_
  refine xs_i hC dX2_sign_23 (pc' := 24) rfl (N := 5) (kd_oNum (kd_oKno h1)) (by decide) rfl (by omega) ?_
  refine xstate sw_su ?_
  refine xi_aload_n hC dX2_sign_24 (pc' := 25) rfl rfl rfl ?_
  refine xg2_signed hC dX2_sign_25 (pc' := 28) rfl xw_f_X2_12 h1 ?_
  refine xi_aload_n hC dX2_sign_28 (pc' := 29) rfl rfl rfl ?_
  refine xg2_known hC dX2_sign_29 (pc' := 32) rfl xw_f_X2_18 h1 ?_
  refine xi_callV (As := [.ref (b + (oKno o1))]) (rest := []) (c_X5_copyFrom l D b n (σ := (su σ (oNum (oKno o1)) (upd g_4 j ((g_4 j) + (nI 1))))) (kd_oSig h1) (kd_oKno h1) (by first | (simp only [oMs, oVws, oScr, oSgn, oMod, oMem, oSig, oKno, oPro, oBox, oFst, oSnd, oLts, oLet, oNum, oVw, oEnt, oBef, oBk, oVs, oCon, oVec, m_row, m_keptOf, m_keptRow, m_viewOf, m_alarmOf, m_hasProof, m_depthOf, m_proofOf, m_signedOf, m_knownOf, m_doneOf, m_shownTo, m_sentBy, m_hasRead, m_readOf, m_lettersOf, m_letter, m_hand, m_text] <;> omega) | decide | omega | (simp only [oMs, oVws, oScr, oSgn, oMod, oMem, oSig, oKno, oPro, oBox, oFst, oSnd, oLts, oLet, oNum, oVw, oEnt, oBef, oBk, oVs, oCon, oVec, m_row, m_keptOf, m_keptRow, m_viewOf, m_alarmOf, m_hasProof, m_depthOf, m_proofOf, m_signedOf, m_knownOf, m_doneOf, m_shownTo, m_sentBy, m_hasRead, m_readOf, m_lettersOf, m_letter, m_hand, m_text] at * <;> omega))) hC dX2_sign_32 (pc' := 35) rfl xw_m_X2_71 xw_c_X5_copyFrom xw_ins_X5_copyFrom xw_sel_X5_copyFrom xw_ini_X5 xd_X5_copyFrom (xH_at.trans (xsh_5 (kd_oSig h1))) rfl ⟨Nat.le_of_ble_eq_true rfl, Nat.le_of_ble_eq_true rfl⟩ rfl (Nat.le_of_ble_eq_true rfl) ⟨Nat.le_of_ble_eq_true rfl, Nat.le_of_ble_eq_true rfl⟩ ?_
  rintro _ _ ⟨rfl, g_6, hg_7, rfl⟩
  show xV _ _ _ _ _ _ _ _ _ _ _ _ _ _ _ _ _ (xH D b (su (su σ (oNum (oKno o1)) (upd g_4 j ((g_4 j) + (nI 1)))) (oNum (oSig o1)) g_6)) _ _ []
  refine xi_aload_n hC dX2_sign_35 (pc' := 36) rfl rfl rfl ?_
  refine xg1_vectors hC dX2_sign_36 (pc' := 39) rfl xw_f_X2_79 h2 ?_
  refine xi_iload_n hC dX2_sign_39 (pc' := 40) rfl rfl rfl ?_
  refine xa_vectors hC dX2_sign_40 (pc' := 41) rfl (kd_oVs h2) rfl (by omega) ?_
  refine xi_aload_n hC dX2_sign_41 (pc' := 42) rfl rfl rfl ?_
  refine xg2_known hC dX2_sign_42 (pc' := 45) rfl xw_f_X2_18 h1 ?_
  refine xi_callV (As := [.ref (b + (oKno o1))]) (rest := []) (c_X5_copyFrom l D b n (σ := (su (su σ (oNum (oKno o1)) (upd g_4 j ((g_4 j) + (nI 1)))) (oNum (oSig o1)) g_6)) (kd_oVec (kd_oVs h2) (by omega)) (kd_oKno h1) (by first | (simp only [oMs, oVws, oScr, oSgn, oMod, oMem, oSig, oKno, oPro, oBox, oFst, oSnd, oLts, oLet, oNum, oVw, oEnt, oBef, oBk, oVs, oCon, oVec, m_row, m_keptOf, m_keptRow, m_viewOf, m_alarmOf, m_hasProof, m_depthOf, m_proofOf, m_signedOf, m_knownOf, m_doneOf, m_shownTo, m_sentBy, m_hasRead, m_readOf, m_lettersOf, m_letter, m_hand, m_text] <;> omega) | decide | omega | (simp only [oMs, oVws, oScr, oSgn, oMod, oMem, oSig, oKno, oPro, oBox, oFst, oSnd, oLts, oLet, oNum, oVw, oEnt, oBef, oBk, oVs, oCon, oVec, m_row, m_keptOf, m_keptRow, m_viewOf, m_alarmOf, m_hasProof, m_depthOf, m_proofOf, m_signedOf, m_knownOf, m_doneOf, m_shownTo, m_sentBy, m_hasRead, m_readOf, m_lettersOf, m_letter, m_hand, m_text] at * <;> omega))) hC dX2_sign_45 (pc' := 48) rfl xw_m_X2_71 xw_c_X5_copyFrom xw_ins_X5_copyFrom xw_sel_X5_copyFrom xw_ini_X5 xd_X5_copyFrom (xH_at.trans (xsh_5 (kd_oVec (kd_oVs h2) (by omega)))) rfl ⟨Nat.le_of_ble_eq_true rfl, Nat.le_of_ble_eq_true rfl⟩ rfl (Nat.le_of_ble_eq_true rfl) ⟨Nat.le_of_ble_eq_true rfl, Nat.le_of_ble_eq_true rfl⟩ ?_
  rintro _ _ ⟨rfl, g_8, hg_9, rfl⟩
  show xV _ _ _ _ _ _ _ _ _ _ _ _ _ _ _ _ _ (xH D b (su (su (su σ (oNum (oKno o1)) (upd g_4 j ((g_4 j) + (nI 1)))) (oNum (oSig o1)) g_6) (oNum (oVec (oVs en) j)) g_8)) _ _ []
  refine xi_aload_n hC dX2_sign_48 (pc' := 49) rfl rfl rfl ?_
  refine xi_dup hC dX2_sign_49 (pc' := 50) rfl rfl ?_
  refine xg2_operations hC dX2_sign_50 (pc' := 53) rfl xw_f_X2_53 h1 ?_
  refine xtop (y := (σ o1 8)) (by rw [su_n (q := o1) (o := (oNum (oVec (oVs en) j))) (by first | (simp only [oMs, oVws, oScr, oSgn, oMod, oMem, oSig, oKno, oPro, oBox, oFst, oSnd, oLts, oLet, oNum, oVw, oEnt, oBef, oBk, oVs, oCon, oVec, m_row, m_keptOf, m_keptRow, m_viewOf, m_alarmOf, m_hasProof, m_depthOf, m_proofOf, m_signedOf, m_knownOf, m_doneOf, m_shownTo, m_sentBy, m_hasRead, m_readOf, m_lettersOf, m_letter, m_hand, m_text] <;> omega) | decide | omega | (simp only [oMs, oVws, oScr, oSgn, oMod, oMem, oSig, oKno, oPro, oBox, oFst, oSnd, oLts, oLet, oNum, oVw, oEnt, oBef, oBk, oVs, oCon, oVec, m_row, m_keptOf, m_keptRow, m_viewOf, m_alarmOf, m_hasProof, m_depthOf, m_proofOf, m_signedOf, m_knownOf, m_doneOf, m_shownTo, m_sentBy, m_hasRead, m_readOf, m_lettersOf, m_letter, m_hand, m_text] at * <;> omega)), su_n (q := o1) (o := (oNum (oSig o1))) (by first | (simp only [oMs, oVws, oScr, oSgn, oMod, oMem, oSig, oKno, oPro, oBox, oFst, oSnd, oLts, oLet, oNum, oVw, oEnt, oBef, oBk, oVs, oCon, oVec, m_row, m_keptOf, m_keptRow, m_viewOf, m_alarmOf, m_hasProof, m_depthOf, m_proofOf, m_signedOf, m_knownOf, m_doneOf, m_shownTo, m_sentBy, m_hasRead, m_readOf, m_lettersOf, m_letter, m_hand, m_text] <;> omega) | decide | omega | (simp only [oMs, oVws, oScr, oSgn, oMod, oMem, oSig, oKno, oPro, oBox, oFst, oSnd, oLts, oLet, oNum, oVw, oEnt, oBef, oBk, oVs, oCon, oVec, m_row, m_keptOf, m_keptRow, m_viewOf, m_alarmOf, m_hasProof, m_depthOf, m_proofOf, m_signedOf, m_knownOf, m_doneOf, m_shownTo, m_sentBy, m_hasRead, m_readOf, m_lettersOf, m_letter, m_hand, m_text] at * <;> omega)), su_n (q := o1) (o := (oNum (oKno o1))) (by first | (simp only [oMs, oVws, oScr, oSgn, oMod, oMem, oSig, oKno, oPro, oBox, oFst, oSnd, oLts, oLet, oNum, oVw, oEnt, oBef, oBk, oVs, oCon, oVec, m_row, m_keptOf, m_keptRow, m_viewOf, m_alarmOf, m_hasProof, m_depthOf, m_proofOf, m_signedOf, m_knownOf, m_doneOf, m_shownTo, m_sentBy, m_hasRead, m_readOf, m_lettersOf, m_letter, m_hand, m_text] <;> omega) | decide | omega | (simp only [oMs, oVws, oScr, oSgn, oMod, oMem, oSig, oKno, oPro, oBox, oFst, oSnd, oLts, oLet, oNum, oVw, oEnt, oBef, oBk, oVs, oCon, oVec, m_row, m_keptOf, m_keptRow, m_viewOf, m_alarmOf, m_hasProof, m_depthOf, m_proofOf, m_signedOf, m_knownOf, m_doneOf, m_shownTo, m_sentBy, m_hasRead, m_readOf, m_lettersOf, m_letter, m_hand, m_text] at * <;> omega))]) ?_
  refine xi_iconst (v := nI 1) hC dX2_sign_53 (pc' := 54) rfl (by decide +kernel) ?_
  refine xi_iadd hC dX2_sign_54 (pc' := 55) rfl ?_
  refine xp2_operations hC dX2_sign_55 (pc' := 58) rfl xw_f_X2_53 h1 ?_
  have hU : ∀ k, k < 5 → upd g_4 j (g_4 j + nI 1) k = (upd (xve σ en (gix (fun a c => vle 5 (xve σ en a) (xve σ en c)) 4)) j ((xve σ en (gix (fun a c => vle 5 (xve σ en a) (xve σ en c)) 4)) j + nI 1)) k := by
    intro k hk
    rw [← egi_3]
    by_cases hkj : k = j
    · subst hkj; rw [upd_s, upd_s, hg_5 k hk]; rfl
    · rw [upd_n hkj, upd_n hkj, hg_5 k hk]; rfl
  refine xi_return hC dX2_sign_58 hr rfl ?_
  refine ⟨rfl, _, fun k hk => ?_, fun k hk => ?_, fun k hk => ?_, ?_, fun k hk => ?_, fun q q1 q2 q3 q4 => ?_, rfl⟩
  · rw [sw_n (by first | (simp only [oMs, oVws, oScr, oSgn, oMod, oMem, oSig, oKno, oPro, oBox, oFst, oSnd, oLts, oLet, oNum, oVw, oEnt, oBef, oBk, oVs, oCon, oVec, m_row, m_keptOf, m_keptRow, m_viewOf, m_alarmOf, m_hasProof, m_depthOf, m_proofOf, m_signedOf, m_knownOf, m_doneOf, m_shownTo, m_sentBy, m_hasRead, m_readOf, m_lettersOf, m_letter, m_hand, m_text] <;> omega) | decide | omega | (simp only [oMs, oVws, oScr, oSgn, oMod, oMem, oSig, oKno, oPro, oBox, oFst, oSnd, oLts, oLet, oNum, oVw, oEnt, oBef, oBk, oVs, oCon, oVec, m_row, m_keptOf, m_keptRow, m_viewOf, m_alarmOf, m_hasProof, m_depthOf, m_proofOf, m_signedOf, m_knownOf, m_doneOf, m_shownTo, m_sentBy, m_hasRead, m_readOf, m_lettersOf, m_letter, m_hand, m_text] at * <;> omega)), su_n (by first | (simp only [oMs, oVws, oScr, oSgn, oMod, oMem, oSig, oKno, oPro, oBox, oFst, oSnd, oLts, oLet, oNum, oVw, oEnt, oBef, oBk, oVs, oCon, oVec, m_row, m_keptOf, m_keptRow, m_viewOf, m_alarmOf, m_hasProof, m_depthOf, m_proofOf, m_signedOf, m_knownOf, m_doneOf, m_shownTo, m_sentBy, m_hasRead, m_readOf, m_lettersOf, m_letter, m_hand, m_text] <;> omega) | decide | omega | (simp only [oMs, oVws, oScr, oSgn, oMod, oMem, oSig, oKno, oPro, oBox, oFst, oSnd, oLts, oLet, oNum, oVw, oEnt, oBef, oBk, oVs, oCon, oVec, m_row, m_keptOf, m_keptRow, m_viewOf, m_alarmOf, m_hasProof, m_depthOf, m_proofOf, m_signedOf, m_knownOf, m_doneOf, m_shownTo, m_sentBy, m_hasRead, m_readOf, m_lettersOf, m_letter, m_hand, m_text] at * <;> omega)), su_n (by first | (simp only [oMs, oVws, oScr, oSgn, oMod, oMem, oSig, oKno, oPro, oBox, oFst, oSnd, oLts, oLet, oNum, oVw, oEnt, oBef, oBk, oVs, oCon, oVec, m_row, m_keptOf, m_keptRow, m_viewOf, m_alarmOf, m_hasProof, m_depthOf, m_proofOf, m_signedOf, m_knownOf, m_doneOf, m_shownTo, m_sentBy, m_hasRead, m_readOf, m_lettersOf, m_letter, m_hand, m_text] <;> omega) | decide | omega | (simp only [oMs, oVws, oScr, oSgn, oMod, oMem, oSig, oKno, oPro, oBox, oFst, oSnd, oLts, oLet, oNum, oVw, oEnt, oBef, oBk, oVs, oCon, oVec, m_row, m_keptOf, m_keptRow, m_viewOf, m_alarmOf, m_hasProof, m_depthOf, m_proofOf, m_signedOf, m_knownOf, m_doneOf, m_shownTo, m_sentBy, m_hasRead, m_readOf, m_lettersOf, m_letter, m_hand, m_text] at * <;> omega)), su_s]; exact hU k hk
  · rw [sw_n (by first | (simp only [oMs, oVws, oScr, oSgn, oMod, oMem, oSig, oKno, oPro, oBox, oFst, oSnd, oLts, oLet, oNum, oVw, oEnt, oBef, oBk, oVs, oCon, oVec, m_row, m_keptOf, m_keptRow, m_viewOf, m_alarmOf, m_hasProof, m_depthOf, m_proofOf, m_signedOf, m_knownOf, m_doneOf, m_shownTo, m_sentBy, m_hasRead, m_readOf, m_lettersOf, m_letter, m_hand, m_text] <;> omega) | decide | omega | (simp only [oMs, oVws, oScr, oSgn, oMod, oMem, oSig, oKno, oPro, oBox, oFst, oSnd, oLts, oLet, oNum, oVw, oEnt, oBef, oBk, oVs, oCon, oVec, m_row, m_keptOf, m_keptRow, m_viewOf, m_alarmOf, m_hasProof, m_depthOf, m_proofOf, m_signedOf, m_knownOf, m_doneOf, m_shownTo, m_sentBy, m_hasRead, m_readOf, m_lettersOf, m_letter, m_hand, m_text] at * <;> omega)), su_n (by first | (simp only [oMs, oVws, oScr, oSgn, oMod, oMem, oSig, oKno, oPro, oBox, oFst, oSnd, oLts, oLet, oNum, oVw, oEnt, oBef, oBk, oVs, oCon, oVec, m_row, m_keptOf, m_keptRow, m_viewOf, m_alarmOf, m_hasProof, m_depthOf, m_proofOf, m_signedOf, m_knownOf, m_doneOf, m_shownTo, m_sentBy, m_hasRead, m_readOf, m_lettersOf, m_letter, m_hand, m_text] <;> omega) | decide | omega | (simp only [oMs, oVws, oScr, oSgn, oMod, oMem, oSig, oKno, oPro, oBox, oFst, oSnd, oLts, oLet, oNum, oVw, oEnt, oBef, oBk, oVs, oCon, oVec, m_row, m_keptOf, m_keptRow, m_viewOf, m_alarmOf, m_hasProof, m_depthOf, m_proofOf, m_signedOf, m_knownOf, m_doneOf, m_shownTo, m_sentBy, m_hasRead, m_readOf, m_lettersOf, m_letter, m_hand, m_text] at * <;> omega)), su_s, hg_7 k hk, su_s]; exact hU k hk
  · rw [sw_n (by first | (simp only [oMs, oVws, oScr, oSgn, oMod, oMem, oSig, oKno, oPro, oBox, oFst, oSnd, oLts, oLet, oNum, oVw, oEnt, oBef, oBk, oVs, oCon, oVec, m_row, m_keptOf, m_keptRow, m_viewOf, m_alarmOf, m_hasProof, m_depthOf, m_proofOf, m_signedOf, m_knownOf, m_doneOf, m_shownTo, m_sentBy, m_hasRead, m_readOf, m_lettersOf, m_letter, m_hand, m_text] <;> omega) | decide | omega | (simp only [oMs, oVws, oScr, oSgn, oMod, oMem, oSig, oKno, oPro, oBox, oFst, oSnd, oLts, oLet, oNum, oVw, oEnt, oBef, oBk, oVs, oCon, oVec, m_row, m_keptOf, m_keptRow, m_viewOf, m_alarmOf, m_hasProof, m_depthOf, m_proofOf, m_signedOf, m_knownOf, m_doneOf, m_shownTo, m_sentBy, m_hasRead, m_readOf, m_lettersOf, m_letter, m_hand, m_text] at * <;> omega)), su_s, hg_9 k hk, su_n (by first | (simp only [oMs, oVws, oScr, oSgn, oMod, oMem, oSig, oKno, oPro, oBox, oFst, oSnd, oLts, oLet, oNum, oVw, oEnt, oBef, oBk, oVs, oCon, oVec, m_row, m_keptOf, m_keptRow, m_viewOf, m_alarmOf, m_hasProof, m_depthOf, m_proofOf, m_signedOf, m_knownOf, m_doneOf, m_shownTo, m_sentBy, m_hasRead, m_readOf, m_lettersOf, m_letter, m_hand, m_text] <;> omega) | decide | omega | (simp only [oMs, oVws, oScr, oSgn, oMod, oMem, oSig, oKno, oPro, oBox, oFst, oSnd, oLts, oLet, oNum, oVw, oEnt, oBef, oBk, oVs, oCon, oVec, m_row, m_keptOf, m_keptRow, m_viewOf, m_alarmOf, m_hasProof, m_depthOf, m_proofOf, m_signedOf, m_knownOf, m_doneOf, m_shownTo, m_sentBy, m_hasRead, m_readOf, m_lettersOf, m_letter, m_hand, m_text] at * <;> omega)), su_s]; exact hU k hk
  · rw [sw_s]
  · rw [sw_k hk, su_n (by first | (simp only [oMs, oVws, oScr, oSgn, oMod, oMem, oSig, oKno, oPro, oBox, oFst, oSnd, oLts, oLet, oNum, oVw, oEnt, oBef, oBk, oVs, oCon, oVec, m_row, m_keptOf, m_keptRow, m_viewOf, m_alarmOf, m_hasProof, m_depthOf, m_proofOf, m_signedOf, m_knownOf, m_doneOf, m_shownTo, m_sentBy, m_hasRead, m_readOf, m_lettersOf, m_letter, m_hand, m_text] <;> omega) | decide | omega | (simp only [oMs, oVws, oScr, oSgn, oMod, oMem, oSig, oKno, oPro, oBox, oFst, oSnd, oLts, oLet, oNum, oVw, oEnt, oBef, oBk, oVs, oCon, oVec, m_row, m_keptOf, m_keptRow, m_viewOf, m_alarmOf, m_hasProof, m_depthOf, m_proofOf, m_signedOf, m_knownOf, m_doneOf, m_shownTo, m_sentBy, m_hasRead, m_readOf, m_lettersOf, m_letter, m_hand, m_text] at * <;> omega)), su_n (by first | (simp only [oMs, oVws, oScr, oSgn, oMod, oMem, oSig, oKno, oPro, oBox, oFst, oSnd, oLts, oLet, oNum, oVw, oEnt, oBef, oBk, oVs, oCon, oVec, m_row, m_keptOf, m_keptRow, m_viewOf, m_alarmOf, m_hasProof, m_depthOf, m_proofOf, m_signedOf, m_knownOf, m_doneOf, m_shownTo, m_sentBy, m_hasRead, m_readOf, m_lettersOf, m_letter, m_hand, m_text] <;> omega) | decide | omega | (simp only [oMs, oVws, oScr, oSgn, oMod, oMem, oSig, oKno, oPro, oBox, oFst, oSnd, oLts, oLet, oNum, oVw, oEnt, oBef, oBk, oVs, oCon, oVec, m_row, m_keptOf, m_keptRow, m_viewOf, m_alarmOf, m_hasProof, m_depthOf, m_proofOf, m_signedOf, m_knownOf, m_doneOf, m_shownTo, m_sentBy, m_hasRead, m_readOf, m_lettersOf, m_letter, m_hand, m_text] at * <;> omega)), su_n (by first | (simp only [oMs, oVws, oScr, oSgn, oMod, oMem, oSig, oKno, oPro, oBox, oFst, oSnd, oLts, oLet, oNum, oVw, oEnt, oBef, oBk, oVs, oCon, oVec, m_row, m_keptOf, m_keptRow, m_viewOf, m_alarmOf, m_hasProof, m_depthOf, m_proofOf, m_signedOf, m_knownOf, m_doneOf, m_shownTo, m_sentBy, m_hasRead, m_readOf, m_lettersOf, m_letter, m_hand, m_text] <;> omega) | decide | omega | (simp only [oMs, oVws, oScr, oSgn, oMod, oMem, oSig, oKno, oPro, oBox, oFst, oSnd, oLts, oLet, oNum, oVw, oEnt, oBef, oBk, oVs, oCon, oVec, m_row, m_keptOf, m_keptRow, m_viewOf, m_alarmOf, m_hasProof, m_depthOf, m_proofOf, m_signedOf, m_knownOf, m_doneOf, m_shownTo, m_sentBy, m_hasRead, m_readOf, m_lettersOf, m_letter, m_hand, m_text] at * <;> omega))]
  · rw [sw_n q1, su_n q4, su_n q3, su_n q2]
set_option maxRecDepth 100000 in
set_option maxHeartbeats 4000000 in
theorem c_X2_proveLack (l : Launch) (D : XD) (b n : Nat) {σ : XM} {o1 q : Nat} (h1 : kd o1 = 2) (h2 : kd q = 5) (hne : q ≠ oSnd (oPro o1) ∧ q ≠ oFst (oPro o1)) : xM l yX2_proveLack cX2_proveLack 2 none 2 45 0 0 D b n [.ref (b + o1), .ref (b + q)] (xH D b σ) n (fun v h' => v = none ∧ ∃ τ : XM, ((rel 5 (σ (oNum (oKno o1))) (σ (oNum q)) = 2 ∧ xKeep σ (oPro o1) (nI 0) (σ (oNum (oKno o1))) (σ (oNum q)) τ) ∨ (rel 5 (σ (oNum (oKno o1))) (σ (oNum q)) ≠ 2 ∧ τ = σ)) ∧ h' = xH D b τ) := by
  refine xM.of (lv := [some (.ref (b + o1)), some (.ref (b + q))]) (by decide +kernel) rfl (List.forall_mem_cons.mpr ⟨rfl, List.forall_mem_cons.mpr ⟨rfl, fun _ h => absurd h List.not_mem_nil⟩⟩) (Nat.le_of_ble_eq_true rfl) rfl ?_
  intro p e s m args below meth c hC hr hnm
  refine xi_aload_n hC dX2_proveLack_0 (pc' := 1) rfl rfl rfl ?_
  refine xg2_known hC dX2_proveLack_1 (pc' := 4) rfl xw_f_X2_18 h1 ?_
  refine xi_aload_n hC dX2_proveLack_4 (pc' := 5) rfl rfl rfl ?_
  refine xi_callV (As := [.ref (b + q)]) (rest := []) (c_X5_relationTo l D b n (σ := σ) (kd_oKno h1) h2) hC dX2_proveLack_5 (pc' := 8) rfl xw_m_X2_83 xw_c_X5_relationTo xw_ins_X5_relationTo xw_sel_X5_relationTo xw_ini_X5 xd_X5_relationTo (xH_at.trans (xsh_5 (kd_oKno h1))) rfl ⟨Nat.le_of_ble_eq_true rfl, Nat.le_of_ble_eq_true rfl⟩ rfl (Nat.le_of_ble_eq_true rfl) ⟨Nat.le_of_ble_eq_true rfl, Nat.le_of_ble_eq_true rfl⟩ ?_
  rintro _ _ ⟨rfl, rfl⟩
  show xV _ _ _ _ _ _ _ _ _ _ _ _ _ _ _ _ _ (xH D b σ) _ _ [.int (rel 5 (σ (oNum (oKno o1))) (σ (oNum q)))]
  refine xi_iconst (v := nI 2) hC dX2_proveLack_8 (pc' := 9) rfl (by decide +kernel) ?_
  refine xi_icmpne (tgt := 25) hC dX2_proveLack_9 (pc' := 12) rfl (by decide) (fun zc9 => ?_) (fun zc9 => ?_)
  · skip
    refine xi_return hC dX2_proveLack_25 hr rfl ?_
    exact ⟨rfl, _, Or.inr ⟨fun z => zc9 (z.trans (by decide)), rfl⟩, rfl⟩
  · skip
    refine xi_aload_n hC dX2_proveLack_12 (pc' := 13) rfl rfl rfl ?_
    refine xg2_proof hC dX2_proveLack_13 (pc' := 16) rfl xw_f_X2_24 h1 ?_
    refine xi_aload_n hC dX2_proveLack_16 (pc' := 17) rfl rfl rfl ?_
    refine xg2_known hC dX2_proveLack_17 (pc' := 20) rfl xw_f_X2_18 h1 ?_
    refine xi_aload_n hC dX2_proveLack_20 (pc' := 21) rfl rfl rfl ?_
    refine xi_iconst (v := nI 0) hC dX2_proveLack_21 (pc' := 22) rfl (by decide +kernel) ?_
    refine xi_callV (As := [.ref (b + (oKno o1)), .ref (b + q), .int (nI 0)]) (rest := []) (c_X3_keepFirst l D b n (σ := σ) (x := (nI 0)) (kd_oPro h1) (kd_oKno h1) h2 (by refine ⟨?_, hne.1, hne.2⟩; simp only [oKno, oFst, oPro]; omega)) hC dX2_proveLack_22 (pc' := 25) rfl xw_m_X2_87 xw_c_X3_keepFirst xw_ins_X3_keepFirst xw_sel_X3_keepFirst xw_ini_X3 xd_X3_keepFirst (xH_at.trans (xsh_3 (kd_oPro h1))) rfl ⟨Nat.le_of_ble_eq_true rfl, Nat.le_of_ble_eq_true rfl⟩ rfl (Nat.le_of_ble_eq_true rfl) ⟨Nat.le_of_ble_eq_true rfl, Nat.le_of_ble_eq_true rfl⟩ ?_
    rintro _ _ ⟨rfl, τ_1, hK_2, rfl⟩
    show xV _ _ _ _ _ _ _ _ _ _ _ _ _ _ _ _ _ (xH D b τ_1) _ _ []
    refine xi_return hC dX2_proveLack_25 hr rfl ?_
    exact ⟨rfl, _, Or.inl ⟨zc9.trans (by decide), hK_2⟩, rfl⟩
set_option maxRecDepth 100000 in
set_option maxHeartbeats 4000000 in
theorem c_X2_learn (l : Launch) (D : XD) (b n : Nat) {σ : XM} {o1 q : Nat} (h1 : kd o1 = 2) (h2 : kd q = 5) (hne : q ≠ oKno o1 ∧ q ≠ oSnd (oPro o1) ∧ q ≠ oFst (oPro o1)) : xM l yX2_learn cX2_learn 2 (some .int) 2 45 0 0 D b n [.ref (b + o1), .ref (b + q)] (xH D b σ) n (fun v h' => ∃ (x : Int32) (τ : XM), v = some (.int x) ∧ ((vle 5 (σ (oNum q)) (σ (oNum (oKno o1))) ∧ x = nI 0 ∧ τ = σ) ∨ (¬ vle 5 (σ (oNum q)) (σ (oNum (oKno o1))) ∧ vle 5 (σ (oNum (oKno o1))) (σ (oNum q)) ∧ x = nI 1 ∧ ∃ g : Nat → Int32, (∀ k, k < 5 → g k = σ (oNum q) k) ∧ τ = su σ (oNum (oKno o1)) g) ∨ (¬ vle 5 (σ (oNum q)) (σ (oNum (oKno o1))) ∧ ¬ vle 5 (σ (oNum (oKno o1))) (σ (oNum q)) ∧ x = nI 2 ∧ ∃ τ1, xKeep σ (oPro o1) (nI 0) (σ (oNum (oKno o1))) (σ (oNum q)) τ1 ∧ xRaise τ1 o1 (nI 4) τ)) ∧ h' = xH D b τ) := by
  refine xM.of (lv := [some (.ref (b + o1)), some (.ref (b + q))]) (by decide +kernel) rfl (List.forall_mem_cons.mpr ⟨rfl, List.forall_mem_cons.mpr ⟨rfl, fun _ h => absurd h List.not_mem_nil⟩⟩) (Nat.le_of_ble_eq_true rfl) rfl ?_
  intro p e s m args below meth c hC hr hnm
  refine xi_aload_n hC dX2_learn_0 (pc' := 1) rfl rfl rfl ?_
  refine xi_aload_n hC dX2_learn_1 (pc' := 2) rfl rfl rfl ?_
  refine xg2_known hC dX2_learn_2 (pc' := 5) rfl xw_f_X2_18 h1 ?_
  refine xi_callV (As := [.ref (b + (oKno o1))]) (rest := []) (c_X5_isAtMost l D b n (σ := σ) h2 (kd_oKno h1)) hC dX2_learn_5 (pc' := 8) rfl xw_m_X2_91 xw_c_X5_isAtMost xw_ins_X5_isAtMost xw_sel_X5_isAtMost xw_ini_X5 xd_X5_isAtMost (xH_at.trans (xsh_5 h2)) rfl ⟨Nat.le_of_ble_eq_true rfl, Nat.le_of_ble_eq_true rfl⟩ rfl (Nat.le_of_ble_eq_true rfl) ⟨Nat.le_of_ble_eq_true rfl, Nat.le_of_ble_eq_true rfl⟩ ?_
  rintro _ _ ⟨rfl, rfl⟩
  show xV _ _ _ _ _ _ _ _ _ _ _ _ _ _ _ _ _ (xH D b σ) _ _ [.int (bI (vle 5 (σ (oNum q)) (σ (oNum (oKno o1)))))]
  refine xb_ifeq (tgt := 13) hC dX2_learn_8 (pc' := 11) rfl (by decide) (fun zc8 => ?_) (fun zc8 => ?_)
  · skip
    refine xi_aload_n hC dX2_learn_13 (pc' := 14) rfl rfl rfl ?_
    refine xg2_known hC dX2_learn_14 (pc' := 17) rfl xw_f_X2_18 h1 ?_
    refine xi_aload_n hC dX2_learn_17 (pc' := 18) rfl rfl rfl ?_
    refine xi_callV (As := [.ref (b + q)]) (rest := []) (c_X5_isAtMost l D b n (σ := σ) (kd_oKno h1) h2) hC dX2_learn_18 (pc' := 21) rfl xw_m_X2_91 xw_c_X5_isAtMost xw_ins_X5_isAtMost xw_sel_X5_isAtMost xw_ini_X5 xd_X5_isAtMost (xH_at.trans (xsh_5 (kd_oKno h1))) rfl ⟨Nat.le_of_ble_eq_true rfl, Nat.le_of_ble_eq_true rfl⟩ rfl (Nat.le_of_ble_eq_true rfl) ⟨Nat.le_of_ble_eq_true rfl, Nat.le_of_ble_eq_true rfl⟩ ?_
    rintro _ _ ⟨rfl, rfl⟩
    show xV _ _ _ _ _ _ _ _ _ _ _ _ _ _ _ _ _ (xH D b σ) _ _ [.int (bI (vle 5 (σ (oNum (oKno o1))) (σ (oNum q))))]
    refine xb_ifeq (tgt := 34) hC dX2_learn_21 (pc' := 24) rfl (by decide) (fun zc21 => ?_) (fun zc21 => ?_)
    · skip
      refine xi_aload_n hC dX2_learn_34 (pc' := 35) rfl rfl rfl ?_
      refine xg2_proof hC dX2_learn_35 (pc' := 38) rfl xw_f_X2_24 h1 ?_
      refine xi_aload_n hC dX2_learn_38 (pc' := 39) rfl rfl rfl ?_
      refine xg2_known hC dX2_learn_39 (pc' := 42) rfl xw_f_X2_18 h1 ?_
      refine xi_aload_n hC dX2_learn_42 (pc' := 43) rfl rfl rfl ?_
      refine xi_iconst (v := nI 0) hC dX2_learn_43 (pc' := 44) rfl (by decide +kernel) ?_
      refine xi_callV (As := [.ref (b + (oKno o1)), .ref (b + q), .int (nI 0)]) (rest := []) (c_X3_keepFirst l D b n (σ := σ) (x := (nI 0)) (kd_oPro h1) (kd_oKno h1) h2 (by refine ⟨?_, hne.2.1, hne.2.2⟩; simp only [oKno, oFst, oPro]; omega)) hC dX2_learn_44 (pc' := 47) rfl xw_m_X2_87 xw_c_X3_keepFirst xw_ins_X3_keepFirst xw_sel_X3_keepFirst xw_ini_X3 xd_X3_keepFirst (xH_at.trans (xsh_3 (kd_oPro h1))) rfl ⟨Nat.le_of_ble_eq_true rfl, Nat.le_of_ble_eq_true rfl⟩ rfl (Nat.le_of_ble_eq_true rfl) ⟨Nat.le_of_ble_eq_true rfl, Nat.le_of_ble_eq_true rfl⟩ ?_
      rintro _ _ ⟨rfl, τ_1, hK_2, rfl⟩
      show xV _ _ _ _ _ _ _ _ _ _ _ _ _ _ _ _ _ (xH D b τ_1) _ _ []
      refine xi_aload_n hC dX2_learn_47 (pc' := 48) rfl rfl rfl ?_
      refine xi_iconst (v := nI 4) hC dX2_learn_48 (pc' := 49) rfl (by decide +kernel) ?_
      refine xi_callV (As := [.int (nI 4)]) (rest := []) (c_X2_raise l D b n (σ := τ_1) (x := (nI 4)) h1) hC dX2_learn_49 (pc' := 52) rfl xw_m_X2_95 xw_c_X2_raise xw_ins_X2_raise xw_sel_X2_raise xw_ini_X2 xd_X2_raise (xH_at.trans (xsh_2 h1)) rfl ⟨Nat.le_of_ble_eq_true rfl, Nat.le_of_ble_eq_true rfl⟩ rfl (Nat.le_of_ble_eq_true rfl) ⟨Nat.le_of_ble_eq_true rfl, Nat.le_of_ble_eq_true rfl⟩ ?_
      rintro _ _ ⟨rfl, τ_3, hR_4, rfl⟩
      show xV _ _ _ _ _ _ _ _ _ _ _ _ _ _ _ _ _ (xH D b τ_3) _ _ []
      refine xi_iconst (v := nI 2) hC dX2_learn_52 (pc' := 53) rfl (by decide +kernel) ?_
      refine xi_ireturn hC dX2_learn_53 hr rfl ?_
      exact ⟨_, _, rfl, Or.inr (Or.inr ⟨zc8, zc21, rfl, _, hK_2, hR_4⟩), rfl⟩
    · skip
      refine xi_aload_n hC dX2_learn_24 (pc' := 25) rfl rfl rfl ?_
      refine xg2_known hC dX2_learn_25 (pc' := 28) rfl xw_f_X2_18 h1 ?_
      refine xi_aload_n hC dX2_learn_28 (pc' := 29) rfl rfl rfl ?_
      refine xi_callV (As := [.ref (b + q)]) (rest := []) (c_X5_copyFrom l D b n (σ := σ) (kd_oKno h1) h2 hne.1) hC dX2_learn_29 (pc' := 32) rfl xw_m_X2_71 xw_c_X5_copyFrom xw_ins_X5_copyFrom xw_sel_X5_copyFrom xw_ini_X5 xd_X5_copyFrom (xH_at.trans (xsh_5 (kd_oKno h1))) rfl ⟨Nat.le_of_ble_eq_true rfl, Nat.le_of_ble_eq_true rfl⟩ rfl (Nat.le_of_ble_eq_true rfl) ⟨Nat.le_of_ble_eq_true rfl, Nat.le_of_ble_eq_true rfl⟩ ?_
      rintro _ _ ⟨rfl, g_5, hg_6, rfl⟩
      show xV _ _ _ _ _ _ _ _ _ _ _ _ _ _ _ _ _ (xH D b (su σ (oNum (oKno o1)) g_5)) _ _ []
      refine xi_iconst (v := nI 1) hC dX2_learn_32 (pc' := 33) rfl (by decide +kernel) ?_
      refine xi_ireturn hC dX2_learn_33 hr rfl ?_
      exact ⟨_, _, rfl, Or.inr (Or.inl ⟨zc8, zc21, rfl, _, hg_6, rfl⟩), rfl⟩
  · skip
    refine xi_iconst (v := nI 0) hC dX2_learn_11 (pc' := 12) rfl (by decide +kernel) ?_
    refine xi_ireturn hC dX2_learn_12 hr rfl ?_
    exact ⟨_, _, rfl, Or.inl ⟨zc8, rfl, rfl⟩, rfl⟩
set_option maxRecDepth 100000 in
set_option maxHeartbeats 4000000 in
theorem c_X4_append (l : Launch) (D : XD) (b n : Nat) {σ : XM} {z : Nat} {x : Int32} (hz : σ oScr 1 = nI z) (hz6 : z < 60) : xM l yX4_append cX4_append 2 none 0 0 0 0 D b n [.ref (b + oScr), .int x] (xH D b σ) n (fun v h' => v = none ∧ h' = xH D b (sw (sw σ oSgn z x) oScr 1 (nI (z + 1)))) := by
  refine xM.of (lv := [some (.ref (b + oScr)), some (.int x)]) (by decide +kernel) rfl (List.forall_mem_cons.mpr ⟨rfl, List.forall_mem_cons.mpr ⟨rfl, fun _ h => absurd h List.not_mem_nil⟩⟩) (Nat.le_of_ble_eq_true rfl) rfl ?_
  intro p e s m args below meth c hC hr hnm
  refine xi_aload_n hC dX4_append_0 (pc' := 1) rfl rfl rfl ?_
  refine xg4_length hC dX4_append_1 (pc' := 4) rfl xw_f_X4_15 kd_oScr ?_
  refine xtop (y := (nI z)) (hz) ?_
  refine xi_bipush (v := nI 60) hC dX4_append_4 (pc' := 6) rfl (by decide +kernel) ?_
  refine xn_icmpge (tgt := 29) hC dX4_append_6 (pc' := 9) rfl (by decide) (by omega) (by omega) (fun zc6 => ?_) (fun zc6 => ?_)
  · omega
  · skip
    refine xi_aload_n hC dX4_append_9 (pc' := 10) rfl rfl rfl ?_
    refine xg4_signs hC dX4_append_10 (pc' := 13) rfl xw_f_X4_9 kd_oScr ?_
    refine xi_aload_n hC dX4_append_13 (pc' := 14) rfl rfl rfl ?_
    refine xg4_length hC dX4_append_14 (pc' := 17) rfl xw_f_X4_15 kd_oScr ?_
    refine xtop (y := (nI z)) (hz) ?_
    refine xi_iload_n hC dX4_append_17 (pc' := 18) rfl rfl rfl ?_
    refine xs_i hC dX4_append_18 (pc' := 19) rfl (N := 60) kd_oSgn (by decide) rfl (by omega) ?_
    refine xi_aload_n hC dX4_append_19 (pc' := 20) rfl rfl rfl ?_
    refine xi_dup hC dX4_append_20 (pc' := 21) rfl rfl ?_
    refine xg4_length hC dX4_append_21 (pc' := 24) rfl xw_f_X4_15 kd_oScr ?_
    refine xtop (y := (σ oScr 1)) (by rw [sw_n (q := oScr) (o := oSgn) (by first | (simp only [oMs, oVws, oScr, oSgn, oMod, oMem, oSig, oKno, oPro, oBox, oFst, oSnd, oLts, oLet, oNum, oVw, oEnt, oBef, oBk, oVs, oCon, oVec, m_row, m_keptOf, m_keptRow, m_viewOf, m_alarmOf, m_hasProof, m_depthOf, m_proofOf, m_signedOf, m_knownOf, m_doneOf, m_shownTo, m_sentBy, m_hasRead, m_readOf, m_lettersOf, m_letter, m_hand, m_text] <;> omega) | decide | omega | (simp only [oMs, oVws, oScr, oSgn, oMod, oMem, oSig, oKno, oPro, oBox, oFst, oSnd, oLts, oLet, oNum, oVw, oEnt, oBef, oBk, oVs, oCon, oVec, m_row, m_keptOf, m_keptRow, m_viewOf, m_alarmOf, m_hasProof, m_depthOf, m_proofOf, m_signedOf, m_knownOf, m_doneOf, m_shownTo, m_sentBy, m_hasRead, m_readOf, m_lettersOf, m_letter, m_hand, m_text] at * <;> omega))]) ?_
    refine xtop (y := (nI z)) (hz) ?_
    refine xi_iconst (v := nI 1) hC dX4_append_24 (pc' := 25) rfl (by decide +kernel) ?_
    refine xn_iadd hC dX4_append_25 (pc' := 26) rfl ?_
    refine xp4_length hC dX4_append_26 (pc' := 29) rfl xw_f_X4_15 kd_oScr ?_
    refine xi_return hC dX4_append_29 hr rfl ?_
    exact ⟨rfl, rfl⟩
set_option maxRecDepth 100000 in
set_option maxHeartbeats 4000000 in
theorem c_X4_digit (l : Launch) (D : XD) (b n : Nat) {σ : XM} {z a : Nat} (hz : σ oScr 1 = nI z) (hz6 : z ≤ 60) (ha : a < z) : xM l yX4_digit cX4_digit 2 (some .int) 0 0 0 0 D b n [.ref (b + oScr), .int (nI a)] (xH D b σ) n (fun v h' => v = some (.int (σ oSgn a - nI 48)) ∧ h' = xH D b σ) := by
  refine xM.of (lv := [some (.ref (b + oScr)), some (.int (nI a))]) (by decide +kernel) rfl (List.forall_mem_cons.mpr ⟨rfl, List.forall_mem_cons.mpr ⟨rfl, fun _ h => absurd h List.not_mem_nil⟩⟩) (Nat.le_of_ble_eq_true rfl) rfl ?_
  intro p e s m args below meth c hC hr hnm
  refine xi_iload_n hC dX4_digit_0 (pc' := 1) rfl rfl rfl ?_
  refine xn_iflt (tgt := 24) hC dX4_digit_1 (pc' := 4) rfl (by decide) (by omega) (fun zc1 => ?_) (fun zc1 => ?_)
  · exact zc1.elim
  · skip
    refine xi_iload_n hC dX4_digit_4 (pc' := 5) rfl rfl rfl ?_
    refine xi_aload_n hC dX4_digit_5 (pc' := 6) rfl rfl rfl ?_
    refine xg4_length hC dX4_digit_6 (pc' := 9) rfl xw_f_X4_15 kd_oScr ?_
    refine xtop (y := (nI z)) (hz) ?_
    refine xn_icmpge (tgt := 24) hC dX4_digit_9 (pc' := 12) rfl (by decide) (by omega) (by omega) (fun zc9 => ?_) (fun zc9 => ?_)
    · omega
    · skip
      refine xi_aload_n hC dX4_digit_12 (pc' := 13) rfl rfl rfl ?_
      refine xg4_signs hC dX4_digit_13 (pc' := 16) rfl xw_f_X4_9 kd_oScr ?_
      refine xi_iload_n hC dX4_digit_16 (pc' := 17) rfl rfl rfl ?_
      refine xl_i hC dX4_digit_17 (pc' := 18) rfl (N := 60) kd_oSgn (by decide) rfl (by omega) ?_
      refine xi_bipush (v := nI 48) hC dX4_digit_18 (pc' := 20) rfl (by decide +kernel) ?_
      refine xi_isub hC dX4_digit_20 (pc' := 21) rfl ?_
      refine xi_goto (tgt := 25) hC dX4_digit_21 (by decide) ?_
      refine xi_ireturn hC dX4_digit_25 hr rfl ?_
      exact ⟨rfl, rfl⟩
set_option maxRecDepth 100000 in
set_option maxHeartbeats 4000000 in
theorem c_X4_isLetter (l : Launch) (D : XD) (b n : Nat) {σ : XM} {x : Int32} : xM l yX4_isLetter cX4_isLetter 1 (some .boolean) 0 0 0 0 D b n [.int x] (xH D b σ) n (fun v h' => v = some (.int (bI (isL x))) ∧ h' = xH D b σ) := by
  refine xM.of (lv := [some (.int x)]) (by decide +kernel) rfl (List.forall_mem_cons.mpr ⟨rfl, fun _ h => absurd h List.not_mem_nil⟩) (Nat.le_of_ble_eq_true rfl) rfl ?_
  intro p e s m args below meth c hC hr hnm
  refine xi_iload_n hC dX4_isLetter_0 (pc' := 1) rfl rfl rfl ?_
  refine xi_bipush (v := nI 119) hC dX4_isLetter_1 (pc' := 3) rfl (by decide +kernel) ?_
  refine xi_icmpeq (tgt := 30) hC dX4_isLetter_3 (pc' := 6) rfl (by decide) (fun zc3 => ?_) (fun zc3 => ?_)
  · skip
    refine xi_iconst (v := nI 1) hC dX4_isLetter_30 (pc' := 31) rfl (by decide +kernel) ?_
    refine xi_goto (tgt := 35) hC dX4_isLetter_31 (by decide) ?_
    refine xb_ireturn hC dX4_isLetter_35 hr (by decide) rfl ?_
    exact ⟨by rw [bI_t (show isL x from by first | exact Or.inl (by assumption) | exact Or.inr (Or.inl (by assumption)) | exact Or.inr (Or.inr (Or.inl (by assumption))) | exact Or.inr (Or.inr (Or.inr (Or.inl (by assumption)))) | exact Or.inr (Or.inr (Or.inr (Or.inr (by assumption)))))], rfl⟩
  · skip
    refine xi_iload_n hC dX4_isLetter_6 (pc' := 7) rfl rfl rfl ?_
    refine xi_bipush (v := nI 114) hC dX4_isLetter_7 (pc' := 9) rfl (by decide +kernel) ?_
    refine xi_icmpeq (tgt := 30) hC dX4_isLetter_9 (pc' := 12) rfl (by decide) (fun zc9 => ?_) (fun zc9 => ?_)
    · skip
      refine xi_iconst (v := nI 1) hC dX4_isLetter_30 (pc' := 31) rfl (by decide +kernel) ?_
      refine xi_goto (tgt := 35) hC dX4_isLetter_31 (by decide) ?_
      refine xb_ireturn hC dX4_isLetter_35 hr (by decide) rfl ?_
      exact ⟨by rw [bI_t (show isL x from by first | exact Or.inl (by assumption) | exact Or.inr (Or.inl (by assumption)) | exact Or.inr (Or.inr (Or.inl (by assumption))) | exact Or.inr (Or.inr (Or.inr (Or.inl (by assumption)))) | exact Or.inr (Or.inr (Or.inr (Or.inr (by assumption)))))], rfl⟩
    · skip
      refine xi_iload_n hC dX4_isLetter_12 (pc' := 13) rfl rfl rfl ?_
      refine xi_bipush (v := nI 115) hC dX4_isLetter_13 (pc' := 15) rfl (by decide +kernel) ?_
      refine xi_icmpeq (tgt := 30) hC dX4_isLetter_15 (pc' := 18) rfl (by decide) (fun zc15 => ?_) (fun zc15 => ?_)
      · skip
        refine xi_iconst (v := nI 1) hC dX4_isLetter_30 (pc' := 31) rfl (by decide +kernel) ?_
        refine xi_goto (tgt := 35) hC dX4_isLetter_31 (by decide) ?_
        refine xb_ireturn hC dX4_isLetter_35 hr (by decide) rfl ?_
        exact ⟨by rw [bI_t (show isL x from by first | exact Or.inl (by assumption) | exact Or.inr (Or.inl (by assumption)) | exact Or.inr (Or.inr (Or.inl (by assumption))) | exact Or.inr (Or.inr (Or.inr (Or.inl (by assumption)))) | exact Or.inr (Or.inr (Or.inr (Or.inr (by assumption)))))], rfl⟩
      · skip
        refine xi_iload_n hC dX4_isLetter_18 (pc' := 19) rfl rfl rfl ?_
        refine xi_bipush (v := nI 103) hC dX4_isLetter_19 (pc' := 21) rfl (by decide +kernel) ?_
        refine xi_icmpeq (tgt := 30) hC dX4_isLetter_21 (pc' := 24) rfl (by decide) (fun zc21 => ?_) (fun zc21 => ?_)
        · skip
          refine xi_iconst (v := nI 1) hC dX4_isLetter_30 (pc' := 31) rfl (by decide +kernel) ?_
          refine xi_goto (tgt := 35) hC dX4_isLetter_31 (by decide) ?_
          refine xb_ireturn hC dX4_isLetter_35 hr (by decide) rfl ?_
          exact ⟨by rw [bI_t (show isL x from by first | exact Or.inl (by assumption) | exact Or.inr (Or.inl (by assumption)) | exact Or.inr (Or.inr (Or.inl (by assumption))) | exact Or.inr (Or.inr (Or.inr (Or.inl (by assumption)))) | exact Or.inr (Or.inr (Or.inr (Or.inr (by assumption)))))], rfl⟩
        · skip
          refine xi_iload_n hC dX4_isLetter_24 (pc' := 25) rfl rfl rfl ?_
          refine xi_bipush (v := nI 109) hC dX4_isLetter_25 (pc' := 27) rfl (by decide +kernel) ?_
          refine xi_icmpne (tgt := 34) hC dX4_isLetter_27 (pc' := 30) rfl (by decide) (fun zc27 => ?_) (fun zc27 => ?_)
          · skip
            refine xi_iconst (v := nI 0) hC dX4_isLetter_34 (pc' := 35) rfl (by decide +kernel) ?_
            refine xb_ireturn hC dX4_isLetter_35 hr (by decide) rfl ?_
            exact ⟨by rw [bI_f (show ¬ isL x from fun z => by rcases z with z | z | z | z | z; exact zc3 z; exact zc9 z; exact zc15 z; exact zc21 z; exact zc27 z)], rfl⟩
          · skip
            refine xi_iconst (v := nI 1) hC dX4_isLetter_30 (pc' := 31) rfl (by decide +kernel) ?_
            refine xi_goto (tgt := 35) hC dX4_isLetter_31 (by decide) ?_
            refine xb_ireturn hC dX4_isLetter_35 hr (by decide) rfl ?_
            exact ⟨by rw [bI_t (show isL x from by first | exact Or.inl (by assumption) | exact Or.inr (Or.inl (by assumption)) | exact Or.inr (Or.inr (Or.inl (by assumption))) | exact Or.inr (Or.inr (Or.inr (Or.inl (by assumption)))) | exact Or.inr (Or.inr (Or.inr (Or.inr (by assumption)))))], rfl⟩
set_option maxRecDepth 100000 in
set_option maxHeartbeats 4000000 in
theorem c_X4_isDigit (l : Launch) (D : XD) (b n : Nat) {σ : XM} {x : Int32} : xM l yX4_isDigit cX4_isDigit 1 (some .boolean) 0 0 0 0 D b n [.int x] (xH D b σ) n (fun v h' => v = some (.int (bI (isD x))) ∧ h' = xH D b σ) := by
  refine xM.of (lv := [some (.int x)]) (by decide +kernel) rfl (List.forall_mem_cons.mpr ⟨rfl, fun _ h => absurd h List.not_mem_nil⟩) (Nat.le_of_ble_eq_true rfl) rfl ?_
  intro p e s m args below meth c hC hr hnm
  refine xi_iload_n hC dX4_isDigit_0 (pc' := 1) rfl rfl rfl ?_
  refine xi_bipush (v := nI 48) hC dX4_isDigit_1 (pc' := 3) rfl (by decide +kernel) ?_
  refine xi_icmplt (tgt := 16) hC dX4_isDigit_3 (pc' := 6) rfl (by decide) (fun zc3 => ?_) (fun zc3 => ?_)
  · skip
    refine xi_iconst (v := nI 0) hC dX4_isDigit_16 (pc' := 17) rfl (by decide +kernel) ?_
    refine xb_ireturn hC dX4_isDigit_17 hr (by decide) rfl ?_
    exact ⟨by rw [bI_f (show ¬ isD x from fun z => by first | exact i_not_lt.mpr z.1 zc3 | exact i_not_lt.mpr z.2 zc9)], rfl⟩
  · skip
    refine xi_iload_n hC dX4_isDigit_6 (pc' := 7) rfl rfl rfl ?_
    refine xi_bipush (v := nI 57) hC dX4_isDigit_7 (pc' := 9) rfl (by decide +kernel) ?_
    refine xi_icmpgt (tgt := 16) hC dX4_isDigit_9 (pc' := 12) rfl (by decide) (fun zc9 => ?_) (fun zc9 => ?_)
    · skip
      refine xi_iconst (v := nI 0) hC dX4_isDigit_16 (pc' := 17) rfl (by decide +kernel) ?_
      refine xb_ireturn hC dX4_isDigit_17 hr (by decide) rfl ?_
      exact ⟨by rw [bI_f (show ¬ isD x from fun z => by first | exact i_not_lt.mpr z.1 zc3 | exact i_not_lt.mpr z.2 zc9)], rfl⟩
    · skip
      refine xi_iconst (v := nI 1) hC dX4_isDigit_12 (pc' := 13) rfl (by decide +kernel) ?_
      refine xi_goto (tgt := 17) hC dX4_isDigit_13 (by decide) ?_
      refine xb_ireturn hC dX4_isDigit_17 hr (by decide) rfl ?_
      exact ⟨by rw [bI_t (show isD x from ⟨i_not_lt.mp zc3, i_not_lt.mp (fun z => zc9 z)⟩)], rfl⟩
set_option maxRecDepth 100000 in
set_option maxHeartbeats 4000000 in
theorem c_X4_fault (l : Launch) (D : XD) (b n : Nat) {σ : XM} {z : Nat} (hz : σ oScr 1 = nI z) (hz6 : z ≤ 60) : xM l yX4_fault cX4_fault 3 (some .int) 1 20 0 0 D b n [.ref (b + oScr)] (xH D b σ) n (fun v h' => v = some (.int (tfault (-1) (σ oSgn) z)) ∧ h' = xH D b σ) := by
  refine xM.of (lv := [some (.ref (b + oScr)), none, none]) (by decide +kernel) rfl (List.forall_mem_cons.mpr ⟨rfl, fun _ h => absurd h List.not_mem_nil⟩) (Nat.le_of_ble_eq_true rfl) rfl ?_
  intro p e s m args below meth c hC hr hnm
  refine xi_iconst (v := nI 0) hC dX4_fault_0 (pc' := 1) rfl (by decide +kernel) ?_
  refine xi_istore_n (lv' := [some (.ref (b + oScr)), some (.int (nI 0)), none]) hC dX4_fault_1 (pc' := 2) rfl rfl (by decide) rfl ?_
  have L2 : ∀ (d : Nat) (i : Nat) (v2 : Option Value), z - i < d → (i ≤ z) → (∀ j, j < i → okc (σ oSgn) j) → xV p l e (xR 1 20 0 0) s m args below meth c D b 3 0 0 (MQ below (xQ D b n (fun v h' => v = some (.int (tfault (-1) (σ oSgn) z)) ∧ h' = xH D b σ)) args s 0 0 (fun q => b ≤ q)) n (xH D b σ) 2 [some (.ref (b + oScr)), some (.int (nI i)), v2] [] := by
    intro d
    induction d with
    | zero => intro i v2 h; exact absurd h (Nat.not_lt_zero _)
    | succ d ih2 =>
      intro i v2 hd2 hi hA
      refine xi_iload_n hC dX4_fault_2 (pc' := 3) rfl rfl rfl ?_
      refine xi_aload_n hC dX4_fault_3 (pc' := 4) rfl rfl rfl ?_
      refine xg4_length hC dX4_fault_4 (pc' := 7) rfl xw_f_X4_15 kd_oScr ?_
      refine xtop (y := (nI z)) (hz) ?_
      refine xn_icmpge (tgt := 50) hC dX4_fault_7 (pc' := 10) rfl (by decide) (by omega) (by omega) (fun zc7 => ?_) (fun zc7 => ?_)
      · skip
        refine xi_aload_n hC dX4_fault_50 (pc' := 51) rfl rfl rfl ?_
        refine xg4_length hC dX4_fault_51 (pc' := 54) rfl xw_f_X4_15 kd_oScr ?_
        refine xtop (y := (nI z)) (hz) ?_
        refine xi_iconst (v := nI 3) hC dX4_fault_54 (pc' := 55) rfl (by decide +kernel) ?_
        refine xi_irem hC dX4_fault_55 (pc' := 56) rfl (by decide) ?_
        refine xtop (y := nI (z % 3)) (pk_rem (by omega) (by decide) (by decide)) ?_
        refine xn_ifne (tgt := 63) hC dX4_fault_56 (pc' := 59) rfl (by decide) (by omega) (fun zc56 => ?_) (fun zc56 => ?_)
        · skip
          refine xi_aload_n hC dX4_fault_63 (pc' := 64) rfl rfl rfl ?_
          refine xg4_length hC dX4_fault_64 (pc' := 67) rfl xw_f_X4_15 kd_oScr ?_
          refine xtop (y := (nI z)) (hz) ?_
          refine xi_ireturn hC dX4_fault_67 hr rfl ?_
          obtain rfl : i = z := by omega
          first
            | exact ⟨by rw [tfault_ok hA zc56], rfl⟩
            | exact ⟨by rw [tfault_cut hA zc56], rfl⟩
        · skip
          refine xi_iconst (v := -1) hC dX4_fault_59 (pc' := 60) rfl (by decide +kernel) ?_
          refine xi_goto (tgt := 67) hC dX4_fault_60 (by decide) ?_
          refine xi_ireturn hC dX4_fault_67 hr rfl ?_
          obtain rfl : i = z := by omega
          first
            | exact ⟨by rw [tfault_ok hA zc56], rfl⟩
            | exact ⟨by rw [tfault_cut hA zc56], rfl⟩
      · skip
        refine xi_iload_n hC dX4_fault_10 (pc' := 11) rfl rfl rfl ?_
        refine xi_iconst (v := nI 3) hC dX4_fault_11 (pc' := 12) rfl (by decide +kernel) ?_
        refine xi_irem hC dX4_fault_12 (pc' := 13) rfl (by decide) ?_
        refine xtop (y := nI (i % 3)) (pk_rem (by omega) (by decide) (by decide)) ?_
        refine xn_ifne (tgt := 28) hC dX4_fault_13 (pc' := 16) rfl (by decide) (by omega) (fun zc13 => ?_) (fun zc13 => ?_)
        · skip
          refine xi_aload_n hC dX4_fault_28 (pc' := 29) rfl rfl rfl ?_
          refine xg4_signs hC dX4_fault_29 (pc' := 32) rfl xw_f_X4_9 kd_oScr ?_
          refine xi_iload_n hC dX4_fault_32 (pc' := 33) rfl rfl rfl ?_
          refine xl_i hC dX4_fault_33 (pc' := 34) rfl (N := 60) kd_oSgn (by decide) rfl (by omega) ?_
          refine xi_callS (As := [.int (σ oSgn i)]) (rest := []) (c_X4_isDigit l D b n (σ := σ) (x := (σ oSgn i))) hC dX4_fault_34 (pc' := 37) rfl xw_m_X4_23 xw_c_X4_isDigit xw_sta_X4_isDigit xw_ini_X4 xd_X4_isDigit ⟨Nat.le_of_ble_eq_true rfl, Nat.le_of_ble_eq_true rfl⟩ rfl (Nat.le_of_ble_eq_true rfl) ⟨Nat.le_of_ble_eq_true rfl, Nat.le_of_ble_eq_true rfl⟩ ?_
          rintro _ _ ⟨rfl, rfl⟩
          show xV _ _ _ _ _ _ _ _ _ _ _ _ _ _ _ _ _ (xH D b σ) _ _ [.int (bI (isD (σ oSgn i)))]
          refine xi_istore_n (lv' := [some (.ref (b + oScr)), some (.int (nI i)), some (.int (bI (isD (σ oSgn i))))]) hC dX4_fault_37 (pc' := 38) rfl rfl (by decide) rfl ?_
          refine xi_iload_n hC dX4_fault_38 (pc' := 39) rfl rfl rfl ?_
          refine xb_ifne (tgt := 44) hC dX4_fault_39 (pc' := 42) rfl (by decide) (fun zc39 => ?_) (fun zc39 => ?_)
          · skip
            refine xn_iinc (lv' := [some (.ref (b + oScr)), some (.int (nI (i + 1))), some (.int (bI (isD (σ oSgn i))))]) hC dX4_fault_44 (pc' := 47) rfl rfl (by decide) rfl ?_
            refine xi_goto (tgt := 2) hC dX4_fault_47 (by decide) ?_
            refine ih2 _ _ (by omega) ?_ ?_
            · omega
            · intro j hj
              rcases Nat.lt_or_ge j i with q | q
              · exact hA j q
              · obtain rfl : j = i := by omega
                first
                  | exact ⟨fun _ => zc39, fun q => absurd zc13 q⟩
                  | exact ⟨fun q => absurd q zc13, fun _ => zc39⟩
          · skip
            refine xi_iload_n hC dX4_fault_42 (pc' := 43) rfl rfl rfl ?_
            refine xi_ireturn hC dX4_fault_43 hr rfl ?_
            refine ⟨?_, rfl⟩
            rw [tfault_bad (i := i) (fun q => ?_) hA (by omega)]
            first
              | exact zc39 (q.1 zc13)
              | exact zc39 (q.2 zc13)
        · skip
          refine xi_aload_n hC dX4_fault_16 (pc' := 17) rfl rfl rfl ?_
          refine xg4_signs hC dX4_fault_17 (pc' := 20) rfl xw_f_X4_9 kd_oScr ?_
          refine xi_iload_n hC dX4_fault_20 (pc' := 21) rfl rfl rfl ?_
          refine xl_i hC dX4_fault_21 (pc' := 22) rfl (N := 60) kd_oSgn (by decide) rfl (by omega) ?_
          refine xi_callS (As := [.int (σ oSgn i)]) (rest := []) (c_X4_isLetter l D b n (σ := σ) (x := (σ oSgn i))) hC dX4_fault_22 (pc' := 25) rfl xw_m_X4_19 xw_c_X4_isLetter xw_sta_X4_isLetter xw_ini_X4 xd_X4_isLetter ⟨Nat.le_of_ble_eq_true rfl, Nat.le_of_ble_eq_true rfl⟩ rfl (Nat.le_of_ble_eq_true rfl) ⟨Nat.le_of_ble_eq_true rfl, Nat.le_of_ble_eq_true rfl⟩ ?_
          rintro _ _ ⟨rfl, rfl⟩
          show xV _ _ _ _ _ _ _ _ _ _ _ _ _ _ _ _ _ (xH D b σ) _ _ [.int (bI (isL (σ oSgn i)))]
          refine xi_goto (tgt := 37) hC dX4_fault_25 (by decide) ?_
          refine xi_istore_n (lv' := [some (.ref (b + oScr)), some (.int (nI i)), some (.int (bI (isL (σ oSgn i))))]) hC dX4_fault_37 (pc' := 38) rfl rfl (by decide) rfl ?_
          refine xi_iload_n hC dX4_fault_38 (pc' := 39) rfl rfl rfl ?_
          refine xb_ifne (tgt := 44) hC dX4_fault_39 (pc' := 42) rfl (by decide) (fun zc39 => ?_) (fun zc39 => ?_)
          · skip
            refine xn_iinc (lv' := [some (.ref (b + oScr)), some (.int (nI (i + 1))), some (.int (bI (isL (σ oSgn i))))]) hC dX4_fault_44 (pc' := 47) rfl rfl (by decide) rfl ?_
            refine xi_goto (tgt := 2) hC dX4_fault_47 (by decide) ?_
            refine ih2 _ _ (by omega) ?_ ?_
            · omega
            · intro j hj
              rcases Nat.lt_or_ge j i with q | q
              · exact hA j q
              · obtain rfl : j = i := by omega
                first
                  | exact ⟨fun _ => zc39, fun q => absurd zc13 q⟩
                  | exact ⟨fun q => absurd q zc13, fun _ => zc39⟩
          · skip
            refine xi_iload_n hC dX4_fault_42 (pc' := 43) rfl rfl rfl ?_
            refine xi_ireturn hC dX4_fault_43 hr rfl ?_
            refine ⟨?_, rfl⟩
            rw [tfault_bad (i := i) (fun q => ?_) hA (by omega)]
            first
              | exact zc39 (q.1 zc13)
              | exact zc39 (q.2 zc13)
  refine L2 _ _ _ (Nat.lt_succ_self _) ?_ ?_
  · omega
  · intro j hj; omega
