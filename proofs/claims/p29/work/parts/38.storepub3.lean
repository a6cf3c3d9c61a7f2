/-- only where the member is attached has changed -/
theorem RM_v {σ τ S T : XM} {i : Nat} (h : RM σ S i) (e1 : τ (oMem i) 4 = T m_viewOf i) (e2 : ∀ k, k ≠ 4 → τ (oMem i) k = σ (oMem i) k) (e3 : ∀ o, oMem i < o → o < oMem i + 20 → τ o = σ o) (e4 : ∀ o, 590 ≤ o → o < 603 → T o = S o) : RM τ T i := by
  obtain ⟨a1, a2, a3, a4, a5⟩ := h
  refine ⟨⟨e1, ?_, ?_, ?_, ?_, ?_, ?_⟩, ?_, ?_, ?_, ?_⟩
  · rw [e2 _ (by decide), e4 _ (by decide) (by decide)]; exact a1.2.1
  · rw [e2 _ (by decide), e4 _ (by decide) (by decide)]; exact a1.2.2.1
  · rw [e2 _ (by decide), e4 _ (by decide) (by decide)]; exact a1.2.2.2.1
  · rw [e2 _ (by decide), e4 _ (by decide) (by decide)]; exact a1.2.2.2.2.1
  · rw [e2 _ (by decide), e4 _ (by decide) (by decide)]; exact a1.2.2.2.2.2.1
  · rw [e2 _ (by decide), e4 m_hasRead (by decide) (by decide), e4 m_readOf (by decide) (by decide)]; exact a1.2.2.2.2.2.2
  · rw [e3 _ (by first | (simp only [oNum, oKno, oSig, oPro, oFst, oSnd, oBox, oLet, oLts, oMem, oVw, oEnt, oBef, oBk, oVs, oVec, oCon] <;> omega) | omega | decide) (by first | (simp only [oNum, oKno, oSig, oPro, oFst, oSnd, oBox, oLet, oLts, oMem, oVw, oEnt, oBef, oBk, oVs, oVec, oCon] <;> omega) | omega | decide), e4 m_knownOf (by decide) (by decide)]; exact a2
  · rw [e3 _ (by first | (simp only [oNum, oKno, oSig, oPro, oFst, oSnd, oBox, oLet, oLts, oMem, oVw, oEnt, oBef, oBk, oVs, oVec, oCon] <;> omega) | omega | decide) (by first | (simp only [oNum, oKno, oSig, oPro, oFst, oSnd, oBox, oLet, oLts, oMem, oVw, oEnt, oBef, oBk, oVs, oVec, oCon] <;> omega) | omega | decide), e4 m_signedOf (by decide) (by decide)]; exact a3
  · unfold RP
    rw [e3 (oPro (oMem i)) (by first | (simp only [oNum, oKno, oSig, oPro, oFst, oSnd, oBox, oLet, oLts, oMem, oVw, oEnt, oBef, oBk, oVs, oVec, oCon] <;> omega) | omega | decide) (by first | (simp only [oNum, oKno, oSig, oPro, oFst, oSnd, oBox, oLet, oLts, oMem, oVw, oEnt, oBef, oBk, oVs, oVec, oCon] <;> omega) | omega | decide), e3 (oNum (oFst (oPro (oMem i)))) (by first | (simp only [oNum, oKno, oSig, oPro, oFst, oSnd, oBox, oLet, oLts, oMem, oVw, oEnt, oBef, oBk, oVs, oVec, oCon] <;> omega) | omega | decide) (by first | (simp only [oNum, oKno, oSig, oPro, oFst, oSnd, oBox, oLet, oLts, oMem, oVw, oEnt, oBef, oBk, oVs, oVec, oCon] <;> omega) | omega | decide), e3 (oNum (oSnd (oPro (oMem i)))) (by first | (simp only [oNum, oKno, oSig, oPro, oFst, oSnd, oBox, oLet, oLts, oMem, oVw, oEnt, oBef, oBk, oVs, oVec, oCon] <;> omega) | omega | decide) (by first | (simp only [oNum, oKno, oSig, oPro, oFst, oSnd, oBox, oLet, oLts, oMem, oVw, oEnt, oBef, oBk, oVs, oVec, oCon] <;> omega) | omega | decide), e4 m_hasProof (by decide) (by decide), e4 m_depthOf (by decide) (by decide), e4 m_proofOf (by decide) (by decide)]; exact a4
  · unfold RX
    rw [e3 (oBox (oMem i)) (by first | (simp only [oNum, oKno, oSig, oPro, oFst, oSnd, oBox, oLet, oLts, oMem, oVw, oEnt, oBef, oBk, oVs, oVec, oCon] <;> omega) | omega | decide) (by first | (simp only [oNum, oKno, oSig, oPro, oFst, oSnd, oBox, oLet, oLts, oMem, oVw, oEnt, oBef, oBk, oVs, oVec, oCon] <;> omega) | omega | decide), e4 m_lettersOf (by decide) (by decide), e4 m_letter (by decide) (by decide)]
    exact ⟨a5.1, fun z z4 e q hq p hp => by show τ (oNum (oLet (oLts (oBox (oMem i))) q)) p = _; rw [e3 _ (by first | (simp only [oNum, oKno, oSig, oPro, oFst, oSnd, oBox, oLet, oLts, oMem, oVw, oEnt, oBef, oBk, oVs, oVec, oCon] <;> omega) | omega | decide) (by first | (simp only [oNum, oKno, oSig, oPro, oFst, oSnd, oBox, oLet, oLts, oMem, oVw, oEnt, oBef, oBk, oVs, oVec, oCon] <;> omega) | omega | decide)]; exact a5.2 z z4 e q hq p hp⟩
theorem xcnt_5u {P Q : Nat → Prop} {u : Nat} (hu : u ≤ 5) (h : ∀ i, i < 5 → (P i ↔ Q i)) (hz : ∀ i, u ≤ i → i < 5 → ¬ Q i) : xcnt P 5 = xcnt Q u := by
  rw [xcnt_congr h]
  have h0 : ∀ k, u ≤ k → k ≤ 5 → xcnt Q k = xcnt Q u := by
    intro k
    induction k with
    | zero => intro q _; rw [show u = 0 by omega]
    | succ k ih =>
      intro q q2
      rcases Nat.lt_or_ge k u with z | z
      · rw [show u = k + 1 by omega]
      · rw [xcnt_f (hz k z (by omega)), ih z (by omega)]
  exact h0 5 hu (Nat.le_refl _)
theorem R_back {σ τ S T : XM} {u w v k z x : Nat} (h : RR σ S u w) (hw : w ≤ 6) (hv : v < w) (hk5 : k ≤ 5) (hk : S m_keptOf v = nI k) (hx5 : x < 5) (hring : ∀ q, q < k → EqR σ (oBk (oBef (oVw v)) ((x + 5 - k + q) % 5)) (S m_keptRow) (150 * v + 30 * q)) (hz1 : 1 ≤ z) (hzk : z ≤ k) (E1 : EqE τ (oEnt (oVw v)) σ (oBk (oBef (oVw v)) ((x + 5 - z) % 5))) (E2 : τ (oVw v) 2 = nI (k - z)) (E3 : τ (oVw v) 3 = nI ((x + 5 - z) % 5)) (E4 : ∀ q, q ≠ oVw v → (q < oEnt (oVw v) ∨ oEnt (oVw v) + 13 ≤ q) → τ q = σ q) (t1 : T m_keptOf = upd (S m_keptOf) v (nI (k - z))) (t2 : T m_row = cpy 30 (S m_row) (30 * v) (sl (S m_keptRow) (150 * v + 30 * (k - z)))) (t3 : ∀ o, o ≠ m_keptOf → o ≠ m_row → T o = S o) : RR τ T u w := by
  refine h.vw hv (fun o _ o2 => E4 o (by simp only [oNum, oKno, oSig, oPro, oFst, oSnd, oBox, oLet, oLts, oMem, oVw, oEnt, oBef, oBk, oVs, oVec, oCon] at * <;> omega) (by simp only [oNum, oKno, oSig, oPro, oFst, oSnd, oBox, oLet, oLts, oMem, oVw, oEnt, oBef, oBk, oVs, oVec, oCon] at * <;> omega)) ⟨?_, ?_, (x + 5 - z) % 5, Nat.mod_lt _ (by decide), E3, fun k' hk' e q hq => ?_⟩ (fun j _ hj => ⟨fun p hp => by rw [t2, cpy_out (by rcases Nat.lt_or_ge j v with y | y <;> omega)], by rw [t1, upd_n hj], fun p _ => by rw [t3 _ (by decide) (by decide)]⟩) (fun o o1 o2 => t3 o (by simp only [m_keptOf]; omega) (by simp only [m_row]; omega)) (by rw [t3 oMod (by decide) (by decide)]) (t3 _ (by decide) (by decide)) hw
  · have hs := hring (k - z) (by omega)
    rw [show (x + 5 - k + (k - z)) % 5 = (x + 5 - z) % 5 by congr 1; omega] at hs
    exact (EqR.eq E1 hs).of (fun _ _ _ => rfl) (fun p hp => by rw [t2, cpy_in hp]; rfl)
  · rw [E2, t1, upd_s]
  · rw [t1, upd_s] at e
    obtain rfl := nI_inj (by omega) (by omega) e
    have hs := hring q (by omega)
    rw [show ((x + 5 - z) % 5 + 5 - (k - z) + q) % 5 = (x + 5 - k + q) % 5 by omega]
    exact hs.of (fun o o1 o2 => E4 o (by simp only [oNum, oKno, oSig, oPro, oFst, oSnd, oBox, oLet, oLts, oMem, oVw, oEnt, oBef, oBk, oVs, oVec, oCon] at * <;> omega) (by simp only [oNum, oKno, oSig, oPro, oFst, oSnd, oBox, oLet, oLts, oMem, oVw, oEnt, oBef, oBk, oVs, oVec, oCon] at * <;> omega)) (fun p _ => by rw [t3 _ (by decide) (by decide)])
set_option maxRecDepth 100000 in
set_option maxHeartbeats 4000000 in
theorem c_X7_rollBack (l : Launch) (D : XD) (b n : Nat) {σ S : XM} {N u w : Nat} (hS : SI N S u w) (hR : RR σ S u w) (hN : N + 1 < 2 ^ 31) {x y : Int32}  : xM l yX7_rollBack cX7_rollBack 3 (some .int) 3 65 0 0 D b n [.ref (b + 0), .int x, .int y] (xH D b σ) n (fun y' h' => ∃ (r : Int32) (τ : XM), y' = some (.int r) ∧ Hi τ σ ∧ (∀ (r' : Int32) (T : XM), s_roll S w x y r' T → r = r' ∧ RR τ T u w) ∧ h' = xH D b τ) := by
  refine xM.of (lv := [some (.ref (b + 0)), some (.int x), some (.int y)]) (by decide +kernel) rfl (List.forall_mem_cons.mpr ⟨rfl, List.forall_mem_cons.mpr ⟨rfl, List.forall_mem_cons.mpr ⟨rfl, fun _ h => absurd h List.not_mem_nil⟩⟩⟩) (Nat.le_of_ble_eq_true rfl) rfl ?_
  intro p e s m args below meth c hC hr hnm
  obtain ⟨hU, hn, hVw, hKp, hLt, hTx, hAl⟩ := id hS.1
  obtain ⟨hu, hu2, hu5⟩ := id hU
  obtain ⟨hn1, hw1, hw6⟩ := id hn
  obtain ⟨r3, r4, hMm, hVv, hTt⟩ := id hR
  refine xi_aload_n hC dX7_rollBack_0 (pc' := 1) rfl rfl rfl ?_
  refine xi_iload_n hC dX7_rollBack_1 (pc' := 2) rfl rfl rfl ?_
  refine xi_callV (As := [.int x]) (rest := []) (c_X7_isView l D b n (σ := σ) (u := w) (x := x) r4 hw6) hC dX7_rollBack_2 (pc' := 5) rfl xw_m_X7_76 xw_c_X7_isView xw_ins_X7_isView xw_sel_X7_isView xw_ini_X7 xd_X7_isView (xH_at.trans (xsh_7 kd_0)) rfl ⟨Nat.le_of_ble_eq_true rfl, Nat.le_of_ble_eq_true rfl⟩ rfl (Nat.le_of_ble_eq_true rfl) ⟨Nat.le_of_ble_eq_true rfl, Nat.le_of_ble_eq_true rfl⟩ ?_
  rintro _ _ ⟨rfl, rfl⟩
  show xV _ _ _ _ _ _ _ _ _ _ _ _ _ _ _ _ _ (xH D b σ) _ _ [.int (bI (isU w x))]
  refine xb_ifne (tgt := 12) hC dX7_rollBack_5 (pc' := 8) rfl (by decide) (fun zc5 => ?_) (fun zc5 => ?_)
  · skip
    obtain ⟨v, hv, rfl⟩ := zc5
    refine xi_iload_n hC dX7_rollBack_12 (pc' := 13) rfl rfl rfl ?_
    refine xi_iconst (v := nI 1) hC dX7_rollBack_13 (pc' := 14) rfl (by decide +kernel) ?_
    refine xi_icmplt (tgt := 22) hC dX7_rollBack_14 (pc' := 17) rfl (by decide) (fun zc14 => ?_) (fun zc14 => ?_)
    · skip
      refine xi_sipush (v := -10002) hC dX7_rollBack_22 (pc' := 25) rfl (by decide +kernel) ?_
      refine xi_ireturn hC dX7_rollBack_25 hr rfl ?_
      refine ⟨_, σ, rfl, Hi.rf, fun r' T hs => ?_, rfl⟩
      obtain ⟨q1, q2⟩ := (hs.2 v hv rfl).1 (fun q => by first | exact i_not_lt.mpr q.1 zc14 | exact zc19 q.2)
      subst q2
      exact ⟨q1.symm, hR⟩
    · skip
      refine xi_iload_n hC dX7_rollBack_17 (pc' := 18) rfl rfl rfl ?_
      refine xi_iconst (v := nI 5) hC dX7_rollBack_18 (pc' := 19) rfl (by decide +kernel) ?_
      refine xi_icmple (tgt := 26) hC dX7_rollBack_19 (pc' := 22) rfl (by decide) (fun zc19 => ?_) (fun zc19 => ?_)
      · skip
        obtain ⟨z, hz1, hz5, rfl⟩ := rng15 ⟨i_not_lt.mp zc14, zc19⟩
        obtain ⟨k, hk5, hk⟩ := hKp v hv
        obtain ⟨b1, b2, x, hx5, b3, b4⟩ := hVv v hv
        refine xi_iload_n hC dX7_rollBack_26 (pc' := 27) rfl rfl rfl ?_
        refine xi_aload_n hC dX7_rollBack_27 (pc' := 28) rfl rfl rfl ?_
        refine xg7_views hC dX7_rollBack_28 (pc' := 31) rfl xw_f_X7_17 kd_0 ?_
        refine xi_iload_n hC dX7_rollBack_31 (pc' := 32) rfl rfl rfl ?_
        refine xa_views hC dX7_rollBack_32 (pc' := 33) rfl kd_oVws rfl (by omega) ?_
        refine xg6_remembered hC dX7_rollBack_33 (pc' := 36) rfl xw_f_X7_93 (kd_oVw (by omega)) ?_
        refine xtop (y := (nI k)) (b2.trans hk) ?_
        refine xn_icmple (tgt := 43) hC dX7_rollBack_36 (pc' := 39) rfl (by decide) (by omega) (by omega) (fun zc36 => ?_) (fun zc36 => ?_)
        · skip
          refine xi_aload_n hC dX7_rollBack_43 (pc' := 44) rfl rfl rfl ?_
          refine xg7_views hC dX7_rollBack_44 (pc' := 47) rfl xw_f_X7_17 kd_0 ?_
          refine xi_iload_n hC dX7_rollBack_47 (pc' := 48) rfl rfl rfl ?_
          refine xa_views hC dX7_rollBack_48 (pc' := 49) rfl kd_oVws rfl (by omega) ?_
          refine xi_iload_n hC dX7_rollBack_49 (pc' := 50) rfl rfl rfl ?_
          refine xi_callV (As := [.int (nI z)]) (rest := []) (c_X6_takeBack l D b n (σ := σ) (x := x) (r := k) (z := z) (kd_oVw (by omega)) b3 hx5 (b2.trans hk) hk5 zc36) hC dX7_rollBack_50 (pc' := 53) rfl xw_m_X7_96 xw_c_X6_takeBack xw_ins_X6_takeBack xw_sel_X6_takeBack xw_ini_X6 xd_X6_takeBack (xH_at.trans (xsh_6 (kd_oVw (by omega)))) rfl ⟨Nat.le_of_ble_eq_true rfl, Nat.le_of_ble_eq_true rfl⟩ rfl (Nat.le_of_ble_eq_true rfl) ⟨Nat.le_of_ble_eq_true rfl, Nat.le_of_ble_eq_true rfl⟩ ?_
          rintro _ _ ⟨rfl, τ_1, hE_2, hr_3, hn_4, hF_5, rfl⟩
          show xV _ _ _ _ _ _ _ _ _ _ _ _ _ _ _ _ _ (xH D b τ_1) _ _ []
          refine xi_aload_n hC dX7_rollBack_53 (pc' := 54) rfl rfl rfl ?_
          refine xg7_views hC dX7_rollBack_54 (pc' := 57) rfl xw_f_X7_17 kd_0 ?_
          refine xi_iload_n hC dX7_rollBack_57 (pc' := 58) rfl rfl rfl ?_
          refine xa_views hC dX7_rollBack_58 (pc' := 59) rfl kd_oVws rfl (by omega) ?_
          refine xg6_remembered hC dX7_rollBack_59 (pc' := 62) rfl xw_f_X7_93 (kd_oVw (by omega)) ?_
          refine xi_ireturn hC dX7_rollBack_62 hr rfl ?_
          refine ⟨_, _, rfl, fun o ho => hF_5 o (by simp only [oNum, oKno, oSig, oPro, oFst, oSnd, oBox, oLet, oLts, oMem, oVw, oEnt, oBef, oBk, oVs, oVec, oCon] at * <;> omega) (by simp only [oNum, oKno, oSig, oPro, oFst, oSnd, oBox, oLet, oLts, oMem, oVw, oEnt, oBef, oBk, oVs, oVec, oCon] at * <;> omega), fun r' T hs => ?_, rfl⟩
          obtain ⟨q1, q2, q3, q4⟩ := ((hs.2 v hv rfl).2 z k hz1 hz5 rfl hk5 hk).2 zc36
          exact ⟨hr_3.trans q1.symm, R_back hR hw6 hv hk5 hk hx5 (b4 k hk5 hk) hz1 zc36 hE_2 hr_3 hn_4 hF_5 q2 q3 q4⟩
        · skip
          refine xi_sipush (v := -10005) hC dX7_rollBack_39 (pc' := 42) rfl (by decide +kernel) ?_
          refine xi_ireturn hC dX7_rollBack_42 hr rfl ?_
          refine ⟨_, σ, rfl, Hi.rf, fun r' T hs => ?_, rfl⟩
          obtain ⟨q1, q2⟩ := ((hs.2 v hv rfl).2 z k hz1 hz5 rfl hk5 hk).1 (by omega)
          subst q2
          exact ⟨q1.symm, hR⟩
      · skip
        refine xi_sipush (v := -10002) hC dX7_rollBack_22 (pc' := 25) rfl (by decide +kernel) ?_
        refine xi_ireturn hC dX7_rollBack_25 hr rfl ?_
        refine ⟨_, σ, rfl, Hi.rf, fun r' T hs => ?_, rfl⟩
        obtain ⟨q1, q2⟩ := (hs.2 v hv rfl).1 (fun q => by first | exact i_not_lt.mpr q.1 zc14 | exact zc19 q.2)
        subst q2
        exact ⟨q1.symm, hR⟩
  · skip
    refine xi_sipush (v := -10001) hC dX7_rollBack_8 (pc' := 11) rfl (by decide +kernel) ?_
    refine xi_ireturn hC dX7_rollBack_11 hr rfl ?_
    refine ⟨_, σ, rfl, Hi.rf, fun r' T hs => ?_, rfl⟩
    obtain ⟨q1, q2⟩ := hs.1 zc5
    subst q2
    exact ⟨q1.symm, hR⟩
set_option maxRecDepth 100000 in
set_option maxHeartbeats 4000000 in
theorem c_X7_mix (l : Launch) (D : XD) (b n : Nat) {σ S : XM} {N u w : Nat} (hS : SI N S u w) (hR : RR σ S u w) (hN : N + 1 < 2 ^ 31) {x y : Int32}  : xM l yX7_mix cX7_mix 4 (some .int) 2 45 0 0 D b n [.ref (b + 0), .int x, .int y] (xH D b σ) n (fun y' h' => ∃ (r : Int32) (τ : XM), y' = some (.int r) ∧ Hi τ σ ∧ (∀ (r' : Int32) (T : XM), s_mix S u w x y r' T → r = r' ∧ RR τ T u w) ∧ h' = xH D b τ) := by
  refine xM.of (lv := [some (.ref (b + 0)), some (.int x), some (.int y), none]) (by decide +kernel) rfl (List.forall_mem_cons.mpr ⟨rfl, List.forall_mem_cons.mpr ⟨rfl, List.forall_mem_cons.mpr ⟨rfl, fun _ h => absurd h List.not_mem_nil⟩⟩⟩) (Nat.le_of_ble_eq_true rfl) rfl ?_
  intro p e s m args below meth c hC hr hnm
  obtain ⟨hU, hn, hVw, hKp, hLt, hTx, hAl⟩ := id hS.1
  obtain ⟨hu, hu2, hu5⟩ := id hU
  obtain ⟨hn1, hw1, hw6⟩ := id hn
  obtain ⟨r3, r4, hMm, hVv, hTt⟩ := id hR
  refine xi_aload_n hC dX7_mix_0 (pc' := 1) rfl rfl rfl ?_
  refine xi_iload_n hC dX7_mix_1 (pc' := 2) rfl rfl rfl ?_
  refine xi_callV (As := [.int x]) (rest := []) (c_X7_isView l D b n (σ := σ) (u := w) (x := x) r4 hw6) hC dX7_mix_2 (pc' := 5) rfl xw_m_X7_76 xw_c_X7_isView xw_ins_X7_isView xw_sel_X7_isView xw_ini_X7 xd_X7_isView (xH_at.trans (xsh_7 kd_0)) rfl ⟨Nat.le_of_ble_eq_true rfl, Nat.le_of_ble_eq_true rfl⟩ rfl (Nat.le_of_ble_eq_true rfl) ⟨Nat.le_of_ble_eq_true rfl, Nat.le_of_ble_eq_true rfl⟩ ?_
  rintro _ _ ⟨rfl, rfl⟩
  show xV _ _ _ _ _ _ _ _ _ _ _ _ _ _ _ _ _ (xH D b σ) _ _ [.int (bI (isU w x))]
  refine xb_ifeq (tgt := 16) hC dX7_mix_5 (pc' := 8) rfl (by decide) (fun zc5 => ?_) (fun zc5 => ?_)
  · skip
    refine xi_sipush (v := -10001) hC dX7_mix_16 (pc' := 19) rfl (by decide +kernel) ?_
    refine xi_ireturn hC dX7_mix_19 hr rfl ?_
    refine ⟨_, σ, rfl, Hi.rf, fun r' T hs => ?_, rfl⟩
    obtain ⟨q1, q2⟩ := (hs.1 (fun q => by first | exact zc5 q.1 | exact zc13 q.2))
    subst q2
    exact ⟨q1.symm, hR⟩
  · skip
    refine xi_aload_n hC dX7_mix_8 (pc' := 9) rfl rfl rfl ?_
    refine xi_iload_n hC dX7_mix_9 (pc' := 10) rfl rfl rfl ?_
    refine xi_callV (As := [.int y]) (rest := []) (c_X7_isView l D b n (σ := σ) (u := w) (x := y) r4 hw6) hC dX7_mix_10 (pc' := 13) rfl xw_m_X7_76 xw_c_X7_isView xw_ins_X7_isView xw_sel_X7_isView xw_ini_X7 xd_X7_isView (xH_at.trans (xsh_7 kd_0)) rfl ⟨Nat.le_of_ble_eq_true rfl, Nat.le_of_ble_eq_true rfl⟩ rfl (Nat.le_of_ble_eq_true rfl) ⟨Nat.le_of_ble_eq_true rfl, Nat.le_of_ble_eq_true rfl⟩ ?_
    rintro _ _ ⟨rfl, rfl⟩
    show xV _ _ _ _ _ _ _ _ _ _ _ _ _ _ _ _ _ (xH D b σ) _ _ [.int (bI (isU w y))]
    refine xb_ifne (tgt := 20) hC dX7_mix_13 (pc' := 16) rfl (by decide) (fun zc13 => ?_) (fun zc13 => ?_)
    · skip
      obtain ⟨v, hv, rfl⟩ := zc5
      obtain ⟨o, ho, rfl⟩ := zc13
      refine xi_iload_n hC dX7_mix_20 (pc' := 21) rfl rfl rfl ?_
      refine xi_iload_n hC dX7_mix_21 (pc' := 22) rfl rfl rfl ?_
      refine xn_icmpne (tgt := 29) hC dX7_mix_22 (pc' := 25) rfl (by decide) (by omega) (by omega) (fun zc22 => ?_) (fun zc22 => ?_)
      · skip
        refine xi_iconst (v := nI 0) hC dX7_mix_29 (pc' := 30) rfl (by decide +kernel) ?_
        refine xi_istore_n (lv' := [some (.ref (b + 0)), some (.int (nI v)), some (.int (nI o)), some (.int (nI 0))]) hC dX7_mix_30 (pc' := 31) rfl rfl (by decide) rfl ?_
        have L31 : ∀ (d : Nat) (j : Nat) (τ : XM), u - j < d → (j ≤ u) → (∀ i, i < j → (S m_viewOf i = nI o → τ (oMem i) 4 = nI v) ∧ (¬ S m_viewOf i = nI o → τ (oMem i) 4 = S m_viewOf i)) → (∀ i, j ≤ i → i < 5 → τ (oMem i) 4 = S m_viewOf i) → (∀ i, i < 5 → ∀ k, k ≠ 4 → τ (oMem i) k = σ (oMem i) k) → (∀ q, (∀ i, i < 5 → q ≠ oMem i) → τ q = σ q) → xV p l e (xR 2 45 0 0) s m args below meth c D b 4 0 0 (MQ below (xQ D b n (fun y' h' => ∃ (r : Int32) (τ : XM), y' = some (.int r) ∧ Hi τ σ ∧ (∀ (r' : Int32) (T : XM), s_mix S u w (nI v) (nI o) r' T → r = r' ∧ RR τ T u w) ∧ h' = xH D b τ)) args s 0 0 (fun q => b ≤ q)) n (xH D b τ) 31 [some (.ref (b + 0)), some (.int (nI v)), some (.int (nI o)), some (.int (nI j))] [] := by
          intro d
          induction d with
          | zero => intro j τ h; exact absurd h (Nat.not_lt_zero _)
          | succ d ih31 =>
            intro j τ hd31 hj h1 h2 h3 h4
            refine xi_iload_n hC dX7_mix_31 (pc' := 32) rfl rfl rfl ?_
            refine xi_aload_n hC dX7_mix_32 (pc' := 33) rfl rfl rfl ?_
            refine xg7_users hC dX7_mix_33 (pc' := 36) rfl xw_f_X7_28 kd_0 ?_
            refine xtop (y := (nI u)) (((congrFun (h4 0 (fun i hi => (by simp only [oNum, oKno, oSig, oPro, oFst, oSnd, oBox, oLet, oLts, oMem, oVw, oEnt, oBef, oBk, oVs, oVec, oCon] at * <;> omega))) 3).trans r3)) ?_
            refine xn_icmpge (tgt := 68) hC dX7_mix_36 (pc' := 39) rfl (by decide) (by omega) (by omega) (fun zc36 => ?_) (fun zc36 => ?_)
            · skip
              refine xi_aload_n hC dX7_mix_68 (pc' := 69) rfl rfl rfl ?_
              refine xg7_views hC dX7_mix_69 (pc' := 72) rfl xw_f_X7_17 kd_0 ?_
              refine xi_iload_n hC dX7_mix_72 (pc' := 73) rfl rfl rfl ?_
              refine xa_views hC dX7_mix_73 (pc' := 74) rfl kd_oVws rfl (by omega) ?_
              refine xi_callV (As := []) (rest := []) (c_X6_forget l D b n (σ := τ) (kd_oVw (by omega))) hC dX7_mix_74 (pc' := 77) rfl xw_m_X7_99 xw_c_X6_forget xw_ins_X6_forget xw_sel_X6_forget xw_ini_X6 xd_X6_forget (xH_at.trans (xsh_6 (kd_oVw (by omega)))) rfl ⟨Nat.le_of_ble_eq_true rfl, Nat.le_of_ble_eq_true rfl⟩ rfl (Nat.le_of_ble_eq_true rfl) ⟨Nat.le_of_ble_eq_true rfl, Nat.le_of_ble_eq_true rfl⟩ ?_
              rintro _ _ ⟨rfl, rfl⟩
              show xV _ _ _ _ _ _ _ _ _ _ _ _ _ _ _ _ _ (xH D b (sw (sw τ (oVw v) 2 (nI 0)) (oVw v) 3 (nI 0))) _ _ []
              refine xi_aload_n hC dX7_mix_77 (pc' := 78) rfl rfl rfl ?_
              refine xg7_views hC dX7_mix_78 (pc' := 81) rfl xw_f_X7_17 kd_0 ?_
              refine xi_iload_n hC dX7_mix_81 (pc' := 82) rfl rfl rfl ?_
              refine xa_views hC dX7_mix_82 (pc' := 83) rfl kd_oVws rfl (by omega) ?_
              refine xg6_entries hC dX7_mix_83 (pc' := 86) rfl xw_f_X7_102 (kd_oVw (by omega)) ?_
              refine xi_aload_n hC dX7_mix_86 (pc' := 87) rfl rfl rfl ?_
              refine xg7_views hC dX7_mix_87 (pc' := 90) rfl xw_f_X7_17 kd_0 ?_
              refine xi_iload_n hC dX7_mix_90 (pc' := 91) rfl rfl rfl ?_
              refine xa_views hC dX7_mix_91 (pc' := 92) rfl kd_oVws rfl (by omega) ?_
              refine xg6_entries hC dX7_mix_92 (pc' := 95) rfl xw_f_X7_102 (kd_oVw (by omega)) ?_
              refine xi_callV (As := [.ref (b + (oEnt (oVw o)))]) (rest := []) (c_X1_replaceByLater l D b n (σ := (sw (sw τ (oVw v) 2 (nI 0)) (oVw v) 3 (nI 0))) (kd_oEnt (kd_oVw (by omega))) (kd_oEnt (kd_oVw (by omega))) (by first | (simp only [oMs, oVws, oScr, oSgn, oMod, oMem, oSig, oKno, oPro, oBox, oFst, oSnd, oLts, oLet, oNum, oVw, oEnt, oBef, oBk, oVs, oCon, oVec, m_row, m_keptOf, m_keptRow, m_viewOf, m_alarmOf, m_hasProof, m_depthOf, m_proofOf, m_signedOf, m_knownOf, m_doneOf, m_shownTo, m_sentBy, m_hasRead, m_readOf, m_lettersOf, m_letter, m_hand, m_text] <;> omega) | decide | omega | (simp only [oMs, oVws, oScr, oSgn, oMod, oMem, oSig, oKno, oPro, oBox, oFst, oSnd, oLts, oLet, oNum, oVw, oEnt, oBef, oBk, oVs, oCon, oVec, m_row, m_keptOf, m_keptRow, m_viewOf, m_alarmOf, m_hasProof, m_depthOf, m_proofOf, m_signedOf, m_knownOf, m_doneOf, m_shownTo, m_sentBy, m_hasRead, m_readOf, m_lettersOf, m_letter, m_hand, m_text] at * <;> omega))) hC dX7_mix_95 (pc' := 98) rfl xw_m_X7_106 xw_c_X1_replaceByLater xw_ins_X1_replaceByLater xw_sel_X1_replaceByLater xw_ini_X1 xd_X1_replaceByLater (xH_at.trans (xsh_1 (kd_oEnt (kd_oVw (by omega))))) rfl ⟨Nat.le_of_ble_eq_true rfl, Nat.le_of_ble_eq_true rfl⟩ rfl (Nat.le_of_ble_eq_true rfl) ⟨Nat.le_of_ble_eq_true rfl, Nat.le_of_ble_eq_true rfl⟩ ?_
              rintro _ _ ⟨rfl, τ_1, hA_2, hF_3, rfl⟩
              show xV _ _ _ _ _ _ _ _ _ _ _ _ _ _ _ _ _ (xH D b τ_1) _ _ [.int (nI (xcnt (fun i => (sw (sw τ (oVw v) 2 (nI 0)) (oVw v) 3 (nI 0)) (oNum (oVec (oVs (oEnt (oVw v))) i)) i < (sw (sw τ (oVw v) 2 (nI 0)) (oVw v) 3 (nI 0)) (oNum (oVec (oVs (oEnt (oVw o))) i)) i) 5))]
              refine xi_ireturn hC dX7_mix_98 hr rfl ?_
              have hw : w ≤ 6 := hw6
              have hb : ∀ q, q < 5 ∨ 105 ≤ q → τ q = σ q := fun q hq => h4 q (fun i hi => (by simp only [oNum, oKno, oSig, oPro, oFst, oSnd, oBox, oLet, oLts, oMem, oVw, oEnt, oBef, oBk, oVs, oVec, oCon] at * <;> omega))
              have hF2 : ∀ q, q ≠ oVw v → (q < oEnt (oVw v) ∨ oEnt (oVw v) + 13 ≤ q) → τ_1 q = τ q := fun q q1 q2 => by rw [hF_3 q q2, sw_n q1, sw_n q1]
              have hc : ∀ y, y < w → ∀ i, i < 5 → (∀ p, p < 5 → (sw (sw τ (oVw v) 2 (nI 0)) (oVw v) 3 (nI 0)) (oNum (oVec (oVs (oEnt (oVw y))) i)) p = S m_row (30 * y + 5 * i + p)) ∧ (sw (sw τ (oVw v) 2 (nI 0)) (oVw v) 3 (nI 0)) (oCon (oEnt (oVw y))) i = S m_row (30 * y + 25 + i) := fun y hy i hi => ⟨fun p hp => by rw [sw_n (by first | (simp only [oNum, oKno, oSig, oPro, oFst, oSnd, oBox, oLet, oLts, oMem, oVw, oEnt, oBef, oBk, oVs, oVec, oCon] <;> omega) | omega | decide), sw_n (by first | (simp only [oNum, oKno, oSig, oPro, oFst, oSnd, oBox, oLet, oLts, oMem, oVw, oEnt, oBef, oBk, oVs, oVec, oCon] <;> omega) | omega | decide), hb _ (by first | (simp only [oNum, oKno, oSig, oPro, oFst, oSnd, oBox, oLet, oLts, oMem, oVw, oEnt, oBef, oBk, oVs, oVec, oCon] <;> omega) | omega | decide)]; exact ((hVv y hy).1 i hi).1 p hp, by rw [sw_n (by first | (simp only [oNum, oKno, oSig, oPro, oFst, oSnd, oBox, oLet, oLts, oMem, oVw, oEnt, oBef, oBk, oVs, oVec, oCon] <;> omega) | omega | decide), sw_n (by first | (simp only [oNum, oKno, oSig, oPro, oFst, oSnd, oBox, oLet, oLts, oMem, oVw, oEnt, oBef, oBk, oVs, oVec, oCon] <;> omega) | omega | decide), hb _ (by first | (simp only [oNum, oKno, oSig, oPro, oFst, oSnd, oBox, oLet, oLts, oMem, oVw, oEnt, oBef, oBk, oVs, oVec, oCon] <;> omega) | omega | decide)]; exact ((hVv y hy).1 i hi).2⟩
              have hcm : ∀ i, i < 5 → ((sw (sw τ (oVw v) 2 (nI 0)) (oVw v) 3 (nI 0)) (oNum (oVec (oVs (oEnt (oVw v))) i)) i < (sw (sw τ (oVw v) 2 (nI 0)) (oVw v) 3 (nI 0)) (oNum (oVec (oVs (oEnt (oVw o))) i)) i ↔ mixC S v o i) := fun i hi => by rw [(hc v hv i hi).1 i hi, (hc o ho i hi).1 i hi]; exact Iff.rfl
              have hmz : ∀ i, u ≤ i → i < 5 → ¬ mixC S v o i := fun i hi h5 q => by
                unfold mixC at q
                rw [(hS.2.1 v hv i h5).2 hi i h5, (hS.2.1 o ho i h5).2 hi i h5] at q
                exact absurd q (by decide)
              refine ⟨_, _, rfl, fun q hq => by rw [hF2 q (by simp only [oNum, oKno, oSig, oPro, oFst, oSnd, oBox, oLet, oLts, oMem, oVw, oEnt, oBef, oBk, oVs, oVec, oCon] at * <;> omega) (by simp only [oNum, oKno, oSig, oPro, oFst, oSnd, oBox, oLet, oLts, oMem, oVw, oEnt, oBef, oBk, oVs, oVec, oCon] at * <;> omega), hb q (by omega)], fun r' T hs => ?_, rfl⟩
              obtain ⟨q1, q2, q3, q4, q5, q6, q7, q8⟩ := (hs.2 v o hv ho rfl rfl).2 zc22
              have ej : j = u := by omega
              rw [ej] at h1 h2
              refine ⟨by rw [q1, xcnt_5u hu5 hcm hmz], ?_⟩
              have hT : ∀ a, 590 ≤ a → a < 603 → T a = S a := fun a a1 a2 => q8 a (by simp only [m_row]; omega) (by simp only [m_viewOf]; omega) (by simp only [m_keptOf]; omega)
              have hr : ∀ i, i < 5 → ∀ p, p < 5 → T m_row (30 * v + 5 * i + p) = τ_1 (oNum (oVec (oVs (oEnt (oVw v))) i)) p ∧ T m_row (30 * v + 25 + i) = τ_1 (oCon (oEnt (oVw v))) i := fun i hi p hp => by
                obtain ⟨g1, g2⟩ := hA_2 i hi
                rw [hcm i hi] at g1 g2
                by_cases hm : mixC S v o i
                · obtain ⟨k1, k2⟩ := g1 hm
                  have hiu : i < u := by
                    rcases Nat.lt_or_ge i u with z | z
                    · exact z
                    · exact absurd hm (hmz i z hi)
                  obtain ⟨l1, l2⟩ := (q2 i hiu).1 hm
                  exact ⟨by rw [l1 p hp, k1 p hp, (hc o ho i hi).1 p hp], by rw [l2, k2, (hc o ho i hi).2]⟩
                · obtain ⟨k1, k2⟩ := g2 hm
                  rcases Nat.lt_or_ge i u with z | z
                  · obtain ⟨l1, l2⟩ := (q2 i z).2 hm
                    exact ⟨by rw [l1 p hp, k1, (hc v hv i hi).1 p hp], by rw [l2, k2, (hc v hv i hi).2]⟩
                  · obtain ⟨l1, l2⟩ := q3 i z hi
                    exact ⟨by rw [l1 p hp, k1, (hc v hv i hi).1 p hp], by rw [l2, k2, (hc v hv i hi).2]⟩
              refine ⟨?_, ?_, fun i hi => ?_, fun y hy => ?_, ?_⟩
              · rw [hF2 0 (by first | (simp only [oNum, oKno, oSig, oPro, oFst, oSnd, oBox, oLet, oLts, oMem, oVw, oEnt, oBef, oBk, oVs, oVec, oCon] <;> omega) | omega | decide) (Or.inl (by first | (simp only [oNum, oKno, oSig, oPro, oFst, oSnd, oBox, oLet, oLts, oMem, oVw, oEnt, oBef, oBk, oVs, oVec, oCon] <;> omega) | omega | decide)), hb 0 (by omega)]; exact r3
              · rw [hF2 0 (by first | (simp only [oNum, oKno, oSig, oPro, oFst, oSnd, oBox, oLet, oLts, oMem, oVw, oEnt, oBef, oBk, oVs, oVec, oCon] <;> omega) | omega | decide) (Or.inl (by first | (simp only [oNum, oKno, oSig, oPro, oFst, oSnd, oBox, oLet, oLts, oMem, oVw, oEnt, oBef, oBk, oVs, oVec, oCon] <;> omega) | omega | decide)), hb 0 (by omega)]; exact r4
              · refine RM_v (hMm i hi) ?_ (fun k hk => by rw [hF2 _ (by first | (simp only [oNum, oKno, oSig, oPro, oFst, oSnd, oBox, oLet, oLts, oMem, oVw, oEnt, oBef, oBk, oVs, oVec, oCon] <;> omega) | omega | decide) (Or.inl (by first | (simp only [oNum, oKno, oSig, oPro, oFst, oSnd, oBox, oLet, oLts, oMem, oVw, oEnt, oBef, oBk, oVs, oVec, oCon] <;> omega) | omega | decide))]; exact h3 i hi k hk) (fun q q9 q10 => by rw [hF2 q (by simp only [oNum, oKno, oSig, oPro, oFst, oSnd, oBox, oLet, oLts, oMem, oVw, oEnt, oBef, oBk, oVs, oVec, oCon] at * <;> omega) (Or.inl (by simp only [oNum, oKno, oSig, oPro, oFst, oSnd, oBox, oLet, oLts, oMem, oVw, oEnt, oBef, oBk, oVs, oVec, oCon] at * <;> omega))]; exact h4 q (fun a ha => (by simp only [oNum, oKno, oSig, oPro, oFst, oSnd, oBox, oLet, oLts, oMem, oVw, oEnt, oBef, oBk, oVs, oVec, oCon] at * <;> omega))) hT
                rw [hF2 _ (by first | (simp only [oNum, oKno, oSig, oPro, oFst, oSnd, oBox, oLet, oLts, oMem, oVw, oEnt, oBef, oBk, oVs, oVec, oCon] <;> omega) | omega | decide) (Or.inl (by first | (simp only [oNum, oKno, oSig, oPro, oFst, oSnd, oBox, oLet, oLts, oMem, oVw, oEnt, oBef, oBk, oVs, oVec, oCon] <;> omega) | omega | decide))]
                rcases Nat.lt_or_ge i u with z | z
                · by_cases hq : S m_viewOf i = nI o
                  · rw [(h1 i z).1 hq, (q5 i z).1 hq]
                  · rw [(h1 i z).2 hq, (q5 i z).2 hq]
                · rw [h2 i z hi, q6 i z]
              · by_cases hyv : y = v
                · subst hyv
                  refine ⟨fun i hi => ⟨fun p hp => ((hr i hi p hp).1).symm, ((hr i hi 0 (by decide)).2).symm⟩, ?_, 0, by decide, ?_, fun k hk e q hq => ?_⟩
                  · rw [hF_3 _ (Or.inl (by first | (simp only [oNum, oKno, oSig, oPro, oFst, oSnd, oBox, oLet, oLts, oMem, oVw, oEnt, oBef, oBk, oVs, oVec, oCon] <;> omega) | omega | decide)), sw_k (by decide), sw_s, q7, upd_s]
                  · rw [hF_3 _ (Or.inl (by first | (simp only [oNum, oKno, oSig, oPro, oFst, oSnd, oBox, oLet, oLts, oMem, oVw, oEnt, oBef, oBk, oVs, oVec, oCon] <;> omega) | omega | decide)), sw_s]
                  · rw [q7, upd_s] at e
                    obtain rfl := nI_inj (by omega) (by omega) e
                    exact absurd hq (Nat.not_lt_zero _)
                · refine (hVv y hy).of (fun q q9 q10 => by rw [hF2 q (by simp only [oNum, oKno, oSig, oPro, oFst, oSnd, oBox, oLet, oLts, oMem, oVw, oEnt, oBef, oBk, oVs, oVec, oCon] at * <;> omega) (by simp only [oNum, oKno, oSig, oPro, oFst, oSnd, oBox, oLet, oLts, oMem, oVw, oEnt, oBef, oBk, oVs, oVec, oCon] at * <;> omega), hb q (by simp only [oNum, oKno, oSig, oPro, oFst, oSnd, oBox, oLet, oLts, oMem, oVw, oEnt, oBef, oBk, oVs, oVec, oCon] at * <;> omega)]) ⟨fun p hp => q4 _ (by rcases Nat.lt_or_ge y v with z | z <;> omega), by rw [q7, upd_n hyv], fun p _ => by rw [q8 _ (by decide) (by decide) (by decide)]⟩
              · exact hTt.of (by rw [hF2 _ (by simp only [oScr, oSgn, oNum, oKno, oSig, oPro, oFst, oSnd, oBox, oLet, oLts, oMem, oVw, oEnt, oBef, oBk, oVs, oVec, oCon] at * <;> omega) (Or.inl (by simp only [oScr, oSgn, oNum, oKno, oSig, oPro, oFst, oSnd, oBox, oLet, oLts, oMem, oVw, oEnt, oBef, oBk, oVs, oVec, oCon] at * <;> omega)), hb _ (by decide)]) (by rw [hF2 _ (by simp only [oScr, oSgn, oNum, oKno, oSig, oPro, oFst, oSnd, oBox, oLet, oLts, oMem, oVw, oEnt, oBef, oBk, oVs, oVec, oCon] at * <;> omega) (Or.inl (by simp only [oScr, oSgn, oNum, oKno, oSig, oPro, oFst, oSnd, oBox, oLet, oLts, oMem, oVw, oEnt, oBef, oBk, oVs, oVec, oCon] at * <;> omega)), hb _ (by decide)]) (by rw [q8 oMod (by decide) (by decide) (by decide)]) (q8 _ (by decide) (by decide) (by decide))
            · skip
              refine xi_aload_n hC dX7_mix_39 (pc' := 40) rfl rfl rfl ?_
              refine xg7_members hC dX7_mix_40 (pc' := 43) rfl xw_f_X7_11 kd_0 ?_
              refine xi_iload_n hC dX7_mix_43 (pc' := 44) rfl rfl rfl ?_
              refine xa_members hC dX7_mix_44 (pc' := 45) rfl kd_oMs rfl (by omega) ?_
              refine xg2_view hC dX7_mix_45 (pc' := 48) rfl xw_f_X7_90 (kd_oMem (by omega)) ?_
              refine xi_iload_n hC dX7_mix_48 (pc' := 49) rfl rfl rfl ?_
              refine xi_icmpne (tgt := 62) hC dX7_mix_49 (pc' := 52) rfl (by decide) (fun zc49 => ?_) (fun zc49 => ?_)
              · skip
                refine xn_iinc (lv' := [some (.ref (b + 0)), some (.int (nI v)), some (.int (nI o)), some (.int (nI (j + 1)))]) hC dX7_mix_62 (pc' := 65) rfl rfl (by decide) rfl ?_
                refine xi_goto (tgt := 31) hC dX7_mix_65 (by decide) ?_
                refine ih31 _ _ (by omega) ?_ ?_ ?_ ?_ ?_
                · omega
                · intro i hi
                  rcases Nat.lt_or_ge i j with z | z
                  · first
                      | exact h1 i z
                      | (rw [sw_n (show oMem i ≠ oMem j from fun q => by have := oMem_ne q; omega)]; exact h1 i z)
                  · obtain rfl : i = j := by omega
                    first
                      | exact ⟨fun q => absurd q (fun z => zc49 ((h2 i (Nat.le_refl _) (by omega)).trans z)), fun _ => h2 i (Nat.le_refl _) (by omega)⟩
                      | exact ⟨fun _ => sw_s, fun q => absurd ((h2 i (Nat.le_refl _) (by omega)).symm.trans zc49) q⟩
                · intro i hi h5
                  first
                    | exact h2 i (by omega) h5
                    | (rw [sw_n (show oMem i ≠ oMem j from fun q => by have := oMem_ne q; omega)]; exact h2 i (by omega) h5)
                · intro i hi k hk
                  first
                    | exact h3 i hi k hk
                    | (by_cases q : i = j
                       · subst q; rw [sw_k hk]; exact h3 i hi k hk
                       · rw [sw_n (show oMem i ≠ oMem j from fun z => q (oMem_ne z))]; exact h3 i hi k hk)
                · intro q hq
                  first
                    | exact h4 q hq
                    | (rw [sw_n (hq j (by omega))]; exact h4 q hq)
              · skip
                refine xi_aload_n hC dX7_mix_52 (pc' := 53) rfl rfl rfl ?_
                refine xg7_members hC dX7_mix_53 (pc' := 56) rfl xw_f_X7_11 kd_0 ?_
                refine xi_iload_n hC dX7_mix_56 (pc' := 57) rfl rfl rfl ?_
                refine xa_members hC dX7_mix_57 (pc' := 58) rfl kd_oMs rfl (by omega) ?_
                refine xi_iload_n hC dX7_mix_58 (pc' := 59) rfl rfl rfl ?_
                refine xp2_view hC dX7_mix_59 (pc' := 62) rfl xw_f_X7_90 (kd_oMem (by omega)) ?_
                refine xn_iinc (lv' := [some (.ref (b + 0)), some (.int (nI v)), some (.int (nI o)), some (.int (nI (j + 1)))]) hC dX7_mix_62 (pc' := 65) rfl rfl (by decide) rfl ?_
                refine xi_goto (tgt := 31) hC dX7_mix_65 (by decide) ?_
                refine ih31 _ _ (by omega) ?_ ?_ ?_ ?_ ?_
                · omega
                · intro i hi
                  rcases Nat.lt_or_ge i j with z | z
                  · first
                      | exact h1 i z
                      | (rw [sw_n (show oMem i ≠ oMem j from fun q => by have := oMem_ne q; omega)]; exact h1 i z)
                  · obtain rfl : i = j := by omega
                    first
                      | exact ⟨fun q => absurd q (fun z => zc49 ((h2 i (Nat.le_refl _) (by omega)).trans z)), fun _ => h2 i (Nat.le_refl _) (by omega)⟩
                      | exact ⟨fun _ => sw_s, fun q => absurd ((h2 i (Nat.le_refl _) (by omega)).symm.trans zc49) q⟩
                · intro i hi h5
                  first
                    | exact h2 i (by omega) h5
                    | (rw [sw_n (show oMem i ≠ oMem j from fun q => by have := oMem_ne q; omega)]; exact h2 i (by omega) h5)
                · intro i hi k hk
                  first
                    | exact h3 i hi k hk
                    | (by_cases q : i = j
                       · subst q; rw [sw_k hk]; exact h3 i hi k hk
                       · rw [sw_n (show oMem i ≠ oMem j from fun z => q (oMem_ne z))]; exact h3 i hi k hk)
                · intro q hq
                  first
                    | exact h4 q hq
                    | (rw [sw_n (hq j (by omega))]; exact h4 q hq)
        refine L31 _ _ _ (Nat.lt_succ_self _) ?_ ?_ ?_ ?_ ?_
        · omega
        · intro i q; exact absurd q (Nat.not_lt_zero _)
        · exact fun i _ hi => (hMm i hi).1.1
        · intro i _ k _; rfl
        · intro q _; rfl
      · skip
        refine xi_sipush (v := -10002) hC dX7_mix_25 (pc' := 28) rfl (by decide +kernel) ?_
        refine xi_ireturn hC dX7_mix_28 hr rfl ?_
        refine ⟨_, σ, rfl, Hi.rf, fun r' T hs => ?_, rfl⟩
        obtain ⟨q1, q2⟩ := (hs.2 v o hv ho rfl rfl).1 zc22
        subst q2
        exact ⟨q1.symm, hR⟩
    · skip
      refine xi_sipush (v := -10001) hC dX7_mix_16 (pc' := 19) rfl (by decide +kernel) ?_
      refine xi_ireturn hC dX7_mix_19 hr rfl ?_
      refine ⟨_, σ, rfl, Hi.rf, fun r' T hs => ?_, rfl⟩
      obtain ⟨q1, q2⟩ := (hs.1 (fun q => by first | exact zc5 q.1 | exact zc13 q.2))
      subst q2
      exact ⟨q1.symm, hR⟩
set_option maxRecDepth 100000 in
set_option maxHeartbeats 4000000 in
theorem c_X7_fork (l : Launch) (D : XD) (b n : Nat) {σ S : XM} {N u w : Nat} (hS : SI N S u w) (hR : RR σ S u w) (hN : N + 1 < 2 ^ 31) {x y : Int32}  : xM l yX7_fork cX7_fork 5 (some .int) 3 66 0 0 D b n [.ref (b + 0), .int x, .int y] (xH D b σ) n (fun y' h' => ∃ (r : Int32) (τ : XM), y' = some (.int r) ∧ Hi τ σ ∧ (∀ (r' : Int32) (T : XM), s_fork S u w x y r' T → r = r' ∧ ∀ w', T oMod 1 = nI w' → w' ≤ 6 → RR τ T u w') ∧ h' = xH D b τ) := by
  refine xM.of (lv := [some (.ref (b + 0)), some (.int x), some (.int y), none, none]) (by decide +kernel) rfl (List.forall_mem_cons.mpr ⟨rfl, List.forall_mem_cons.mpr ⟨rfl, List.forall_mem_cons.mpr ⟨rfl, fun _ h => absurd h List.not_mem_nil⟩⟩⟩) (Nat.le_of_ble_eq_true rfl) rfl ?_
  intro p e s m args below meth c hC hr hnm
  obtain ⟨hU, hn, hVw, hKp, hLt, hTx, hAl⟩ := id hS.1
  obtain ⟨hu, hu2, hu5⟩ := id hU
  obtain ⟨hn1, hw1, hw6⟩ := id hn
  obtain ⟨r3, r4, hMm, hVv, hTt⟩ := id hR
  refine xi_aload_n hC dX7_fork_0 (pc' := 1) rfl rfl rfl ?_
  refine xi_iload_n hC dX7_fork_1 (pc' := 2) rfl rfl rfl ?_
  refine xi_callV (As := [.int x]) (rest := []) (c_X7_isView l D b n (σ := σ) (u := w) (x := x) r4 hw6) hC dX7_fork_2 (pc' := 5) rfl xw_m_X7_76 xw_c_X7_isView xw_ins_X7_isView xw_sel_X7_isView xw_ini_X7 xd_X7_isView (xH_at.trans (xsh_7 kd_0)) rfl ⟨Nat.le_of_ble_eq_true rfl, Nat.le_of_ble_eq_true rfl⟩ rfl (Nat.le_of_ble_eq_true rfl) ⟨Nat.le_of_ble_eq_true rfl, Nat.le_of_ble_eq_true rfl⟩ ?_
  rintro _ _ ⟨rfl, rfl⟩
  show xV _ _ _ _ _ _ _ _ _ _ _ _ _ _ _ _ _ (xH D b σ) _ _ [.int (bI (isU w x))]
  refine xb_ifne (tgt := 12) hC dX7_fork_5 (pc' := 8) rfl (by decide) (fun zc5 => ?_) (fun zc5 => ?_)
  · skip
    obtain ⟨v, hv, rfl⟩ := zc5
    refine xi_iload_n hC dX7_fork_12 (pc' := 13) rfl rfl rfl ?_
    refine xi_ifeq (tgt := 28) hC dX7_fork_13 (pc' := 16) rfl (by decide) (fun zc13 => ?_) (fun zc13 => ?_)
    · skip
      refine xi_sipush (v := -10002) hC dX7_fork_28 (pc' := 31) rfl (by decide +kernel) ?_
      refine xi_ireturn hC dX7_fork_31 hr rfl ?_
      refine ⟨_, σ, rfl, Hi.rf, fun r' T hs => ?_, rfl⟩
      obtain ⟨q1, q2⟩ := (hs.2 v hv rfl).1 (by first | exact Or.inl zc13 | exact Or.inr zc25)
      subst q2
      exact ⟨q1.symm, fun w' e _ => by rw [show w' = w from nI_inj (by omega) (by omega) (e.symm.trans hn1)]; exact hR⟩
    · skip
      refine xi_iload_n hC dX7_fork_16 (pc' := 17) rfl rfl rfl ?_
      refine xi_aload_n hC dX7_fork_17 (pc' := 18) rfl rfl rfl ?_
      refine xi_iload_n hC dX7_fork_18 (pc' := 19) rfl rfl rfl ?_
      refine xi_callV (As := [.int (nI v)]) (rest := [.int y]) (c_X7_usersAttachedTo l D b n (σ := σ) (S := S) (u := u) (x := (nI v)) r3 hu5 (fun i hi => (hMm i hi).1.1)) hC dX7_fork_19 (pc' := 22) rfl xw_m_X7_79 xw_c_X7_usersAttachedTo xw_ins_X7_usersAttachedTo xw_sel_X7_usersAttachedTo xw_ini_X7 xd_X7_usersAttachedTo (xH_at.trans (xsh_7 kd_0)) rfl ⟨Nat.le_of_ble_eq_true rfl, Nat.le_of_ble_eq_true rfl⟩ rfl (Nat.le_of_ble_eq_true rfl) ⟨Nat.le_of_ble_eq_true rfl, Nat.le_of_ble_eq_true rfl⟩ ?_
      rintro _ _ ⟨rfl, rfl⟩
      show xV _ _ _ _ _ _ _ _ _ _ _ _ _ _ _ _ _ (xH D b σ) _ _ [.int (attM S (nI v) u), .int y]
      refine xi_iconst (v := -1) hC dX7_fork_22 (pc' := 23) rfl (by decide +kernel) ?_
      refine xi_ixor hC dX7_fork_23 (pc' := 24) rfl ?_
      refine xi_iand hC dX7_fork_24 (pc' := 25) rfl ?_
      refine xi_ifeq (tgt := 32) hC dX7_fork_25 (pc' := 28) rfl (by decide) (fun zc25 => ?_) (fun zc25 => ?_)
      · skip
        have hnb : ¬ badS S u v y := fun q => q.elim zc13 (fun z => z zc25)
        refine xi_aload_n hC dX7_fork_32 (pc' := 33) rfl rfl rfl ?_
        refine xg7_viewCount hC dX7_fork_33 (pc' := 36) rfl xw_f_X7_32 kd_0 ?_
        refine xtop (y := (nI w)) (r4) ?_
        refine xi_bipush (v := nI 6) hC dX7_fork_36 (pc' := 38) rfl (by decide +kernel) ?_
        refine xn_icmplt (tgt := 45) hC dX7_fork_38 (pc' := 41) rfl (by decide) (by omega) (by omega) (fun zc38 => ?_) (fun zc38 => ?_)
        · skip
          refine xi_aload_n hC dX7_fork_45 (pc' := 46) rfl rfl rfl ?_
          refine xg7_viewCount hC dX7_fork_46 (pc' := 49) rfl xw_f_X7_32 kd_0 ?_
          refine xtop (y := (nI w)) (r4) ?_
          refine xi_istore_n (lv' := [some (.ref (b + 0)), some (.int (nI v)), some (.int y), some (.int (nI w)), none]) hC dX7_fork_49 (pc' := 50) rfl rfl (by decide) rfl ?_
          refine xi_aload_n hC dX7_fork_50 (pc' := 51) rfl rfl rfl ?_
          refine xi_dup hC dX7_fork_51 (pc' := 52) rfl rfl ?_
          refine xg7_viewCount hC dX7_fork_52 (pc' := 55) rfl xw_f_X7_32 kd_0 ?_
          refine xtop (y := (nI w)) (r4) ?_
          refine xi_iconst (v := nI 1) hC dX7_fork_55 (pc' := 56) rfl (by decide +kernel) ?_
          refine xn_iadd hC dX7_fork_56 (pc' := 57) rfl ?_
          refine xp7_viewCount hC dX7_fork_57 (pc' := 60) rfl xw_f_X7_32 kd_0 ?_
          refine xi_aload_n hC dX7_fork_60 (pc' := 61) rfl rfl rfl ?_
          refine xg7_views hC dX7_fork_61 (pc' := 64) rfl xw_f_X7_17 kd_0 ?_
          refine xi_iload_n hC dX7_fork_64 (pc' := 65) rfl rfl rfl ?_
          refine xa_views hC dX7_fork_65 (pc' := 66) rfl kd_oVws rfl (by omega) ?_
          refine xi_aload_n hC dX7_fork_66 (pc' := 67) rfl rfl rfl ?_
          refine xg7_views hC dX7_fork_67 (pc' := 70) rfl xw_f_X7_17 kd_0 ?_
          refine xi_iload_n hC dX7_fork_70 (pc' := 71) rfl rfl rfl ?_
          refine xa_views hC dX7_fork_71 (pc' := 72) rfl kd_oVws rfl (by omega) ?_
          refine xi_callV (As := [.ref (b + (oVw v))]) (rest := []) (c_X6_copyFrom l D b n (σ := (sw σ 0 4 (nI (w + 1)))) (kd_oVw (by omega)) (kd_oVw (by omega)) (by first | (simp only [oMs, oVws, oScr, oSgn, oMod, oMem, oSig, oKno, oPro, oBox, oFst, oSnd, oLts, oLet, oNum, oVw, oEnt, oBef, oBk, oVs, oCon, oVec, m_row, m_keptOf, m_keptRow, m_viewOf, m_alarmOf, m_hasProof, m_depthOf, m_proofOf, m_signedOf, m_knownOf, m_doneOf, m_shownTo, m_sentBy, m_hasRead, m_readOf, m_lettersOf, m_letter, m_hand, m_text] <;> omega) | decide | omega | (simp only [oMs, oVws, oScr, oSgn, oMod, oMem, oSig, oKno, oPro, oBox, oFst, oSnd, oLts, oLet, oNum, oVw, oEnt, oBef, oBk, oVs, oCon, oVec, m_row, m_keptOf, m_keptRow, m_viewOf, m_alarmOf, m_hasProof, m_depthOf, m_proofOf, m_signedOf, m_knownOf, m_doneOf, m_shownTo, m_sentBy, m_hasRead, m_readOf, m_lettersOf, m_letter, m_hand, m_text] at * <;> omega))) hC dX7_fork_72 (pc' := 75) rfl xw_m_X7_82 xw_c_X6_copyFrom xw_ins_X6_copyFrom xw_sel_X6_copyFrom xw_ini_X6 xd_X6_copyFrom (xH_at.trans (xsh_6 (kd_oVw (by omega)))) rfl ⟨Nat.le_of_ble_eq_true rfl, Nat.le_of_ble_eq_true rfl⟩ rfl (Nat.le_of_ble_eq_true rfl) ⟨Nat.le_of_ble_eq_true rfl, Nat.le_of_ble_eq_true rfl⟩ ?_
          rintro _ _ ⟨rfl, τ_1, hE_2, hB_3, hr_4, hn_5, hF_6, rfl⟩
          show xV _ _ _ _ _ _ _ _ _ _ _ _ _ _ _ _ _ (xH D b τ_1) _ _ []
          have hb : ∀ q, q ≠ 0 → (q < oVw w ∨ oVw w + 80 ≤ q) → τ_1 q = σ q := fun q q1 q2 => by rw [hF_6 q q2, sw_n q1]
          have v4b : ∀ i, i < 5 → τ_1 (oMem i) 4 = S m_viewOf i := fun i hi => by rw [hb _ (by first | (simp only [oNum, oKno, oSig, oPro, oFst, oSnd, oBox, oLet, oLts, oMem, oVw, oEnt, oBef, oBk, oVs, oVec, oCon] <;> omega) | omega | decide) (Or.inl (by first | (simp only [oNum, oKno, oSig, oPro, oFst, oSnd, oBox, oLet, oLts, oMem, oVw, oEnt, oBef, oBk, oVs, oVec, oCon] <;> omega) | omega | decide))]; exact (hMm i hi).1.1
          have r3b : τ_1 0 3 = nI u := by rw [hF_6 0 (Or.inl (by first | (simp only [oNum, oKno, oSig, oPro, oFst, oSnd, oBox, oLet, oLts, oMem, oVw, oEnt, oBef, oBk, oVs, oVec, oCon] <;> omega) | omega | decide)), sw_k (by decide)]; exact r3
          have r4b : τ_1 0 4 = nI (w + 1) := by rw [hF_6 0 (Or.inl (by first | (simp only [oNum, oKno, oSig, oPro, oFst, oSnd, oBox, oLet, oLts, oMem, oVw, oEnt, oBef, oBk, oVs, oVec, oCon] <;> omega) | omega | decide)), sw_s]
          refine xi_iconst (v := nI 0) hC dX7_fork_75 (pc' := 76) rfl (by decide +kernel) ?_
          refine xi_istore (lv' := [some (.ref (b + 0)), some (.int (nI v)), some (.int y), some (.int (nI w)), some (.int (nI 0))]) hC dX7_fork_76 (pc' := 78) rfl (by decide) rfl ?_
          have L78 : ∀ (d : Nat) (j : Nat) (τ : XM), u - j < d → (j ≤ u) → (∀ i, i < j → (hasB y i → τ (oMem i) 4 = nI w) ∧ (¬ hasB y i → τ (oMem i) 4 = S m_viewOf i)) → (∀ i, j ≤ i → i < 5 → τ (oMem i) 4 = S m_viewOf i) → (∀ i, i < 5 → ∀ k, k ≠ 4 → τ (oMem i) k = τ_1 (oMem i) k) → (∀ q, (∀ i, i < 5 → q ≠ oMem i) → τ q = τ_1 q) → xV p l e (xR 3 66 0 0) s m args below meth c D b 5 0 0 (MQ below (xQ D b n (fun y' h' => ∃ (r : Int32) (τ : XM), y' = some (.int r) ∧ Hi τ σ ∧ (∀ (r' : Int32) (T : XM), s_fork S u w (nI v) y r' T → r = r' ∧ ∀ w', T oMod 1 = nI w' → w' ≤ 6 → RR τ T u w') ∧ h' = xH D b τ)) args s 0 0 (fun q => b ≤ q)) n (xH D b τ) 78 [some (.ref (b + 0)), some (.int (nI v)), some (.int y), some (.int (nI w)), some (.int (nI j))] [] := by
            intro d
            induction d with
            | zero => intro j τ h; exact absurd h (Nat.not_lt_zero _)
            | succ d ih78 =>
              intro j τ hd78 hj h1 h2 h3 h4
              refine xi_iload hC dX7_fork_78 (pc' := 80) rfl rfl ?_
              refine xi_aload_n hC dX7_fork_80 (pc' := 81) rfl rfl rfl ?_
              refine xg7_users hC dX7_fork_81 (pc' := 84) rfl xw_f_X7_28 kd_0 ?_
              refine xtop (y := (nI u)) (((congrFun (h4 0 (fun i hi => (by simp only [oNum, oKno, oSig, oPro, oFst, oSnd, oBox, oLet, oLts, oMem, oVw, oEnt, oBef, oBk, oVs, oVec, oCon] at * <;> omega))) 3).trans r3b)) ?_
              refine xn_icmpge (tgt := 113) hC dX7_fork_84 (pc' := 87) rfl (by decide) (by omega) (by omega) (fun zc84 => ?_) (fun zc84 => ?_)
              · skip
                refine xi_iload_n hC dX7_fork_113 (pc' := 114) rfl rfl rfl ?_
                refine xi_ireturn hC dX7_fork_114 hr rfl ?_
                refine ⟨_, _, rfl, fun q hq => by rw [h4 q (fun i hi => (by simp only [oNum, oKno, oSig, oPro, oFst, oSnd, oBox, oLet, oLts, oMem, oVw, oEnt, oBef, oBk, oVs, oVec, oCon] at * <;> omega)), hb q (by simp only [oNum, oKno, oSig, oPro, oFst, oSnd, oBox, oLet, oLts, oMem, oVw, oEnt, oBef, oBk, oVs, oVec, oCon] at * <;> omega) (Or.inr (by simp only [oNum, oKno, oSig, oPro, oFst, oSnd, oBox, oLet, oLts, oMem, oVw, oEnt, oBef, oBk, oVs, oVec, oCon] at * <;> omega))], fun r' T hs => ?_, rfl⟩
                obtain ⟨q1, q2, q3, q4, q5, q6, q7, q8, q9⟩ := ((hs.2 v hv rfl).2 hnb).2 (by omega)
                refine ⟨q1.symm, fun w' e hw' => ?_⟩
                rw [q7] at e
                obtain rfl := nI_inj (by omega) (by omega) e
                have ej : j = u := by omega
                rw [ej] at h1 h2
                have hO : ∀ q, q ≠ 0 → (∀ i, i < 5 → q ≠ oMem i) → (q < oVw w ∨ oVw w + 80 ≤ q) → τ q = σ q := fun q a1 a2 a3 => by rw [h4 q a2, hb q a1 a3]
                have hT : ∀ a, 590 ≤ a → a < 603 → T a = S a := fun a a1 a2 => q9 a (by simp only [oMod]; omega) (by simp only [m_row]; omega) (by simp only [m_keptRow]; omega) (by simp only [m_keptOf]; omega) (by simp only [m_viewOf]; omega)
                have hv6 : v < 6 := by omega
                refine ⟨?_, ?_, fun i hi => ?_, fun y' hy => ?_, ?_⟩
                · rw [h4 0 (fun i hi => (by first | (simp only [oNum, oKno, oSig, oPro, oFst, oSnd, oBox, oLet, oLts, oMem, oVw, oEnt, oBef, oBk, oVs, oVec, oCon] <;> omega) | omega | decide))]; exact r3b
                · rw [h4 0 (fun i hi => (by first | (simp only [oNum, oKno, oSig, oPro, oFst, oSnd, oBox, oLet, oLts, oMem, oVw, oEnt, oBef, oBk, oVs, oVec, oCon] <;> omega) | omega | decide))]; exact r4b
                · refine RM_v (hMm i hi) ?_ (fun k hk => by rw [h3 i hi k hk, hb _ (by first | (simp only [oNum, oKno, oSig, oPro, oFst, oSnd, oBox, oLet, oLts, oMem, oVw, oEnt, oBef, oBk, oVs, oVec, oCon] <;> omega) | omega | decide) (Or.inl (by first | (simp only [oNum, oKno, oSig, oPro, oFst, oSnd, oBox, oLet, oLts, oMem, oVw, oEnt, oBef, oBk, oVs, oVec, oCon] <;> omega) | omega | decide))]) (fun q a1 a2 => hO q (by simp only [oNum, oKno, oSig, oPro, oFst, oSnd, oBox, oLet, oLts, oMem, oVw, oEnt, oBef, oBk, oVs, oVec, oCon] at * <;> omega) (fun a ha => (by simp only [oNum, oKno, oSig, oPro, oFst, oSnd, oBox, oLet, oLts, oMem, oVw, oEnt, oBef, oBk, oVs, oVec, oCon] at * <;> omega)) (Or.inl (by simp only [oNum, oKno, oSig, oPro, oFst, oSnd, oBox, oLet, oLts, oMem, oVw, oEnt, oBef, oBk, oVs, oVec, oCon] at * <;> omega))) hT
                  rcases Nat.lt_or_ge i u with z | z
                  · by_cases hq : hasB y i
                    · rw [(h1 i z).1 hq, (q5 i z).1 hq]
                    · rw [(h1 i z).2 hq, (q5 i z).2 hq]
                  · rw [h2 i z hi, q6 i z]
                · rcases Nat.lt_or_ge y' w with z | z
                  · refine (hVv y' z).of (fun q a1 a2 => hO q (by simp only [oNum, oKno, oSig, oPro, oFst, oSnd, oBox, oLet, oLts, oMem, oVw, oEnt, oBef, oBk, oVs, oVec, oCon] at * <;> omega) (fun a ha => (by simp only [oNum, oKno, oSig, oPro, oFst, oSnd, oBox, oLet, oLts, oMem, oVw, oEnt, oBef, oBk, oVs, oVec, oCon] at * <;> omega)) (Or.inl (by simp only [oNum, oKno, oSig, oPro, oFst, oSnd, oBox, oLet, oLts, oMem, oVw, oEnt, oBef, oBk, oVs, oVec, oCon] at * <;> omega))) ⟨fun p hp => by rw [q2, cpy_out (by omega)], by rw [q4, upd_n (by omega)], fun p hp => by rw [q3, cpy_out (by omega)]⟩
                  · obtain rfl : y' = w := by omega
                    obtain ⟨b1, b2, x, hx5, b3, b4⟩ := hVv v hv
                    have hvw' : oVw v + 80 ≤ oVw y' := (by first | (simp only [oVw]; omega) | (simp only [oNum, oKno, oSig, oPro, oFst, oSnd, oBox, oLet, oLts, oMem, oVw, oEnt, oBef, oBk, oVs, oVec, oCon] <;> omega) | omega | decide)
                    have g4 : ∀ q, oVw y' ≤ q → τ q = τ_1 q := fun q a1 => h4 q (fun a ha => (by simp only [oNum, oKno, oSig, oPro, oFst, oSnd, oBox, oLet, oLts, oMem, oVw, oEnt, oBef, oBk, oVs, oVec, oCon] at * <;> omega))
                    have g5 : ∀ q, oVw v ≤ q → q < oVw v + 80 → sw σ 0 4 (nI (y' + 1)) q = σ q := fun q a1 a2 => sw_n (by simp only [oNum, oKno, oSig, oPro, oFst, oSnd, oBox, oLet, oLts, oMem, oVw, oEnt, oBef, oBk, oVs, oVec, oCon] at * <;> omega)
                    have gE : EqE τ (oEnt (oVw y')) σ (oEnt (oVw v)) := EqE.of hE_2 (fun q a1 a2 => g4 q (by simp only [oNum, oKno, oSig, oPro, oFst, oSnd, oBox, oLet, oLts, oMem, oVw, oEnt, oBef, oBk, oVs, oVec, oCon] at * <;> omega)) (fun q a1 a2 => (g5 q (by simp only [oNum, oKno, oSig, oPro, oFst, oSnd, oBox, oLet, oLts, oMem, oVw, oEnt, oBef, oBk, oVs, oVec, oCon] at * <;> omega) (by simp only [oNum, oKno, oSig, oPro, oFst, oSnd, oBox, oLet, oLts, oMem, oVw, oEnt, oBef, oBk, oVs, oVec, oCon] at * <;> omega)).symm)
                    refine ⟨(EqR.eq gE b1).of (fun _ _ _ => rfl) (fun p hp => by rw [q2, cpy_in hp]; rfl), ?_, x, hx5, ?_, fun k hk e2 q hq => ?_⟩
                    · rw [g4 _ (Nat.le_refl _), hr_4, g5 _ (Nat.le_refl _) (by omega), q4, upd_s]; exact b2
                    · rw [g4 _ (Nat.le_refl _), hn_5, g5 _ (Nat.le_refl _) (by omega)]; exact b3
                    · rw [q4, upd_s] at e2
                      have hm5 : (x + 5 - k + q) % 5 < 5 := Nat.mod_lt _ (by decide)
                      have gB : EqE τ (oBk (oBef (oVw y')) ((x + 5 - k + q) % 5)) σ (oBk (oBef (oVw v)) ((x + 5 - k + q) % 5)) := EqE.of (hB_3 _ hm5) (fun q a1 a2 => g4 q (by simp only [oNum, oKno, oSig, oPro, oFst, oSnd, oBox, oLet, oLts, oMem, oVw, oEnt, oBef, oBk, oVs, oVec, oCon] at * <;> omega)) (fun q a1 a2 => (g5 q (by simp only [oNum, oKno, oSig, oPro, oFst, oSnd, oBox, oLet, oLts, oMem, oVw, oEnt, oBef, oBk, oVs, oVec, oCon] at * <;> omega) (by simp only [oNum, oKno, oSig, oPro, oFst, oSnd, oBox, oLet, oLts, oMem, oVw, oEnt, oBef, oBk, oVs, oVec, oCon] at * <;> omega)).symm)
                      refine (EqR.eq gB (b4 k hk e2 q hq)).of (fun _ _ _ => rfl) (fun p hp => ?_)
                      rw [q3, Nat.add_assoc, cpy_in (by omega)]
                      show S m_keptRow _ = S m_keptRow _
                      congr 1; omega
                · exact hTt.of (hO _ (by decide) (fun a ha => (by simp only [oScr, oSgn, oNum, oKno, oSig, oPro, oFst, oSnd, oBox, oLet, oLts, oMem, oVw, oEnt, oBef, oBk, oVs, oVec, oCon] at * <;> omega)) (Or.inl (by simp only [oScr, oSgn, oNum, oKno, oSig, oPro, oFst, oSnd, oBox, oLet, oLts, oMem, oVw, oEnt, oBef, oBk, oVs, oVec, oCon] at * <;> omega))) (hO _ (by decide) (fun a ha => (by simp only [oScr, oSgn, oNum, oKno, oSig, oPro, oFst, oSnd, oBox, oLet, oLts, oMem, oVw, oEnt, oBef, oBk, oVs, oVec, oCon] at * <;> omega)) (Or.inl (by simp only [oScr, oSgn, oNum, oKno, oSig, oPro, oFst, oSnd, oBox, oLet, oLts, oMem, oVw, oEnt, oBef, oBk, oVs, oVec, oCon] at * <;> omega))) (q8 23 (by decide)) (q9 _ (by decide) (by decide) (by decide) (by decide) (by decide))
              · skip
                refine xi_iload_n hC dX7_fork_87 (pc' := 88) rfl rfl rfl ?_
                refine xi_iload hC dX7_fork_88 (pc' := 90) rfl rfl ?_
                refine xi_callS (As := [.int y, .int (nI j)]) (rest := []) (c_X7_contains l D b n (σ := τ) (y := y) (i := j)) hC dX7_fork_90 (pc' := 93) rfl xw_m_X7_86 xw_c_X7_contains xw_sta_X7_contains xw_ini_X7 xd_X7_contains ⟨Nat.le_of_ble_eq_true rfl, Nat.le_of_ble_eq_true rfl⟩ rfl (Nat.le_of_ble_eq_true rfl) ⟨Nat.le_of_ble_eq_true rfl, Nat.le_of_ble_eq_true rfl⟩ ?_
                rintro _ _ ⟨rfl, rfl⟩
                show xV _ _ _ _ _ _ _ _ _ _ _ _ _ _ _ _ _ (xH D b τ) _ _ [.int (bI (hasB y j))]
                refine xb_ifeq (tgt := 107) hC dX7_fork_93 (pc' := 96) rfl (by decide) (fun zc93 => ?_) (fun zc93 => ?_)
                · skip
                  refine xn_iinc (lv' := [some (.ref (b + 0)), some (.int (nI v)), some (.int y), some (.int (nI w)), some (.int (nI (j + 1)))]) hC dX7_fork_107 (pc' := 110) rfl rfl (by decide) rfl ?_
                  refine xi_goto (tgt := 78) hC dX7_fork_110 (by decide) ?_
                  refine ih78 _ _ (by omega) ?_ ?_ ?_ ?_ ?_
                  · omega
                  · intro i hi
                    rcases Nat.lt_or_ge i j with z | z
                    · first
                        | exact h1 i z
                        | (rw [sw_n (show oMem i ≠ oMem j from fun q => by have := oMem_ne q; omega)]; exact h1 i z)
                    · obtain rfl : i = j := by omega
                      first
                        | exact ⟨fun q => absurd q zc93, fun _ => h2 i (Nat.le_refl _) (by omega)⟩
                        | exact ⟨fun _ => sw_s, fun q => absurd zc93 q⟩
                  · intro i hi h5
                    first
                      | exact h2 i (by omega) h5
                      | (rw [sw_n (show oMem i ≠ oMem j from fun q => by have := oMem_ne q; omega)]; exact h2 i (by omega) h5)
                  · intro i hi k hk
                    first
                      | exact h3 i hi k hk
                      | (by_cases q : i = j
                         · subst q; rw [sw_k hk]; exact h3 i hi k hk
                         · rw [sw_n (show oMem i ≠ oMem j from fun z => q (oMem_ne z))]; exact h3 i hi k hk)
                  · intro q hq
                    first
                      | exact h4 q hq
                      | (rw [sw_n (hq j (by omega))]; exact h4 q hq)
                · skip
                  refine xi_aload_n hC dX7_fork_96 (pc' := 97) rfl rfl rfl ?_
                  refine xg7_members hC dX7_fork_97 (pc' := 100) rfl xw_f_X7_11 kd_0 ?_
                  refine xi_iload hC dX7_fork_100 (pc' := 102) rfl rfl ?_
                  refine xa_members hC dX7_fork_102 (pc' := 103) rfl kd_oMs rfl (by omega) ?_
                  refine xi_iload_n hC dX7_fork_103 (pc' := 104) rfl rfl rfl ?_
                  refine xp2_view hC dX7_fork_104 (pc' := 107) rfl xw_f_X7_90 (kd_oMem (by omega)) ?_
                  refine xn_iinc (lv' := [some (.ref (b + 0)), some (.int (nI v)), some (.int y), some (.int (nI w)), some (.int (nI (j + 1)))]) hC dX7_fork_107 (pc' := 110) rfl rfl (by decide) rfl ?_
                  refine xi_goto (tgt := 78) hC dX7_fork_110 (by decide) ?_
                  refine ih78 _ _ (by omega) ?_ ?_ ?_ ?_ ?_
                  · omega
                  · intro i hi
                    rcases Nat.lt_or_ge i j with z | z
                    · first
                        | exact h1 i z
                        | (rw [sw_n (show oMem i ≠ oMem j from fun q => by have := oMem_ne q; omega)]; exact h1 i z)
                    · obtain rfl : i = j := by omega
                      first
                        | exact ⟨fun q => absurd q zc93, fun _ => h2 i (Nat.le_refl _) (by omega)⟩
                        | exact ⟨fun _ => sw_s, fun q => absurd zc93 q⟩
                  · intro i hi h5
                    first
                      | exact h2 i (by omega) h5
                      | (rw [sw_n (show oMem i ≠ oMem j from fun q => by have := oMem_ne q; omega)]; exact h2 i (by omega) h5)
                  · intro i hi k hk
                    first
                      | exact h3 i hi k hk
                      | (by_cases q : i = j
                         · subst q; rw [sw_k hk]; exact h3 i hi k hk
                         · rw [sw_n (show oMem i ≠ oMem j from fun z => q (oMem_ne z))]; exact h3 i hi k hk)
                  · intro q hq
                    first
                      | exact h4 q hq
                      | (rw [sw_n (hq j (by omega))]; exact h4 q hq)
          refine L78 _ _ _ (Nat.lt_succ_self _) ?_ ?_ ?_ ?_ ?_
          · omega
          · intro i q; exact absurd q (Nat.not_lt_zero _)
          · exact fun i _ hi => v4b i hi
          · intro i _ k _; rfl
          · intro q _; rfl
        · skip
          refine xi_sipush (v := -10004) hC dX7_fork_41 (pc' := 44) rfl (by decide +kernel) ?_
          refine xi_ireturn hC dX7_fork_44 hr rfl ?_
          refine ⟨_, σ, rfl, Hi.rf, fun r' T hs => ?_, rfl⟩
          obtain ⟨q1, q2⟩ := ((hs.2 v hv rfl).2 hnb).1 (by omega)
          subst q2
          exact ⟨q1.symm, fun w' e _ => by rw [show w' = w from nI_inj (by omega) (by omega) (e.symm.trans hn1)]; exact hR⟩
      · skip
        refine xi_sipush (v := -10002) hC dX7_fork_28 (pc' := 31) rfl (by decide +kernel) ?_
        refine xi_ireturn hC dX7_fork_31 hr rfl ?_
        refine ⟨_, σ, rfl, Hi.rf, fun r' T hs => ?_, rfl⟩
        obtain ⟨q1, q2⟩ := (hs.2 v hv rfl).1 (by first | exact Or.inl zc13 | exact Or.inr zc25)
        subst q2
        exact ⟨q1.symm, fun w' e _ => by rw [show w' = w from nI_inj (by omega) (by omega) (e.symm.trans hn1)]; exact hR⟩
  · skip
    refine xi_sipush (v := -10001) hC dX7_fork_8 (pc' := 11) rfl (by decide +kernel) ?_
    refine xi_ireturn hC dX7_fork_11 hr rfl ?_
    refine ⟨_, σ, rfl, Hi.rf, fun r' T hs => ?_, rfl⟩
    obtain ⟨q1, q2⟩ := hs.1 zc5
    subst q2
    exact ⟨q1.symm, fun w' e _ => by rw [show w' = w from nI_inj (by omega) (by omega) (e.symm.trans hn1)]; exact hR⟩
set_option maxRecDepth 100000 in
set_option maxHeartbeats 4000000 in
theorem c_X7_reset (l : Launch) (D : XD) (b n : Nat) {σ S : XM} {N u w : Nat} (hS : SI N S u w) (hR : RR σ S u w) (hN : N + 1 < 2 ^ 31) {x : Int32}  : xM l yX7_reset cX7_reset 4 (some .int) 3 62 0 0 D b n [.ref (b + 0), .int x] (xH D b σ) n (fun y' h' => ∃ (r : Int32) (τ : XM), y' = some (.int r) ∧ Hi τ σ ∧ (∀ (r' : Int32) (T : XM), s_reset S u x r' T → r = r' ∧ ∀ u' w', T oMod 0 = nI u' → T oMod 1 = nI w' → u' ≤ 5 → w' ≤ 6 → RR τ T u' w') ∧ h' = xH D b τ) := by
  refine xM.of (lv := [some (.ref (b + 0)), some (.int x), none, none]) (by decide +kernel) rfl (List.forall_mem_cons.mpr ⟨rfl, List.forall_mem_cons.mpr ⟨rfl, fun _ h => absurd h List.not_mem_nil⟩⟩) (Nat.le_of_ble_eq_true rfl) rfl ?_
  intro p e s m args below meth c hC hr hnm
  obtain ⟨hU, hn, hVw, hKp, hLt, hTx, hAl⟩ := id hS.1
  obtain ⟨hu, hu2, hu5⟩ := id hU
  obtain ⟨hn1, hw1, hw6⟩ := id hn
  obtain ⟨r3, r4, hMm, hVv, hTt⟩ := id hR
  refine xi_iload_n hC dX7_reset_0 (pc' := 1) rfl rfl rfl ?_
  refine xi_iconst (v := nI 2) hC dX7_reset_1 (pc' := 2) rfl (by decide +kernel) ?_
  refine xi_icmplt (tgt := 10) hC dX7_reset_2 (pc' := 5) rfl (by decide) (fun zc2 => ?_) (fun zc2 => ?_)
  · skip
    refine xi_sipush (v := -10002) hC dX7_reset_10 (pc' := 13) rfl (by decide +kernel) ?_
    refine xi_ireturn hC dX7_reset_13 hr rfl ?_
    refine ⟨_, σ, rfl, Hi.rf, fun r' T hs => ?_, rfl⟩
    obtain ⟨q1, q2⟩ := hs.1 (fun q => by first | exact i_not_lt.mpr q.1 zc2 | exact zc7 q.2)
    subst q2
    exact ⟨q1.symm, fun u' w' e1 e2 _ _ => by rw [show u' = u from nI_inj (by omega) (by omega) (e1.symm.trans hu), show w' = w from nI_inj (by omega) (by omega) (e2.symm.trans hn1)]; exact hR⟩
  · skip
    refine xi_iload_n hC dX7_reset_5 (pc' := 6) rfl rfl rfl ?_
    refine xi_iconst (v := nI 5) hC dX7_reset_6 (pc' := 7) rfl (by decide +kernel) ?_
    refine xi_icmple (tgt := 14) hC dX7_reset_7 (pc' := 10) rfl (by decide) (fun zc7 => ?_) (fun zc7 => ?_)
    · skip
      obtain ⟨z, hz2, hz5, rfl⟩ := rng25 ⟨i_not_lt.mp zc2, zc7⟩
      refine xi_aload_n hC dX7_reset_14 (pc' := 15) rfl rfl rfl ?_
      refine xg7_users hC dX7_reset_15 (pc' := 18) rfl xw_f_X7_28 kd_0 ?_
      refine xtop (y := (nI u)) (r3) ?_
      refine xi_istore_n (lv' := [some (.ref (b + 0)), some (.int (nI z)), some (.int (nI u)), none]) hC dX7_reset_18 (pc' := 19) rfl rfl (by decide) rfl ?_
      refine xi_aload_n hC dX7_reset_19 (pc' := 20) rfl rfl rfl ?_
      refine xi_iload_n hC dX7_reset_20 (pc' := 21) rfl rfl rfl ?_
      refine xp7_users hC dX7_reset_21 (pc' := 24) rfl xw_f_X7_28 kd_0 ?_
      refine xi_aload_n hC dX7_reset_24 (pc' := 25) rfl rfl rfl ?_
      refine xi_iconst (v := nI 1) hC dX7_reset_25 (pc' := 26) rfl (by decide +kernel) ?_
      refine xp7_viewCount hC dX7_reset_26 (pc' := 29) rfl xw_f_X7_32 kd_0 ?_
      refine xi_iconst (v := nI 0) hC dX7_reset_29 (pc' := 30) rfl (by decide +kernel) ?_
      refine xi_istore_n (lv' := [some (.ref (b + 0)), some (.int (nI z)), some (.int (nI u)), some (.int (nI 0))]) hC dX7_reset_30 (pc' := 31) rfl rfl (by decide) rfl ?_
      have L31 : ∀ (d : Nat) (j : Nat) (τ : XM), 5 - j < d → (j ≤ 5) → (∀ i, i < j → (∀ k, k < 5 → τ (oNum (oSig (oMem i))) k = 0 ∧ τ (oNum (oKno (oMem i))) k = 0) ∧ τ (oPro (oMem i)) 2 = nI 0 ∧ τ (oBox (oMem i)) 1 = nI 0 ∧ τ (oMem i) 4 = nI 0 ∧ τ (oMem i) 5 = nI 0 ∧ τ (oMem i) 6 = nI 0 ∧ τ (oMem i) 8 = nI 0 ∧ τ (oMem i) 9 = nI 0 ∧ τ (oMem i) 10 = nI 0) → (∀ o, (o < 5 ∨ 105 ≤ o) → τ o = (sw (sw σ 0 3 (nI z)) 0 4 (nI 1)) o) → xV p l e (xR 3 62 0 0) s m args below meth c D b 4 0 0 (MQ below (xQ D b n (fun y' h' => ∃ (r : Int32) (τ : XM), y' = some (.int r) ∧ Hi τ σ ∧ (∀ (r' : Int32) (T : XM), s_reset S u (nI z) r' T → r = r' ∧ ∀ u' w', T oMod 0 = nI u' → T oMod 1 = nI w' → u' ≤ 5 → w' ≤ 6 → RR τ T u' w') ∧ h' = xH D b τ)) args s 0 0 (fun q => b ≤ q)) n (xH D b τ) 31 [some (.ref (b + 0)), some (.int (nI z)), some (.int (nI u)), some (.int (nI j))] [] := by
        intro d
        induction d with
        | zero => intro j τ h; exact absurd h (Nat.not_lt_zero _)
        | succ d ih31 =>
          intro j τ hd31 hj hA hF0
          refine xi_iload_n hC dX7_reset_31 (pc' := 32) rfl rfl rfl ?_
          refine xi_iconst (v := nI 5) hC dX7_reset_32 (pc' := 33) rfl (by decide +kernel) ?_
          refine xn_icmpge (tgt := 51) hC dX7_reset_33 (pc' := 36) rfl (by decide) (by omega) (by omega) (fun zc33 => ?_) (fun zc33 => ?_)
          · skip
            obtain rfl : j = 5 := by omega
            have hG : ∀ o, (o < 5 ∨ 105 ≤ o) → τ o = (sw (sw σ 0 3 (nI z)) 0 4 (nI 1)) o := fun o ho => hF0 o (by omega)
            refine xi_aload_n hC dX7_reset_51 (pc' := 52) rfl rfl rfl ?_
            refine xg7_views hC dX7_reset_52 (pc' := 55) rfl xw_f_X7_17 kd_0 ?_
            refine xi_iconst (v := nI 0) hC dX7_reset_55 (pc' := 56) rfl (by decide +kernel) ?_
            refine xa_views hC dX7_reset_56 (pc' := 57) rfl kd_oVws rfl (by omega) ?_
            refine xi_callV (As := []) (rest := []) (c_X6_clear l D b n (σ := τ) (kd_oVw (by omega))) hC dX7_reset_57 (pc' := 60) rfl xw_m_X7_40 xw_c_X6_clear xw_ins_X6_clear xw_sel_X6_clear xw_ini_X6 xd_X6_clear (xH_at.trans (xsh_6 (kd_oVw (by omega)))) rfl ⟨Nat.le_of_ble_eq_true rfl, Nat.le_of_ble_eq_true rfl⟩ rfl (Nat.le_of_ble_eq_true rfl) ⟨Nat.le_of_ble_eq_true rfl, Nat.le_of_ble_eq_true rfl⟩ ?_
            rintro _ _ ⟨rfl, τ_1, hA_2, hr_3, hn_4, hF_5, rfl⟩
            show xV _ _ _ _ _ _ _ _ _ _ _ _ _ _ _ _ _ (xH D b τ_1) _ _ []
            refine xi_iload_n hC dX7_reset_60 (pc' := 61) rfl rfl rfl ?_
            refine xi_ireturn hC dX7_reset_61 hr rfl ?_
            refine ⟨_, _, rfl, fun o ho => by rw [hF_5 o (Or.inr (by simp only [oNum, oKno, oSig, oPro, oFst, oSnd, oBox, oLet, oLts, oMem, oVw, oEnt, oBef, oBk, oVs, oVec, oCon] at * <;> omega)), hG o (by simp only [oNum, oKno, oSig, oPro, oFst, oSnd, oBox, oLet, oLts, oMem, oVw, oEnt, oBef, oBk, oVs, oVec, oCon] at * <;> omega), sw_n (by simp only [oNum, oKno, oSig, oPro, oFst, oSnd, oBox, oLet, oLts, oMem, oVw, oEnt, oBef, oBk, oVs, oVec, oCon] at * <;> omega), sw_n (by simp only [oNum, oKno, oSig, oPro, oFst, oSnd, oBox, oLet, oLts, oMem, oVw, oEnt, oBef, oBk, oVs, oVec, oCon] at * <;> omega)], fun r' T hs => ?_, rfl⟩
            obtain ⟨q1, p0, p1, -, p3, p4, p5, p6, p7, p8⟩ := hs.2 z hz2 hz5 rfl
            refine ⟨q1.symm, fun u' w' e1 e2 hu' hw' => ?_⟩
            rw [p0] at e1
            obtain rfl := nI_inj (by omega) (by omega) e1
            rw [p1] at e2
            obtain rfl := nI_inj (by omega) (by omega) e2
            have hb : ∀ o, o < 105 → τ_1 o = τ o := fun o ho => hF_5 o (Or.inl (by simp only [oNum, oKno, oSig, oPro, oFst, oSnd, oBox, oLet, oLts, oMem, oVw, oEnt, oBef, oBk, oVs, oVec, oCon] at * <;> omega))
            refine ⟨?_, ?_, fun i hi => ?_, fun y hy => ?_, ?_⟩
            · rw [hb 0 (by decide), hG 0 (by decide), sw_k (by decide), sw_s]
            · rw [hb 0 (by decide), hG 0 (by decide), sw_s]
            · obtain ⟨c1, c2, c3, c4, c5, c6, c7, c8, c9⟩ := hA i (by omega)
              obtain ⟨d1, d2, d3, d4, d5, d6, d7, d8, d9, d10⟩ := p7 i hi
              refine ⟨⟨?_, ?_, ?_, ?_, ?_, ?_, fun q => absurd (d8.trans nI_0) q⟩, fun p hp => ?_, fun p hp => ?_, ⟨?_, fun q => absurd (d3.trans nI_0) q⟩, ?_, fun y' _ ey q hq => ?_⟩
              · rw [hb _ (by first | (simp only [oNum, oKno, oSig, oPro, oFst, oSnd, oBox, oLet, oLts, oMem, oVw, oEnt, oBef, oBk, oVs, oVec, oCon] <;> omega) | omega | decide), d1]; exact c4
              · rw [hb _ (by first | (simp only [oNum, oKno, oSig, oPro, oFst, oSnd, oBox, oLet, oLts, oMem, oVw, oEnt, oBef, oBk, oVs, oVec, oCon] <;> omega) | omega | decide), d2]; exact c5
              · rw [hb _ (by first | (simp only [oNum, oKno, oSig, oPro, oFst, oSnd, oBox, oLet, oLts, oMem, oVw, oEnt, oBef, oBk, oVs, oVec, oCon] <;> omega) | omega | decide), d5]; exact c7
              · rw [hb _ (by first | (simp only [oNum, oKno, oSig, oPro, oFst, oSnd, oBox, oLet, oLts, oMem, oVw, oEnt, oBef, oBk, oVs, oVec, oCon] <;> omega) | omega | decide), d6]; exact c8
              · rw [hb _ (by first | (simp only [oNum, oKno, oSig, oPro, oFst, oSnd, oBox, oLet, oLts, oMem, oVw, oEnt, oBef, oBk, oVs, oVec, oCon] <;> omega) | omega | decide), d7]; exact c9
              · rw [hb _ (by first | (simp only [oNum, oKno, oSig, oPro, oFst, oSnd, oBox, oLet, oLts, oMem, oVw, oEnt, oBef, oBk, oVs, oVec, oCon] <;> omega) | omega | decide), d8]; exact c6
              · rw [hb _ (by first | (simp only [oNum, oKno, oSig, oPro, oFst, oSnd, oBox, oLet, oLts, oMem, oVw, oEnt, oBef, oBk, oVs, oVec, oCon] <;> omega) | omega | decide), (p6 _ (by omega)).2, nI_0]; exact (c1 p hp).2
              · rw [hb _ (by first | (simp only [oNum, oKno, oSig, oPro, oFst, oSnd, oBox, oLet, oLts, oMem, oVw, oEnt, oBef, oBk, oVs, oVec, oCon] <;> omega) | omega | decide), (p6 _ (by omega)).1, nI_0]; exact (c1 p hp).1
              · rw [hb _ (by first | (simp only [oNum, oKno, oSig, oPro, oFst, oSnd, oBox, oLet, oLts, oMem, oVw, oEnt, oBef, oBk, oVs, oVec, oCon] <;> omega) | omega | decide), d3]; exact c2
              · rw [hb _ (by first | (simp only [oNum, oKno, oSig, oPro, oFst, oSnd, oBox, oLet, oLts, oMem, oVw, oEnt, oBef, oBk, oVs, oVec, oCon] <;> omega) | omega | decide), d10]; exact c3
              · rw [d10] at ey
                obtain rfl := nI_inj (by omega) (by omega) ey
                exact absurd hq (Nat.not_lt_zero _)
            · obtain rfl : y = 0 := by omega
              refine ⟨fun i hi => ⟨fun p hp => ?_, ?_⟩, ?_, 0, by decide, hn_4, fun k hk e q hq => ?_⟩
              · rw [(hA_2 i hi).1 p hp, p4 _ (by omega), nI_0]
              · rw [(hA_2 i hi).2, p4 _ (by omega), nI_0]
              · rw [hr_3, p5 0 (by decide)]
              · rw [p5 0 (by decide)] at e
                obtain rfl := nI_inj (by omega) (by omega) e
                exact absurd hq (Nat.not_lt_zero _)
            · exact hTt.of (by rw [hb _ (by decide), hG _ (by decide), sw_n (by decide), sw_n (by decide)]) (by rw [hb _ (by decide), hG _ (by decide), sw_n (by decide), sw_n (by decide)]) (p3 23 (by decide) (by decide) (by decide)) p8
          · skip
            refine xi_aload_n hC dX7_reset_36 (pc' := 37) rfl rfl rfl ?_
            refine xg7_members hC dX7_reset_37 (pc' := 40) rfl xw_f_X7_11 kd_0 ?_
            refine xi_iload_n hC dX7_reset_40 (pc' := 41) rfl rfl rfl ?_
            refine xa_members hC dX7_reset_41 (pc' := 42) rfl kd_oMs rfl (by omega) ?_
            refine xi_callV (As := []) (rest := []) (c_X2_clear l D b n (σ := τ) (kd_oMem (by omega))) hC dX7_reset_42 (pc' := 45) rfl xw_m_X7_37 xw_c_X2_clear xw_ins_X2_clear xw_sel_X2_clear xw_ini_X2 xd_X2_clear (xH_at.trans (xsh_2 (kd_oMem (by omega)))) rfl ⟨Nat.le_of_ble_eq_true rfl, Nat.le_of_ble_eq_true rfl⟩ rfl (Nat.le_of_ble_eq_true rfl) ⟨Nat.le_of_ble_eq_true rfl, Nat.le_of_ble_eq_true rfl⟩ ?_
            rintro _ _ ⟨rfl, τ_6, hC_7, hF_8, rfl⟩
            show xV _ _ _ _ _ _ _ _ _ _ _ _ _ _ _ _ _ (xH D b τ_6) _ _ []
            refine xn_iinc (lv' := [some (.ref (b + 0)), some (.int (nI z)), some (.int (nI u)), some (.int (nI (j + 1)))]) hC dX7_reset_45 (pc' := 48) rfl rfl (by decide) rfl ?_
            refine xi_goto (tgt := 31) hC dX7_reset_48 (by decide) ?_
            refine ih31 _ _ (by omega) ?_ ?_ ?_
            · omega
            · intro i hi
              rcases Nat.lt_or_ge i j with z' | z'
              · have g : ∀ o, oMem i ≤ o → o < oMem i + 20 → τ_6 o = τ o := fun o o1 o2 => hF_8 o (Or.inl (by simp only [oNum, oKno, oSig, oPro, oFst, oSnd, oBox, oLet, oLts, oMem, oVw, oEnt, oBef, oBk, oVs, oVec, oCon] at * <;> omega))
                have h := hA i z'
                rw [g (oPro (oMem i)) (by first | (simp only [oNum, oKno, oSig, oPro, oFst, oSnd, oBox, oLet, oLts, oMem, oVw, oEnt, oBef, oBk, oVs, oVec, oCon] <;> omega) | omega | decide) (by first | (simp only [oNum, oKno, oSig, oPro, oFst, oSnd, oBox, oLet, oLts, oMem, oVw, oEnt, oBef, oBk, oVs, oVec, oCon] <;> omega) | omega | decide), g (oBox (oMem i)) (by first | (simp only [oNum, oKno, oSig, oPro, oFst, oSnd, oBox, oLet, oLts, oMem, oVw, oEnt, oBef, oBk, oVs, oVec, oCon] <;> omega) | omega | decide) (by first | (simp only [oNum, oKno, oSig, oPro, oFst, oSnd, oBox, oLet, oLts, oMem, oVw, oEnt, oBef, oBk, oVs, oVec, oCon] <;> omega) | omega | decide), g (oMem i) (by first | (simp only [oNum, oKno, oSig, oPro, oFst, oSnd, oBox, oLet, oLts, oMem, oVw, oEnt, oBef, oBk, oVs, oVec, oCon] <;> omega) | omega | decide) (by first | (simp only [oNum, oKno, oSig, oPro, oFst, oSnd, oBox, oLet, oLts, oMem, oVw, oEnt, oBef, oBk, oVs, oVec, oCon] <;> omega) | omega | decide), g (oNum (oSig (oMem i))) (by first | (simp only [oNum, oKno, oSig, oPro, oFst, oSnd, oBox, oLet, oLts, oMem, oVw, oEnt, oBef, oBk, oVs, oVec, oCon] <;> omega) | omega | decide) (by first | (simp only [oNum, oKno, oSig, oPro, oFst, oSnd, oBox, oLet, oLts, oMem, oVw, oEnt, oBef, oBk, oVs, oVec, oCon] <;> omega) | omega | decide), g (oNum (oKno (oMem i))) (by first | (simp only [oNum, oKno, oSig, oPro, oFst, oSnd, oBox, oLet, oLts, oMem, oVw, oEnt, oBef, oBk, oVs, oVec, oCon] <;> omega) | omega | decide) (by first | (simp only [oNum, oKno, oSig, oPro, oFst, oSnd, oBox, oLet, oLts, oMem, oVw, oEnt, oBef, oBk, oVs, oVec, oCon] <;> omega) | omega | decide)]
                exact h
              · obtain rfl : i = j := by omega
                exact hC_7
            · intro o ho
              rw [hF_8 o (by simp only [oNum, oKno, oSig, oPro, oFst, oSnd, oBox, oLet, oLts, oMem, oVw, oEnt, oBef, oBk, oVs, oVec, oCon] at * <;> omega)]
              exact hF0 o ho
      refine L31 _ _ _ (Nat.lt_succ_self _) ?_ ?_ ?_
      · omega
      · intro i q; exact absurd q (Nat.not_lt_zero _)
      · intro o _; rfl
    · skip
      refine xi_sipush (v := -10002) hC dX7_reset_10 (pc' := 13) rfl (by decide +kernel) ?_
      refine xi_ireturn hC dX7_reset_13 hr rfl ?_
      refine ⟨_, σ, rfl, Hi.rf, fun r' T hs => ?_, rfl⟩
      obtain ⟨q1, q2⟩ := hs.1 (fun q => by first | exact i_not_lt.mpr q.1 zc2 | exact zc7 q.2)
      subst q2
      exact ⟨q1.symm, fun u' w' e1 e2 _ _ => by rw [show u' = u from nI_inj (by omega) (by omega) (e1.symm.trans hu), show w' = w from nI_inj (by omega) (by omega) (e2.symm.trans hn1)]; exact hR⟩
