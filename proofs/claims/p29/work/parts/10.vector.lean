/-! ===== VersionVector ===== -/
set_option maxRecDepth 100000 in
set_option maxHeartbeats 4000000 in
theorem c_X5_clear (l : Launch) (D : XD) (b n : Nat) {σ : XM} {o1 : Nat} (h1 : kd o1 = 5) : xM l yX5_clear cX5_clear 2 none 0 0 0 0 D b n [.ref (b + o1)] (xH D b σ) n (fun v h' => v = none ∧ ∃ g : Nat → Int32, (∀ k, k < 5 → g k = 0) ∧ h' = xH D b (su σ (oNum o1) g)) := by
  refine xM.of (lv := [some (.ref (b + o1)), none]) (by decide +kernel) rfl (List.forall_mem_cons.mpr ⟨rfl, fun _ h => absurd h List.not_mem_nil⟩) (Nat.le_of_ble_eq_true rfl) rfl ?_
  intro p e s m args below meth c hC hr hnm
  refine xi_iconst (v := nI 0) hC dX5_clear_0 (pc' := 1) rfl (by decide +kernel) ?_
  refine xi_istore_n (lv' := [some (.ref (b + o1)), some (.int (nI 0))]) hC dX5_clear_1 (pc' := 2) rfl rfl (by decide) rfl ?_
  refine xstate (su_self (o := (oNum o1))) ?_
  have L2 : ∀ (d : Nat) (j : Nat) (g : Nat → Int32), 5 - j < d → (j ≤ 5) → (∀ k, k < j → g k = 0) → xV p l e (xR 0 0 0 0) s m args below meth c D b 2 0 0 (MQ below (xQ D b n (fun v h' => v = none ∧ ∃ g : Nat → Int32, (∀ k, k < 5 → g k = 0) ∧ h' = xH D b (su σ (oNum o1) g))) args s 0 0 (fun q => b ≤ q)) n (xH D b (su σ (oNum o1) g)) 2 [some (.ref (b + o1)), some (.int (nI j))] [] := by
    intro d
    induction d with
    | zero => intro j g h; exact absurd h (Nat.not_lt_zero _)
    | succ d ih2 =>
      intro j g hd2 hj hg
      refine xi_iload_n hC dX5_clear_2 (pc' := 3) rfl rfl rfl ?_
      refine xi_iconst (v := nI 5) hC dX5_clear_3 (pc' := 4) rfl (by decide +kernel) ?_
      refine xn_icmpge (tgt := 20) hC dX5_clear_4 (pc' := 7) rfl (by decide) (by omega) (by omega) (fun zc4 => ?_) (fun zc4 => ?_)
      · skip
        refine xi_return hC dX5_clear_20 hr rfl ?_
        exact ⟨rfl, g, fun k hk => hg k (by omega), rfl⟩
      · skip
        refine xi_aload_n hC dX5_clear_7 (pc' := 8) rfl rfl rfl ?_
        refine xg5_numbers hC dX5_clear_8 (pc' := 11) rfl xw_f_X5_9 h1 ?_
        refine xi_iload_n hC dX5_clear_11 (pc' := 12) rfl rfl rfl ?_
        refine xi_iconst (v := nI 0) hC dX5_clear_12 (pc' := 13) rfl (by decide +kernel) ?_
        refine xs_i hC dX5_clear_13 (pc' := 14) rfl (N := 5) (kd_oNum h1) (by decide) rfl (by omega) ?_
        refine xstate sw_su ?_
        refine xn_iinc (lv' := [some (.ref (b + o1)), some (.int (nI (j + 1)))]) hC dX5_clear_14 (pc' := 17) rfl rfl (by decide) rfl ?_
        refine xi_goto (tgt := 2) hC dX5_clear_17 (by decide) ?_
        refine ih2 _ _ (by omega) ?_ ?_
        · omega
        · exact upd_all (P := fun _ x => x = 0) hg (by decide)
  refine L2 _ _ _ (Nat.lt_succ_self _) ?_ ?_
  · omega
  · intro k hk; omega
set_option maxRecDepth 100000 in
set_option maxHeartbeats 4000000 in
theorem c_X5_copyFrom (l : Launch) (D : XD) (b n : Nat) {σ : XM} {o1 o2 : Nat} (h1 : kd o1 = 5) (h2 : kd o2 = 5) (hne : o2 ≠ o1) : xM l yX5_copyFrom cX5_copyFrom 3 none 0 0 0 0 D b n [.ref (b + o1), .ref (b + o2)] (xH D b σ) n (fun v h' => v = none ∧ ∃ g : Nat → Int32, (∀ k, k < 5 → g k = σ (oNum o2) k) ∧ h' = xH D b (su σ (oNum o1) g)) := by
  refine xM.of (lv := [some (.ref (b + o1)), some (.ref (b + o2)), none]) (by decide +kernel) rfl (List.forall_mem_cons.mpr ⟨rfl, List.forall_mem_cons.mpr ⟨rfl, fun _ h => absurd h List.not_mem_nil⟩⟩) (Nat.le_of_ble_eq_true rfl) rfl ?_
  intro p e s m args below meth c hC hr hnm
  refine xi_iconst (v := nI 0) hC dX5_copyFrom_0 (pc' := 1) rfl (by decide +kernel) ?_
  refine xi_istore_n (lv' := [some (.ref (b + o1)), some (.ref (b + o2)), some (.int (nI 0))]) hC dX5_copyFrom_1 (pc' := 2) rfl rfl (by decide) rfl ?_
  refine xstate (su_self (o := (oNum o1))) ?_
  have L2 : ∀ (d : Nat) (j : Nat) (g : Nat → Int32), 5 - j < d → (j ≤ 5) → (∀ k, k < j → g k = σ (oNum o2) k) → xV p l e (xR 0 0 0 0) s m args below meth c D b 3 0 0 (MQ below (xQ D b n (fun v h' => v = none ∧ ∃ g : Nat → Int32, (∀ k, k < 5 → g k = σ (oNum o2) k) ∧ h' = xH D b (su σ (oNum o1) g))) args s 0 0 (fun q => b ≤ q)) n (xH D b (su σ (oNum o1) g)) 2 [some (.ref (b + o1)), some (.ref (b + o2)), some (.int (nI j))] [] := by
    intro d
    induction d with
    | zero => intro j g h; exact absurd h (Nat.not_lt_zero _)
    | succ d ih2 =>
      intro j g hd2 hj hg
      refine xi_iload_n hC dX5_copyFrom_2 (pc' := 3) rfl rfl rfl ?_
      refine xi_iconst (v := nI 5) hC dX5_copyFrom_3 (pc' := 4) rfl (by decide +kernel) ?_
      refine xn_icmpge (tgt := 25) hC dX5_copyFrom_4 (pc' := 7) rfl (by decide) (by omega) (by omega) (fun zc4 => ?_) (fun zc4 => ?_)
      · skip
        refine xi_return hC dX5_copyFrom_25 hr rfl ?_
        exact ⟨rfl, g, fun k hk => hg k (by omega), rfl⟩
      · skip
        refine xi_aload_n hC dX5_copyFrom_7 (pc' := 8) rfl rfl rfl ?_
        refine xg5_numbers hC dX5_copyFrom_8 (pc' := 11) rfl xw_f_X5_9 h1 ?_
        refine xi_iload_n hC dX5_copyFrom_11 (pc' := 12) rfl rfl rfl ?_
        refine xi_aload_n hC dX5_copyFrom_12 (pc' := 13) rfl rfl rfl ?_
        refine xg5_numbers hC dX5_copyFrom_13 (pc' := 16) rfl xw_f_X5_9 h2 ?_
        refine xi_iload_n hC dX5_copyFrom_16 (pc' := 17) rfl rfl rfl ?_
        refine xl_i hC dX5_copyFrom_17 (pc' := 18) rfl (N := 5) (kd_oNum h2) (by decide) rfl (by omega) ?_
        refine xtop (y := (σ (oNum o2) j)) (by rw [su_n (q := (oNum o2)) (o := (oNum o1)) (by first | (simp only [oMs, oVws, oScr, oSgn, oMod, oMem, oSig, oKno, oPro, oBox, oFst, oSnd, oLts, oLet, oNum, oVw, oEnt, oBef, oBk, oVs, oCon, oVec, m_row, m_keptOf, m_keptRow, m_viewOf, m_alarmOf, m_hasProof, m_depthOf, m_proofOf, m_signedOf, m_knownOf, m_doneOf, m_shownTo, m_sentBy, m_hasRead, m_readOf, m_lettersOf, m_letter, m_hand, m_text] <;> omega) | decide | omega | (simp only [oMs, oVws, oScr, oSgn, oMod, oMem, oSig, oKno, oPro, oBox, oFst, oSnd, oLts, oLet, oNum, oVw, oEnt, oBef, oBk, oVs, oCon, oVec, m_row, m_keptOf, m_keptRow, m_viewOf, m_alarmOf, m_hasProof, m_depthOf, m_proofOf, m_signedOf, m_knownOf, m_doneOf, m_shownTo, m_sentBy, m_hasRead, m_readOf, m_lettersOf, m_letter, m_hand, m_text] at * <;> omega))]) ?_
        refine xs_i hC dX5_copyFrom_18 (pc' := 19) rfl (N := 5) (kd_oNum h1) (by decide) rfl (by omega) ?_
        refine xstate sw_su ?_
        refine xn_iinc (lv' := [some (.ref (b + o1)), some (.ref (b + o2)), some (.int (nI (j + 1)))]) hC dX5_copyFrom_19 (pc' := 22) rfl rfl (by decide) rfl ?_
        refine xi_goto (tgt := 2) hC dX5_copyFrom_22 (by decide) ?_
        refine ih2 _ _ (by omega) ?_ ?_
        · omega
        · exact upd_all (P := fun k x => x = σ (oNum o2) k) hg rfl
  refine L2 _ _ _ (Nat.lt_succ_self _) ?_ ?_
  · omega
  · intro k hk; omega
set_option maxRecDepth 100000 in
set_option maxHeartbeats 4000000 in
theorem c_X5_isAtMost (l : Launch) (D : XD) (b n : Nat) {σ : XM} {o1 o2 : Nat} (h1 : kd o1 = 5) (h2 : kd o2 = 5) : xM l yX5_isAtMost cX5_isAtMost 3 (some .boolean) 0 0 0 0 D b n [.ref (b + o1), .ref (b + o2)] (xH D b σ) n (fun v h' => v = some (.int (bI (vle 5 (σ (oNum o1)) (σ (oNum o2))))) ∧ h' = xH D b σ) := by
  refine xM.of (lv := [some (.ref (b + o1)), some (.ref (b + o2)), none]) (by decide +kernel) rfl (List.forall_mem_cons.mpr ⟨rfl, List.forall_mem_cons.mpr ⟨rfl, fun _ h => absurd h List.not_mem_nil⟩⟩) (Nat.le_of_ble_eq_true rfl) rfl ?_
  intro p e s m args below meth c hC hr hnm
  refine xi_iconst (v := nI 0) hC dX5_isAtMost_0 (pc' := 1) rfl (by decide +kernel) ?_
  refine xi_istore_n (lv' := [some (.ref (b + o1)), some (.ref (b + o2)), some (.int (nI 0))]) hC dX5_isAtMost_1 (pc' := 2) rfl rfl (by decide) rfl ?_
  have L2 : ∀ (d : Nat) (j : Nat), 5 - j < d → (j ≤ 5) → (vle j (σ (oNum o1)) (σ (oNum o2))) → xV p l e (xR 0 0 0 0) s m args below meth c D b 3 0 0 (MQ below (xQ D b n (fun v h' => v = some (.int (bI (vle 5 (σ (oNum o1)) (σ (oNum o2))))) ∧ h' = xH D b σ)) args s 0 0 (fun q => b ≤ q)) n (xH D b σ) 2 [some (.ref (b + o1)), some (.ref (b + o2)), some (.int (nI j))] [] := by
    intro d
    induction d with
    | zero => intro j h; exact absurd h (Nat.not_lt_zero _)
    | succ d ih2 =>
      intro j hd2 hj hg
      refine xi_iload_n hC dX5_isAtMost_2 (pc' := 3) rfl rfl rfl ?_
      refine xi_iconst (v := nI 5) hC dX5_isAtMost_3 (pc' := 4) rfl (by decide +kernel) ?_
      refine xn_icmpge (tgt := 30) hC dX5_isAtMost_4 (pc' := 7) rfl (by decide) (by omega) (by omega) (fun zc4 => ?_) (fun zc4 => ?_)
      · skip
        refine xi_iconst (v := nI 1) hC dX5_isAtMost_30 (pc' := 31) rfl (by decide +kernel) ?_
        refine xb_ireturn hC dX5_isAtMost_31 hr (by decide) rfl ?_
        exact ⟨by rw [bI_t (show vle 5 _ _ from fun k hk => hg k (by omega))], rfl⟩
      · skip
        refine xi_aload_n hC dX5_isAtMost_7 (pc' := 8) rfl rfl rfl ?_
        refine xg5_numbers hC dX5_isAtMost_8 (pc' := 11) rfl xw_f_X5_9 h1 ?_
        refine xi_iload_n hC dX5_isAtMost_11 (pc' := 12) rfl rfl rfl ?_
        refine xl_i hC dX5_isAtMost_12 (pc' := 13) rfl (N := 5) (kd_oNum h1) (by decide) rfl (by omega) ?_
        refine xi_aload_n hC dX5_isAtMost_13 (pc' := 14) rfl rfl rfl ?_
        refine xg5_numbers hC dX5_isAtMost_14 (pc' := 17) rfl xw_f_X5_9 h2 ?_
        refine xi_iload_n hC dX5_isAtMost_17 (pc' := 18) rfl rfl rfl ?_
        refine xl_i hC dX5_isAtMost_18 (pc' := 19) rfl (N := 5) (kd_oNum h2) (by decide) rfl (by omega) ?_
        refine xi_icmple (tgt := 24) hC dX5_isAtMost_19 (pc' := 22) rfl (by decide) (fun zc19 => ?_) (fun zc19 => ?_)
        · skip
          refine xn_iinc (lv' := [some (.ref (b + o1)), some (.ref (b + o2)), some (.int (nI (j + 1)))]) hC dX5_isAtMost_24 (pc' := 27) rfl rfl (by decide) rfl ?_
          refine xi_goto (tgt := 2) hC dX5_isAtMost_27 (by decide) ?_
          refine ih2 _ (by omega) ?_ ?_
          · omega
          · exact vle_s.mpr ⟨hg, zc19⟩
        · skip
          refine xi_iconst (v := nI 0) hC dX5_isAtMost_22 (pc' := 23) rfl (by decide +kernel) ?_
          refine xb_ireturn hC dX5_isAtMost_23 hr (by decide) rfl ?_
          exact ⟨by rw [bI_f (show ¬ vle 5 _ _ from fun z => absurd (z j (by omega)) zc19)], rfl⟩
  refine L2 _ _ (Nat.lt_succ_self _) ?_ ?_
  · omega
  · intro k hk; omega
set_option maxRecDepth 100000 in
set_option maxHeartbeats 4000000 in
theorem c_X5_relationTo (l : Launch) (D : XD) (b n : Nat) {σ : XM} {o1 o2 : Nat} (h1 : kd o1 = 5) (h2 : kd o2 = 5) : xM l yX5_relationTo cX5_relationTo 5 (some .int) 0 0 0 0 D b n [.ref (b + o1), .ref (b + o2)] (xH D b σ) n (fun v h' => v = some (.int (rel 5 (σ (oNum o1)) (σ (oNum o2)))) ∧ h' = xH D b σ) := by
  refine xM.of (lv := [some (.ref (b + o1)), some (.ref (b + o2)), none, none, none]) (by decide +kernel) rfl (List.forall_mem_cons.mpr ⟨rfl, List.forall_mem_cons.mpr ⟨rfl, fun _ h => absurd h List.not_mem_nil⟩⟩) (Nat.le_of_ble_eq_true rfl) rfl ?_
  intro p e s m args below meth c hC hr hnm
  refine xi_iconst (v := nI 0) hC dX5_relationTo_0 (pc' := 1) rfl (by decide +kernel) ?_
  refine xi_istore_n (lv' := [some (.ref (b + o1)), some (.ref (b + o2)), some (.int (nI 0)), none, none]) hC dX5_relationTo_1 (pc' := 2) rfl rfl (by decide) rfl ?_
  refine xi_iconst (v := nI 0) hC dX5_relationTo_2 (pc' := 3) rfl (by decide +kernel) ?_
  refine xi_istore_n (lv' := [some (.ref (b + o1)), some (.ref (b + o2)), some (.int (nI 0)), some (.int (nI 0)), none]) hC dX5_relationTo_3 (pc' := 4) rfl rfl (by decide) rfl ?_
  refine xi_iconst (v := nI 0) hC dX5_relationTo_4 (pc' := 5) rfl (by decide +kernel) ?_
  refine xi_istore (lv' := [some (.ref (b + o1)), some (.ref (b + o2)), some (.int (nI 0)), some (.int (nI 0)), some (.int (nI 0))]) hC dX5_relationTo_5 (pc' := 7) rfl (by decide) rfl ?_
  have L7 : ∀ (d : Nat) (j : Nat) (x2 : Int32) (x3 : Int32), 5 - j < d → (j ≤ 5) → (x2 = bI (∃ k, k < j ∧ (σ (oNum o1)) k < (σ (oNum o2)) k)) → (x3 = bI (∃ k, k < j ∧ (σ (oNum o2)) k < (σ (oNum o1)) k)) → xV p l e (xR 0 0 0 0) s m args below meth c D b 5 0 0 (MQ below (xQ D b n (fun v h' => v = some (.int (rel 5 (σ (oNum o1)) (σ (oNum o2)))) ∧ h' = xH D b σ)) args s 0 0 (fun q => b ≤ q)) n (xH D b σ) 7 [some (.ref (b + o1)), some (.ref (b + o2)), some (.int x2), some (.int x3), some (.int (nI j))] [] := by
    intro d
    induction d with
    | zero => intro j x2 x3 h; exact absurd h (Nat.not_lt_zero _)
    | succ d ih7 =>
      intro j x2 x3 hd7 hj e2 e3
      refine xi_iload hC dX5_relationTo_7 (pc' := 9) rfl rfl ?_
      refine xi_iconst (v := nI 5) hC dX5_relationTo_9 (pc' := 10) rfl (by decide +kernel) ?_
      refine xn_icmpge (tgt := 57) hC dX5_relationTo_10 (pc' := 13) rfl (by decide) (by omega) (by omega) (fun zc10 => ?_) (fun zc10 => ?_)
      · skip
        obtain rfl : j = 5 := by omega
        have k2 : x2 = 0 ↔ vle 5 (σ (oNum o2)) (σ (oNum o1)) := by rw [e2, bI_eq0]; exact ⟨fun z k hk => i_not_lt.mp (fun q => z ⟨k, hk, q⟩), fun z ⟨k, hk, q⟩ => absurd (z k hk) (i_not_le.mpr q)⟩
        have k3 : x3 = 0 ↔ vle 5 (σ (oNum o1)) (σ (oNum o2)) := by rw [e3, bI_eq0]; exact ⟨fun z k hk => i_not_lt.mp (fun q => z ⟨k, hk, q⟩), fun z ⟨k, hk, q⟩ => absurd (z k hk) (i_not_le.mpr q)⟩
        refine xi_iload_n hC dX5_relationTo_57 (pc' := 58) rfl rfl rfl ?_
        refine xi_ifeq (tgt := 71) hC dX5_relationTo_58 (pc' := 61) rfl (by decide) (fun zc58 => ?_) (fun zc58 => ?_)
        · skip
          refine xi_iload_n hC dX5_relationTo_71 (pc' := 72) rfl rfl rfl ?_
          refine xi_ifeq (tgt := 79) hC dX5_relationTo_72 (pc' := 75) rfl (by decide) (fun zc72 => ?_) (fun zc72 => ?_)
          · skip
            refine xi_iconst (v := nI 0) hC dX5_relationTo_79 (pc' := 80) rfl (by decide +kernel) ?_
            refine xi_ireturn hC dX5_relationTo_80 hr rfl ?_
            first | exact ⟨by rw [rel_11 (fun z => zc62 (k3.mpr z)) (fun z => zc58 (k2.mpr z))]; rfl, rfl⟩ | exact ⟨by rw [rel_01 (k3.mp zc62) (fun z => zc58 (k2.mpr z))], rfl⟩ | exact ⟨by rw [rel_10 (fun z => zc72 (k3.mpr z)) (k2.mp zc58)]; rfl, rfl⟩ | exact ⟨by rw [rel_00 (k3.mp zc72) (k2.mp zc58)]; rfl, rfl⟩
          · skip
            refine xi_iconst (v := nI 1) hC dX5_relationTo_75 (pc' := 76) rfl (by decide +kernel) ?_
            refine xi_goto (tgt := 80) hC dX5_relationTo_76 (by decide) ?_
            refine xi_ireturn hC dX5_relationTo_80 hr rfl ?_
            first | exact ⟨by rw [rel_11 (fun z => zc62 (k3.mpr z)) (fun z => zc58 (k2.mpr z))]; rfl, rfl⟩ | exact ⟨by rw [rel_01 (k3.mp zc62) (fun z => zc58 (k2.mpr z))], rfl⟩ | exact ⟨by rw [rel_10 (fun z => zc72 (k3.mpr z)) (k2.mp zc58)]; rfl, rfl⟩ | exact ⟨by rw [rel_00 (k3.mp zc72) (k2.mp zc58)]; rfl, rfl⟩
        · skip
          refine xi_iload_n hC dX5_relationTo_61 (pc' := 62) rfl rfl rfl ?_
          refine xi_ifeq (tgt := 69) hC dX5_relationTo_62 (pc' := 65) rfl (by decide) (fun zc62 => ?_) (fun zc62 => ?_)
          · skip
            refine xi_iconst (v := -1) hC dX5_relationTo_69 (pc' := 70) rfl (by decide +kernel) ?_
            refine xi_ireturn hC dX5_relationTo_70 hr rfl ?_
            first | exact ⟨by rw [rel_11 (fun z => zc62 (k3.mpr z)) (fun z => zc58 (k2.mpr z))]; rfl, rfl⟩ | exact ⟨by rw [rel_01 (k3.mp zc62) (fun z => zc58 (k2.mpr z))], rfl⟩ | exact ⟨by rw [rel_10 (fun z => zc72 (k3.mpr z)) (k2.mp zc58)]; rfl, rfl⟩ | exact ⟨by rw [rel_00 (k3.mp zc72) (k2.mp zc58)]; rfl, rfl⟩
          · skip
            refine xi_iconst (v := nI 2) hC dX5_relationTo_65 (pc' := 66) rfl (by decide +kernel) ?_
            refine xi_goto (tgt := 70) hC dX5_relationTo_66 (by decide) ?_
            refine xi_ireturn hC dX5_relationTo_70 hr rfl ?_
            first | exact ⟨by rw [rel_11 (fun z => zc62 (k3.mpr z)) (fun z => zc58 (k2.mpr z))]; rfl, rfl⟩ | exact ⟨by rw [rel_01 (k3.mp zc62) (fun z => zc58 (k2.mpr z))], rfl⟩ | exact ⟨by rw [rel_10 (fun z => zc72 (k3.mpr z)) (k2.mp zc58)]; rfl, rfl⟩ | exact ⟨by rw [rel_00 (k3.mp zc72) (k2.mp zc58)]; rfl, rfl⟩
      · skip
        refine xi_aload_n hC dX5_relationTo_13 (pc' := 14) rfl rfl rfl ?_
        refine xg5_numbers hC dX5_relationTo_14 (pc' := 17) rfl xw_f_X5_9 h1 ?_
        refine xi_iload hC dX5_relationTo_17 (pc' := 19) rfl rfl ?_
        refine xl_i hC dX5_relationTo_19 (pc' := 20) rfl (N := 5) (kd_oNum h1) (by decide) rfl (by omega) ?_
        refine xi_aload_n hC dX5_relationTo_20 (pc' := 21) rfl rfl rfl ?_
        refine xg5_numbers hC dX5_relationTo_21 (pc' := 24) rfl xw_f_X5_9 h2 ?_
        refine xi_iload hC dX5_relationTo_24 (pc' := 26) rfl rfl ?_
        refine xl_i hC dX5_relationTo_26 (pc' := 27) rfl (N := 5) (kd_oNum h2) (by decide) rfl (by omega) ?_
        refine xi_icmpge (tgt := 32) hC dX5_relationTo_27 (pc' := 30) rfl (by decide) (fun zc27 => ?_) (fun zc27 => ?_)
        · skip
          refine xi_aload_n hC dX5_relationTo_32 (pc' := 33) rfl rfl rfl ?_
          refine xg5_numbers hC dX5_relationTo_33 (pc' := 36) rfl xw_f_X5_9 h1 ?_
          refine xi_iload hC dX5_relationTo_36 (pc' := 38) rfl rfl ?_
          refine xl_i hC dX5_relationTo_38 (pc' := 39) rfl (N := 5) (kd_oNum h1) (by decide) rfl (by omega) ?_
          refine xi_aload_n hC dX5_relationTo_39 (pc' := 40) rfl rfl rfl ?_
          refine xg5_numbers hC dX5_relationTo_40 (pc' := 43) rfl xw_f_X5_9 h2 ?_
          refine xi_iload hC dX5_relationTo_43 (pc' := 45) rfl rfl ?_
          refine xl_i hC dX5_relationTo_45 (pc' := 46) rfl (N := 5) (kd_oNum h2) (by decide) rfl (by omega) ?_
          refine xi_icmple (tgt := 51) hC dX5_relationTo_46 (pc' := 49) rfl (by decide) (fun zc46 => ?_) (fun zc46 => ?_)
          · skip
            refine xn_iinc (lv' := [some (.ref (b + o1)), some (.ref (b + o2)), some (.int x2), some (.int x3), some (.int (nI (j + 1)))]) hC dX5_relationTo_51 (pc' := 54) rfl rfl (by decide) rfl ?_
            refine xi_goto (tgt := 7) hC dX5_relationTo_54 (by decide) ?_
            refine ih7 _ _ _ (by omega) ?_ ?_ ?_
            · omega
            · first | exact e2.trans (bI_ex0 (i_not_lt.mpr zc27)) | exact bI_ex1 (P := fun k => (σ (oNum o1)) k < (σ (oNum o2)) k) (i_not_le.mp zc27)
            · first | exact e3.trans (bI_ex0 (i_not_lt.mpr zc46)) | exact bI_ex1 (P := fun k => (σ (oNum o2)) k < (σ (oNum o1)) k) (i_not_le.mp zc46)
          · skip
            refine xi_iconst (v := nI 1) hC dX5_relationTo_49 (pc' := 50) rfl (by decide +kernel) ?_
            refine xi_istore_n (lv' := [some (.ref (b + o1)), some (.ref (b + o2)), some (.int x2), some (.int (nI 1)), some (.int (nI j))]) hC dX5_relationTo_50 (pc' := 51) rfl rfl (by decide) rfl ?_
            refine xn_iinc (lv' := [some (.ref (b + o1)), some (.ref (b + o2)), some (.int x2), some (.int (nI 1)), some (.int (nI (j + 1)))]) hC dX5_relationTo_51 (pc' := 54) rfl rfl (by decide) rfl ?_
            refine xi_goto (tgt := 7) hC dX5_relationTo_54 (by decide) ?_
            refine ih7 _ _ _ (by omega) ?_ ?_ ?_
            · omega
            · first | exact e2.trans (bI_ex0 (i_not_lt.mpr zc27)) | exact bI_ex1 (P := fun k => (σ (oNum o1)) k < (σ (oNum o2)) k) (i_not_le.mp zc27)
            · first | exact e3.trans (bI_ex0 (i_not_lt.mpr zc46)) | exact bI_ex1 (P := fun k => (σ (oNum o2)) k < (σ (oNum o1)) k) (i_not_le.mp zc46)
        · skip
          refine xi_iconst (v := nI 1) hC dX5_relationTo_30 (pc' := 31) rfl (by decide +kernel) ?_
          refine xi_istore_n (lv' := [some (.ref (b + o1)), some (.ref (b + o2)), some (.int (nI 1)), some (.int x3), some (.int (nI j))]) hC dX5_relationTo_31 (pc' := 32) rfl rfl (by decide) rfl ?_
          refine xi_aload_n hC dX5_relationTo_32 (pc' := 33) rfl rfl rfl ?_
          refine xg5_numbers hC dX5_relationTo_33 (pc' := 36) rfl xw_f_X5_9 h1 ?_
          refine xi_iload hC dX5_relationTo_36 (pc' := 38) rfl rfl ?_
          refine xl_i hC dX5_relationTo_38 (pc' := 39) rfl (N := 5) (kd_oNum h1) (by decide) rfl (by omega) ?_
          refine xi_aload_n hC dX5_relationTo_39 (pc' := 40) rfl rfl rfl ?_
          refine xg5_numbers hC dX5_relationTo_40 (pc' := 43) rfl xw_f_X5_9 h2 ?_
          refine xi_iload hC dX5_relationTo_43 (pc' := 45) rfl rfl ?_
          refine xl_i hC dX5_relationTo_45 (pc' := 46) rfl (N := 5) (kd_oNum h2) (by decide) rfl (by omega) ?_
          refine xi_icmple (tgt := 51) hC dX5_relationTo_46 (pc' := 49) rfl (by decide) (fun zc46 => ?_) (fun zc46 => ?_)
          · skip
            refine xn_iinc (lv' := [some (.ref (b + o1)), some (.ref (b + o2)), some (.int (nI 1)), some (.int x3), some (.int (nI (j + 1)))]) hC dX5_relationTo_51 (pc' := 54) rfl rfl (by decide) rfl ?_
            refine xi_goto (tgt := 7) hC dX5_relationTo_54 (by decide) ?_
            refine ih7 _ _ _ (by omega) ?_ ?_ ?_
            · omega
            · first | exact e2.trans (bI_ex0 (i_not_lt.mpr zc27)) | exact bI_ex1 (P := fun k => (σ (oNum o1)) k < (σ (oNum o2)) k) (i_not_le.mp zc27)
            · first | exact e3.trans (bI_ex0 (i_not_lt.mpr zc46)) | exact bI_ex1 (P := fun k => (σ (oNum o2)) k < (σ (oNum o1)) k) (i_not_le.mp zc46)
          · skip
            refine xi_iconst (v := nI 1) hC dX5_relationTo_49 (pc' := 50) rfl (by decide +kernel) ?_
            refine xi_istore_n (lv' := [some (.ref (b + o1)), some (.ref (b + o2)), some (.int (nI 1)), some (.int (nI 1)), some (.int (nI j))]) hC dX5_relationTo_50 (pc' := 51) rfl rfl (by decide) rfl ?_
            refine xn_iinc (lv' := [some (.ref (b + o1)), some (.ref (b + o2)), some (.int (nI 1)), some (.int (nI 1)), some (.int (nI (j + 1)))]) hC dX5_relationTo_51 (pc' := 54) rfl rfl (by decide) rfl ?_
            refine xi_goto (tgt := 7) hC dX5_relationTo_54 (by decide) ?_
            refine ih7 _ _ _ (by omega) ?_ ?_ ?_
            · omega
            · first | exact e2.trans (bI_ex0 (i_not_lt.mpr zc27)) | exact bI_ex1 (P := fun k => (σ (oNum o1)) k < (σ (oNum o2)) k) (i_not_le.mp zc27)
            · first | exact e3.trans (bI_ex0 (i_not_lt.mpr zc46)) | exact bI_ex1 (P := fun k => (σ (oNum o2)) k < (σ (oNum o1)) k) (i_not_le.mp zc46)
  refine L7 _ _ _ _ (Nat.lt_succ_self _) ?_ ?_ ?_
  · omega
  · exact (bI_f (fun ⟨k, q, _⟩ => absurd q (Nat.not_lt_zero k))).symm
  · exact (bI_f (fun ⟨k, q, _⟩ => absurd q (Nat.not_lt_zero k))).symm
set_option maxRecDepth 100000 in
set_option maxHeartbeats 4000000 in
theorem c_X5_sum (l : Launch) (D : XD) (b n : Nat) {σ : XM} {o1 : Nat} (h1 : kd o1 = 5) : xM l yX5_sum cX5_sum 3 (some .int) 0 0 0 0 D b n [.ref (b + o1)] (xH D b σ) n (fun v h' => v = some (.int (xsum (σ (oNum o1)) 5)) ∧ h' = xH D b σ) := by
  refine xM.of (lv := [some (.ref (b + o1)), none, none]) (by decide +kernel) rfl (List.forall_mem_cons.mpr ⟨rfl, fun _ h => absurd h List.not_mem_nil⟩) (Nat.le_of_ble_eq_true rfl) rfl ?_
  intro p e s m args below meth c hC hr hnm
  refine xi_iconst (v := nI 0) hC dX5_sum_0 (pc' := 1) rfl (by decide +kernel) ?_
  refine xi_istore_n (lv' := [some (.ref (b + o1)), some (.int (nI 0)), none]) hC dX5_sum_1 (pc' := 2) rfl rfl (by decide) rfl ?_
  refine xi_iconst (v := nI 0) hC dX5_sum_2 (pc' := 3) rfl (by decide +kernel) ?_
  refine xi_istore_n (lv' := [some (.ref (b + o1)), some (.int (nI 0)), some (.int (nI 0))]) hC dX5_sum_3 (pc' := 4) rfl rfl (by decide) rfl ?_
  have L4 : ∀ (d : Nat) (j : Nat) (x : Int32), 5 - j < d → (j ≤ 5) → (x = xsum (σ (oNum o1)) j) → xV p l e (xR 0 0 0 0) s m args below meth c D b 3 0 0 (MQ below (xQ D b n (fun v h' => v = some (.int (xsum (σ (oNum o1)) 5)) ∧ h' = xH D b σ)) args s 0 0 (fun q => b ≤ q)) n (xH D b σ) 4 [some (.ref (b + o1)), some (.int x), some (.int (nI j))] [] := by
    intro d
    induction d with
    | zero => intro j x h; exact absurd h (Nat.not_lt_zero _)
    | succ d ih4 =>
      intro j x hd4 hj ex
      refine xi_iload_n hC dX5_sum_4 (pc' := 5) rfl rfl rfl ?_
      refine xi_iconst (v := nI 5) hC dX5_sum_5 (pc' := 6) rfl (by decide +kernel) ?_
      refine xn_icmpge (tgt := 24) hC dX5_sum_6 (pc' := 9) rfl (by decide) (by omega) (by omega) (fun zc6 => ?_) (fun zc6 => ?_)
      · skip
        refine xi_iload_n hC dX5_sum_24 (pc' := 25) rfl rfl rfl ?_
        refine xi_ireturn hC dX5_sum_25 hr rfl ?_
        obtain rfl : j = 5 := by omega
        exact ⟨by rw [ex], rfl⟩
      · skip
        refine xi_iload_n hC dX5_sum_9 (pc' := 10) rfl rfl rfl ?_
        refine xi_aload_n hC dX5_sum_10 (pc' := 11) rfl rfl rfl ?_
        refine xg5_numbers hC dX5_sum_11 (pc' := 14) rfl xw_f_X5_9 h1 ?_
        refine xi_iload_n hC dX5_sum_14 (pc' := 15) rfl rfl rfl ?_
        refine xl_i hC dX5_sum_15 (pc' := 16) rfl (N := 5) (kd_oNum h1) (by decide) rfl (by omega) ?_
        refine xi_iadd hC dX5_sum_16 (pc' := 17) rfl ?_
        refine xi_istore_n (lv' := [some (.ref (b + o1)), some (.int (x + (σ (oNum o1) j))), some (.int (nI j))]) hC dX5_sum_17 (pc' := 18) rfl rfl (by decide) rfl ?_
        refine xn_iinc (lv' := [some (.ref (b + o1)), some (.int (x + (σ (oNum o1) j))), some (.int (nI (j + 1)))]) hC dX5_sum_18 (pc' := 21) rfl rfl (by decide) rfl ?_
        refine xi_goto (tgt := 4) hC dX5_sum_21 (by decide) ?_
        refine ih4 _ _ (by omega) ?_ ?_
        · omega
        · rw [ex]; rfl
  refine L4 _ _ _ (Nat.lt_succ_self _) ?_ ?_
  · omega
  · rfl
