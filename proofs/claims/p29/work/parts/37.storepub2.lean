theorem xsum_5u {u : Nat} {f g : Nat → Int32} (hu : u ≤ 5) (h : ∀ p, p < 5 → f p = g p) (hz : ∀ p, u ≤ p → p < 5 → g p = nI 0) : xsum f 5 = xsum g u := by
  rw [xsum_congr (f := f) (g := g) h]
  have h0 : ∀ k, u ≤ k → k ≤ 5 → xsum g k = xsum g u := by
    intro k
    induction k with
    | zero => intro q _; rw [show u = 0 by omega]
    | succ k ih =>
      intro q q2
      rcases Nat.lt_or_ge k u with z | z
      · rw [show u = k + 1 by omega]
      · show xsum g k + g k = _
        rw [ih z (by omega), hz k z (by omega), nI_0, Int32.add_zero]
  exact h0 5 hu (Nat.le_refl _)
noncomputable def lcnt (P : Nat → Nat → Prop) (u : Nat) : Nat → Nat
  | 0 => 0
  | i + 1 => lcnt P u i + xcnt (fun t => P i (i + 1 + t)) (u - 1 - i)
theorem lcnt_eq {P : Nat → Nat → Prop} (h : ∀ i j, P i j ↔ P j i) {u : Nat} (hu : u ≤ 5) : lcnt P u u = pcnt P u := by
  have key : ∀ i j, @ite Nat (P i j) (Classical.propDecidable _) 1 0 = @ite Nat (P j i) (Classical.propDecidable _) 1 0 := fun i j => by
    by_cases q : P i j
    · rw [if_pos q, if_pos ((h i j).mp q)]
    · rw [if_neg q, if_neg (fun z => q ((h i j).mpr z))]
  have k10 := key 1 0
  have k20 := key 2 0
  have k21 := key 2 1
  have k30 := key 3 0
  have k31 := key 3 1
  have k32 := key 3 2
  have k40 := key 4 0
  have k41 := key 4 1
  have k42 := key 4 2
  have k43 := key 4 3
  rcases (show u = 0 ∨ u = 1 ∨ u = 2 ∨ u = 3 ∨ u = 4 ∨ u = 5 by omega) with rfl | rfl | rfl | rfl | rfl | rfl <;> simp [lcnt, pcnt, xcnt] <;> omega
theorem fkQ_symm {S : XM} {u : Nat} (i j : Nat) : fkQ S u i j ↔ fkQ S u j i := by
  unfold fkQ
  rw [rel_2, rel_2]
  exact ⟨fun h => ⟨h.2, h.1⟩, fun h => ⟨h.2, h.1⟩⟩
set_option maxRecDepth 100000 in
set_option maxHeartbeats 4000000 in
theorem c_X7_usersWithAlarm (l : Launch) (D : XD) (b n : Nat) {σ S : XM} {N u w : Nat} (hS : SI N S u w) (hR : RR σ S u w)  : xM l yX7_usersWithAlarm cX7_usersWithAlarm 3 (some .int) 1 20 0 0 D b n [.ref (b + 0)] (xH D b σ) n (fun y' h' => y' = some (.int (nI (xcnt (fun i => 0 < S m_alarmOf i) u))) ∧ h' = xH D b σ) := by
  refine xM.of (lv := [some (.ref (b + 0)), none, none]) (by decide +kernel) rfl (List.forall_mem_cons.mpr ⟨rfl, fun _ h => absurd h List.not_mem_nil⟩) (Nat.le_of_ble_eq_true rfl) rfl ?_
  intro p e s m args below meth c hC hr hnm
  obtain ⟨hU, hn, hVw, hKp, hLt, hTx, hAl⟩ := id hS.1
  obtain ⟨hu, hu2, hu5⟩ := id hU
  obtain ⟨hn1, hw1, hw6⟩ := id hn
  obtain ⟨r3, r4, hMm, hVv, hTt⟩ := id hR
  refine xi_iconst (v := nI 0) hC dX7_usersWithAlarm_0 (pc' := 1) rfl (by decide +kernel) ?_
  refine xi_istore_n (lv' := [some (.ref (b + 0)), some (.int (nI 0)), none]) hC dX7_usersWithAlarm_1 (pc' := 2) rfl rfl (by decide) rfl ?_
  refine xi_iconst (v := nI 0) hC dX7_usersWithAlarm_2 (pc' := 3) rfl (by decide +kernel) ?_
  refine xi_istore_n (lv' := [some (.ref (b + 0)), some (.int (nI 0)), some (.int (nI 0))]) hC dX7_usersWithAlarm_3 (pc' := 4) rfl rfl (by decide) rfl ?_
  have L4 : ∀ (d : Nat) (j : Nat) (cn : Nat), u - j < d → (j ≤ u) → (cn = xcnt (fun i => 0 < S m_alarmOf i) j) → xV p l e (xR 1 20 0 0) s m args below meth c D b 3 0 0 (MQ below (xQ D b n (fun y' h' => y' = some (.int (nI (xcnt (fun i => 0 < S m_alarmOf i) u))) ∧ h' = xH D b σ)) args s 0 0 (fun q => b ≤ q)) n (xH D b σ) 4 [some (.ref (b + 0)), some (.int (nI cn)), some (.int (nI j))] [] := by
    intro d
    induction d with
    | zero => intro j cn h; exact absurd h (Nat.not_lt_zero _)
    | succ d ih4 =>
      intro j cn hd4 hj ea
      refine xi_iload_n hC dX7_usersWithAlarm_4 (pc' := 5) rfl rfl rfl ?_
      refine xi_aload_n hC dX7_usersWithAlarm_5 (pc' := 6) rfl rfl rfl ?_
      refine xg7_users hC dX7_usersWithAlarm_6 (pc' := 9) rfl xw_f_X7_28 kd_0 ?_
      refine xtop (y := (nI u)) (r3) ?_
      refine xn_icmpge (tgt := 41) hC dX7_usersWithAlarm_9 (pc' := 12) rfl (by decide) (by omega) (by omega) (fun zc9 => ?_) (fun zc9 => ?_)
      · skip
        refine xi_iload_n hC dX7_usersWithAlarm_41 (pc' := 42) rfl rfl rfl ?_
        refine xi_ireturn hC dX7_usersWithAlarm_42 hr rfl ?_
        exact ⟨by rw [ea, show j = u by omega], rfl⟩
      · skip
        obtain ⟨a, ha5, hae⟩ := hAl j (by omega)
        have e5 : σ (oMem j) 5 = nI a := ((hMm j (by omega)).1.2.1).trans hae
        refine xi_iload_n hC dX7_usersWithAlarm_12 (pc' := 13) rfl rfl rfl ?_
        refine xi_aload_n hC dX7_usersWithAlarm_13 (pc' := 14) rfl rfl rfl ?_
        refine xg7_members hC dX7_usersWithAlarm_14 (pc' := 17) rfl xw_f_X7_11 kd_0 ?_
        refine xi_iload_n hC dX7_usersWithAlarm_17 (pc' := 18) rfl rfl rfl ?_
        refine xa_members hC dX7_usersWithAlarm_18 (pc' := 19) rfl kd_oMs rfl (by omega) ?_
        refine xg2_alarm hC dX7_usersWithAlarm_19 (pc' := 22) rfl xw_f_X7_45 (kd_oMem (by omega)) ?_
        refine xi_ifeq (tgt := 29) hC dX7_usersWithAlarm_22 (pc' := 25) rfl (by decide) (fun zc22 => ?_) (fun zc22 => ?_)
        · skip
          refine xi_iconst (v := nI 0) hC dX7_usersWithAlarm_29 (pc' := 30) rfl (by decide +kernel) ?_
          refine xi_callS (As := [.int (nI 0)]) (rest := [.int (nI cn)]) (c_X7_oneIf l D b n (σ := σ) (x := (nI 0))) hC dX7_usersWithAlarm_30 (pc' := 33) rfl xw_m_X7_166 xw_c_X7_oneIf xw_sta_X7_oneIf xw_ini_X7 xd_X7_oneIf ⟨Nat.le_of_ble_eq_true rfl, Nat.le_of_ble_eq_true rfl⟩ rfl (Nat.le_of_ble_eq_true rfl) ⟨Nat.le_of_ble_eq_true rfl, Nat.le_of_ble_eq_true rfl⟩ ?_
          rintro _ _ ⟨rfl, rfl⟩
          show xV _ _ _ _ _ _ _ _ _ _ _ _ _ _ _ _ _ (xH D b σ) _ _ [.int (bI ((nI 0) ≠ 0)), .int (nI cn)]
          refine xtop (y := (nI 0)) (by first | exact bI_t (by decide) | exact bI_f (by decide)) ?_
          refine xn_iadd hC dX7_usersWithAlarm_33 (pc' := 34) rfl ?_
          refine xi_istore_n (lv' := [some (.ref (b + 0)), some (.int (nI (cn + 0))), some (.int (nI j))]) hC dX7_usersWithAlarm_34 (pc' := 35) rfl rfl (by decide) rfl ?_
          refine xn_iinc (lv' := [some (.ref (b + 0)), some (.int (nI (cn + 0))), some (.int (nI (j + 1)))]) hC dX7_usersWithAlarm_35 (pc' := 38) rfl rfl (by decide) rfl ?_
          refine xi_goto (tgt := 4) hC dX7_usersWithAlarm_38 (by decide) ?_
          refine ih4 _ _ (by omega) ?_ ?_
          · omega
          · rw [e5] at zc22
            first
              | (rw [xcnt_t (P := fun i => 0 < S m_alarmOf i) ((alm_pos hae (by omega)).mpr (by rcases Nat.eq_zero_or_pos a with z | z; exact absurd (by rw [z]; exact nI_0) zc22; exact z)), ea])
              | (rw [xcnt_f (P := fun i => 0 < S m_alarmOf i) (fun q => absurd ((alm_pos hae (by omega)).mp q) (by have := (nI_eq0 (by omega)).mp zc22; omega)), ea, Nat.add_zero])
        · skip
          refine xi_iconst (v := nI 1) hC dX7_usersWithAlarm_25 (pc' := 26) rfl (by decide +kernel) ?_
          refine xi_goto (tgt := 30) hC dX7_usersWithAlarm_26 (by decide) ?_
          refine xi_callS (As := [.int (nI 1)]) (rest := [.int (nI cn)]) (c_X7_oneIf l D b n (σ := σ) (x := (nI 1))) hC dX7_usersWithAlarm_30 (pc' := 33) rfl xw_m_X7_166 xw_c_X7_oneIf xw_sta_X7_oneIf xw_ini_X7 xd_X7_oneIf ⟨Nat.le_of_ble_eq_true rfl, Nat.le_of_ble_eq_true rfl⟩ rfl (Nat.le_of_ble_eq_true rfl) ⟨Nat.le_of_ble_eq_true rfl, Nat.le_of_ble_eq_true rfl⟩ ?_
          rintro _ _ ⟨rfl, rfl⟩
          show xV _ _ _ _ _ _ _ _ _ _ _ _ _ _ _ _ _ (xH D b σ) _ _ [.int (bI ((nI 1) ≠ 0)), .int (nI cn)]
          refine xtop (y := (nI 1)) (by first | exact bI_t (by decide) | exact bI_f (by decide)) ?_
          refine xn_iadd hC dX7_usersWithAlarm_33 (pc' := 34) rfl ?_
          refine xi_istore_n (lv' := [some (.ref (b + 0)), some (.int (nI (cn + 1))), some (.int (nI j))]) hC dX7_usersWithAlarm_34 (pc' := 35) rfl rfl (by decide) rfl ?_
          refine xn_iinc (lv' := [some (.ref (b + 0)), some (.int (nI (cn + 1))), some (.int (nI (j + 1)))]) hC dX7_usersWithAlarm_35 (pc' := 38) rfl rfl (by decide) rfl ?_
          refine xi_goto (tgt := 4) hC dX7_usersWithAlarm_38 (by decide) ?_
          refine ih4 _ _ (by omega) ?_ ?_
          · omega
          · rw [e5] at zc22
            first
              | (rw [xcnt_t (P := fun i => 0 < S m_alarmOf i) ((alm_pos hae (by omega)).mpr (by rcases Nat.eq_zero_or_pos a with z | z; exact absurd (by rw [z]; exact nI_0) zc22; exact z)), ea])
              | (rw [xcnt_f (P := fun i => 0 < S m_alarmOf i) (fun q => absurd ((alm_pos hae (by omega)).mp q) (by have := (nI_eq0 (by omega)).mp zc22; omega)), ea, Nat.add_zero])
  refine L4 _ _ _ (Nat.lt_succ_self _) ?_ ?_
  · omega
  · rfl
set_option maxRecDepth 100000 in
set_option maxHeartbeats 4000000 in
theorem c_X7_usersWithProof (l : Launch) (D : XD) (b n : Nat) {σ S : XM} {N u w : Nat} (hS : SI N S u w) (hR : RR σ S u w)  : xM l yX7_usersWithProof cX7_usersWithProof 3 (some .int) 1 20 0 0 D b n [.ref (b + 0)] (xH D b σ) n (fun y' h' => y' = some (.int (nI (xcnt (fun i => S m_hasProof i ≠ 0) u))) ∧ h' = xH D b σ) := by
  refine xM.of (lv := [some (.ref (b + 0)), none, none]) (by decide +kernel) rfl (List.forall_mem_cons.mpr ⟨rfl, fun _ h => absurd h List.not_mem_nil⟩) (Nat.le_of_ble_eq_true rfl) rfl ?_
  intro p e s m args below meth c hC hr hnm
  obtain ⟨hU, hn, hVw, hKp, hLt, hTx, hAl⟩ := id hS.1
  obtain ⟨hu, hu2, hu5⟩ := id hU
  obtain ⟨hn1, hw1, hw6⟩ := id hn
  obtain ⟨r3, r4, hMm, hVv, hTt⟩ := id hR
  refine xi_iconst (v := nI 0) hC dX7_usersWithProof_0 (pc' := 1) rfl (by decide +kernel) ?_
  refine xi_istore_n (lv' := [some (.ref (b + 0)), some (.int (nI 0)), none]) hC dX7_usersWithProof_1 (pc' := 2) rfl rfl (by decide) rfl ?_
  refine xi_iconst (v := nI 0) hC dX7_usersWithProof_2 (pc' := 3) rfl (by decide +kernel) ?_
  refine xi_istore_n (lv' := [some (.ref (b + 0)), some (.int (nI 0)), some (.int (nI 0))]) hC dX7_usersWithProof_3 (pc' := 4) rfl rfl (by decide) rfl ?_
  have L4 : ∀ (d : Nat) (j : Nat) (cn : Nat), u - j < d → (j ≤ u) → (cn = xcnt (fun i => S m_hasProof i ≠ 0) j) → xV p l e (xR 1 20 0 0) s m args below meth c D b 3 0 0 (MQ below (xQ D b n (fun y' h' => y' = some (.int (nI (xcnt (fun i => S m_hasProof i ≠ 0) u))) ∧ h' = xH D b σ)) args s 0 0 (fun q => b ≤ q)) n (xH D b σ) 4 [some (.ref (b + 0)), some (.int (nI cn)), some (.int (nI j))] [] := by
    intro d
    induction d with
    | zero => intro j cn h; exact absurd h (Nat.not_lt_zero _)
    | succ d ih4 =>
      intro j cn hd4 hj ea
      refine xi_iload_n hC dX7_usersWithProof_4 (pc' := 5) rfl rfl rfl ?_
      refine xi_aload_n hC dX7_usersWithProof_5 (pc' := 6) rfl rfl rfl ?_
      refine xg7_users hC dX7_usersWithProof_6 (pc' := 9) rfl xw_f_X7_28 kd_0 ?_
      refine xtop (y := (nI u)) (r3) ?_
      refine xn_icmpge (tgt := 36) hC dX7_usersWithProof_9 (pc' := 12) rfl (by decide) (by omega) (by omega) (fun zc9 => ?_) (fun zc9 => ?_)
      · skip
        refine xi_iload_n hC dX7_usersWithProof_36 (pc' := 37) rfl rfl rfl ?_
        refine xi_ireturn hC dX7_usersWithProof_37 hr rfl ?_
        exact ⟨by rw [ea, show j = u by omega], rfl⟩
      · skip
        refine xi_iload_n hC dX7_usersWithProof_12 (pc' := 13) rfl rfl rfl ?_
        refine xi_aload_n hC dX7_usersWithProof_13 (pc' := 14) rfl rfl rfl ?_
        refine xg7_members hC dX7_usersWithProof_14 (pc' := 17) rfl xw_f_X7_11 kd_0 ?_
        refine xi_iload_n hC dX7_usersWithProof_17 (pc' := 18) rfl rfl rfl ?_
        refine xa_members hC dX7_usersWithProof_18 (pc' := 19) rfl kd_oMs rfl (by omega) ?_
        refine xg2_proof hC dX7_usersWithProof_19 (pc' := 22) rfl xw_f_X7_141 (kd_oMem (by omega)) ?_
        refine xg3_isHeld hC dX7_usersWithProof_22 (pc' := 25) rfl xw_f_X7_145 (kd_oPro (kd_oMem (by omega))) ?_
        refine xi_callS (As := [.int (σ (oPro (oMem j)) 2)]) (rest := [.int (nI cn)]) (c_X7_oneIf l D b n (σ := σ) (x := (σ (oPro (oMem j)) 2))) hC dX7_usersWithProof_25 (pc' := 28) rfl xw_m_X7_166 xw_c_X7_oneIf xw_sta_X7_oneIf xw_ini_X7 xd_X7_oneIf ⟨Nat.le_of_ble_eq_true rfl, Nat.le_of_ble_eq_true rfl⟩ rfl (Nat.le_of_ble_eq_true rfl) ⟨Nat.le_of_ble_eq_true rfl, Nat.le_of_ble_eq_true rfl⟩ ?_
        rintro _ _ ⟨rfl, rfl⟩
        show xV _ _ _ _ _ _ _ _ _ _ _ _ _ _ _ _ _ (xH D b σ) _ _ [.int (bI ((σ (oPro (oMem j)) 2) ≠ 0)), .int (nI cn)]
        rcases Classical.em ((σ (oPro (oMem j)) 2) ≠ 0) with hq | hq
        · skip
          refine xtop (y := nI 1) (bI_t hq) ?_
          refine xn_iadd hC dX7_usersWithProof_28 (pc' := 29) rfl ?_
          refine xi_istore_n (lv' := [some (.ref (b + 0)), some (.int (nI (cn + 1))), some (.int (nI j))]) hC dX7_usersWithProof_29 (pc' := 30) rfl rfl (by decide) rfl ?_
          refine xn_iinc (lv' := [some (.ref (b + 0)), some (.int (nI (cn + 1))), some (.int (nI (j + 1)))]) hC dX7_usersWithProof_30 (pc' := 33) rfl rfl (by decide) rfl ?_
          refine xi_goto (tgt := 4) hC dX7_usersWithProof_33 (by decide) ?_
          refine ih4 _ _ (by omega) ?_ ?_
          · omega
          · rw [(hMm j (by omega)).2.2.2.1.1] at hq
            first
              | (rw [xcnt_t (P := fun i => S m_hasProof i ≠ 0) hq, ea])
              | (rw [xcnt_f (P := fun i => S m_hasProof i ≠ 0) hq, ea, Nat.add_zero])
        · skip
          refine xtop (y := nI 0) (bI_f hq) ?_
          refine xn_iadd hC dX7_usersWithProof_28 (pc' := 29) rfl ?_
          refine xi_istore_n (lv' := [some (.ref (b + 0)), some (.int (nI (cn + 0))), some (.int (nI j))]) hC dX7_usersWithProof_29 (pc' := 30) rfl rfl (by decide) rfl ?_
          refine xn_iinc (lv' := [some (.ref (b + 0)), some (.int (nI (cn + 0))), some (.int (nI (j + 1)))]) hC dX7_usersWithProof_30 (pc' := 33) rfl rfl (by decide) rfl ?_
          refine xi_goto (tgt := 4) hC dX7_usersWithProof_33 (by decide) ?_
          refine ih4 _ _ (by omega) ?_ ?_
          · omega
          · rw [(hMm j (by omega)).2.2.2.1.1] at hq
            first
              | (rw [xcnt_t (P := fun i => S m_hasProof i ≠ 0) hq, ea])
              | (rw [xcnt_f (P := fun i => S m_hasProof i ≠ 0) hq, ea, Nat.add_zero])
  refine L4 _ _ _ (Nat.lt_succ_self _) ?_ ?_
  · omega
  · rfl
set_option maxRecDepth 100000 in
set_option maxHeartbeats 4000000 in
theorem c_X7_operationsOfAll (l : Launch) (D : XD) (b n : Nat) {σ S : XM} {N u w : Nat} (hS : SI N S u w) (hR : RR σ S u w)  : xM l yX7_operationsOfAll cX7_operationsOfAll 3 (some .int) 0 0 0 0 D b n [.ref (b + 0)] (xH D b σ) n (fun y' h' => y' = some (.int (xsum (S m_doneOf) u)) ∧ h' = xH D b σ) := by
  refine xM.of (lv := [some (.ref (b + 0)), none, none]) (by decide +kernel) rfl (List.forall_mem_cons.mpr ⟨rfl, fun _ h => absurd h List.not_mem_nil⟩) (Nat.le_of_ble_eq_true rfl) rfl ?_
  intro p e s m args below meth c hC hr hnm
  obtain ⟨hU, hn, hVw, hKp, hLt, hTx, hAl⟩ := id hS.1
  obtain ⟨hu, hu2, hu5⟩ := id hU
  obtain ⟨hn1, hw1, hw6⟩ := id hn
  obtain ⟨r3, r4, hMm, hVv, hTt⟩ := id hR
  refine xi_iconst (v := nI 0) hC dX7_operationsOfAll_0 (pc' := 1) rfl (by decide +kernel) ?_
  refine xi_istore_n (lv' := [some (.ref (b + 0)), some (.int (nI 0)), none]) hC dX7_operationsOfAll_1 (pc' := 2) rfl rfl (by decide) rfl ?_
  refine xi_iconst (v := nI 0) hC dX7_operationsOfAll_2 (pc' := 3) rfl (by decide +kernel) ?_
  refine xi_istore_n (lv' := [some (.ref (b + 0)), some (.int (nI 0)), some (.int (nI 0))]) hC dX7_operationsOfAll_3 (pc' := 4) rfl rfl (by decide) rfl ?_
  have L4 : ∀ (d : Nat) (j : Nat) (a : Int32), u - j < d → (j ≤ u) → (a = xsum (S m_doneOf) j) → xV p l e (xR 0 0 0 0) s m args below meth c D b 3 0 0 (MQ below (xQ D b n (fun y' h' => y' = some (.int (xsum (S m_doneOf) u)) ∧ h' = xH D b σ)) args s 0 0 (fun q => b ≤ q)) n (xH D b σ) 4 [some (.ref (b + 0)), some (.int a), some (.int (nI j))] [] := by
    intro d
    induction d with
    | zero => intro j a h; exact absurd h (Nat.not_lt_zero _)
    | succ d ih4 =>
      intro j a hd4 hj ea
      refine xi_iload_n hC dX7_operationsOfAll_4 (pc' := 5) rfl rfl rfl ?_
      refine xi_aload_n hC dX7_operationsOfAll_5 (pc' := 6) rfl rfl rfl ?_
      refine xg7_users hC dX7_operationsOfAll_6 (pc' := 9) rfl xw_f_X7_28 kd_0 ?_
      refine xtop (y := (nI u)) (r3) ?_
      refine xn_icmpge (tgt := 30) hC dX7_operationsOfAll_9 (pc' := 12) rfl (by decide) (by omega) (by omega) (fun zc9 => ?_) (fun zc9 => ?_)
      · skip
        refine xi_iload_n hC dX7_operationsOfAll_30 (pc' := 31) rfl rfl rfl ?_
        refine xi_ireturn hC dX7_operationsOfAll_31 hr rfl ?_
        exact ⟨by rw [ea, show j = u by omega], rfl⟩
      · skip
        refine xi_iload_n hC dX7_operationsOfAll_12 (pc' := 13) rfl rfl rfl ?_
        refine xi_aload_n hC dX7_operationsOfAll_13 (pc' := 14) rfl rfl rfl ?_
        refine xg7_members hC dX7_operationsOfAll_14 (pc' := 17) rfl xw_f_X7_11 kd_0 ?_
        refine xi_iload_n hC dX7_operationsOfAll_17 (pc' := 18) rfl rfl rfl ?_
        refine xa_members hC dX7_operationsOfAll_18 (pc' := 19) rfl kd_oMs rfl (by omega) ?_
        refine xg2_operations hC dX7_operationsOfAll_19 (pc' := 22) rfl xw_f_X7_183 (kd_oMem (by omega)) ?_
        refine xi_iadd hC dX7_operationsOfAll_22 (pc' := 23) rfl ?_
        refine xi_istore_n (lv' := [some (.ref (b + 0)), some (.int (a + (σ (oMem j) 8))), some (.int (nI j))]) hC dX7_operationsOfAll_23 (pc' := 24) rfl rfl (by decide) rfl ?_
        refine xn_iinc (lv' := [some (.ref (b + 0)), some (.int (a + (σ (oMem j) 8))), some (.int (nI (j + 1)))]) hC dX7_operationsOfAll_24 (pc' := 27) rfl rfl (by decide) rfl ?_
        refine xi_goto (tgt := 4) hC dX7_operationsOfAll_27 (by decide) ?_
        refine ih4 _ _ (by omega) ?_ ?_
        · omega
        · rw [ea, (hMm j (by omega)).1.2.2.1]; rfl
  refine L4 _ _ _ (Nat.lt_succ_self _) ?_ ?_
  · omega
  · exact nI_0
set_option maxRecDepth 100000 in
set_option maxHeartbeats 4000000 in
theorem c_X7_lettersInBoxes (l : Launch) (D : XD) (b n : Nat) {σ S : XM} {N u w : Nat} (hS : SI N S u w) (hR : RR σ S u w)  : xM l yX7_lettersInBoxes cX7_lettersInBoxes 3 (some .int) 0 0 0 0 D b n [.ref (b + 0)] (xH D b σ) n (fun y' h' => y' = some (.int (xsum (S m_lettersOf) u)) ∧ h' = xH D b σ) := by
  refine xM.of (lv := [some (.ref (b + 0)), none, none]) (by decide +kernel) rfl (List.forall_mem_cons.mpr ⟨rfl, fun _ h => absurd h List.not_mem_nil⟩) (Nat.le_of_ble_eq_true rfl) rfl ?_
  intro p e s m args below meth c hC hr hnm
  obtain ⟨hU, hn, hVw, hKp, hLt, hTx, hAl⟩ := id hS.1
  obtain ⟨hu, hu2, hu5⟩ := id hU
  obtain ⟨hn1, hw1, hw6⟩ := id hn
  obtain ⟨r3, r4, hMm, hVv, hTt⟩ := id hR
  refine xi_iconst (v := nI 0) hC dX7_lettersInBoxes_0 (pc' := 1) rfl (by decide +kernel) ?_
  refine xi_istore_n (lv' := [some (.ref (b + 0)), some (.int (nI 0)), none]) hC dX7_lettersInBoxes_1 (pc' := 2) rfl rfl (by decide) rfl ?_
  refine xi_iconst (v := nI 0) hC dX7_lettersInBoxes_2 (pc' := 3) rfl (by decide +kernel) ?_
  refine xi_istore_n (lv' := [some (.ref (b + 0)), some (.int (nI 0)), some (.int (nI 0))]) hC dX7_lettersInBoxes_3 (pc' := 4) rfl rfl (by decide) rfl ?_
  have L4 : ∀ (d : Nat) (j : Nat) (a : Int32), u - j < d → (j ≤ u) → (a = xsum (S m_lettersOf) j) → xV p l e (xR 0 0 0 0) s m args below meth c D b 3 0 0 (MQ below (xQ D b n (fun y' h' => y' = some (.int (xsum (S m_lettersOf) u)) ∧ h' = xH D b σ)) args s 0 0 (fun q => b ≤ q)) n (xH D b σ) 4 [some (.ref (b + 0)), some (.int a), some (.int (nI j))] [] := by
    intro d
    induction d with
    | zero => intro j a h; exact absurd h (Nat.not_lt_zero _)
    | succ d ih4 =>
      intro j a hd4 hj ea
      refine xi_iload_n hC dX7_lettersInBoxes_4 (pc' := 5) rfl rfl rfl ?_
      refine xi_aload_n hC dX7_lettersInBoxes_5 (pc' := 6) rfl rfl rfl ?_
      refine xg7_users hC dX7_lettersInBoxes_6 (pc' := 9) rfl xw_f_X7_28 kd_0 ?_
      refine xtop (y := (nI u)) (r3) ?_
      refine xn_icmpge (tgt := 33) hC dX7_lettersInBoxes_9 (pc' := 12) rfl (by decide) (by omega) (by omega) (fun zc9 => ?_) (fun zc9 => ?_)
      · skip
        refine xi_iload_n hC dX7_lettersInBoxes_33 (pc' := 34) rfl rfl rfl ?_
        refine xi_ireturn hC dX7_lettersInBoxes_34 hr rfl ?_
        exact ⟨by rw [ea, show j = u by omega], rfl⟩
      · skip
        refine xi_iload_n hC dX7_lettersInBoxes_12 (pc' := 13) rfl rfl rfl ?_
        refine xi_aload_n hC dX7_lettersInBoxes_13 (pc' := 14) rfl rfl rfl ?_
        refine xg7_members hC dX7_lettersInBoxes_14 (pc' := 17) rfl xw_f_X7_11 kd_0 ?_
        refine xi_iload_n hC dX7_lettersInBoxes_17 (pc' := 18) rfl rfl rfl ?_
        refine xa_members hC dX7_lettersInBoxes_18 (pc' := 19) rfl kd_oMs rfl (by omega) ?_
        refine xg2_box hC dX7_lettersInBoxes_19 (pc' := 22) rfl xw_f_X7_110 (kd_oMem (by omega)) ?_
        refine xg0_size hC dX7_lettersInBoxes_22 (pc' := 25) rfl xw_f_X7_114 (kd_oBox (kd_oMem (by omega))) ?_
        refine xi_iadd hC dX7_lettersInBoxes_25 (pc' := 26) rfl ?_
        refine xi_istore_n (lv' := [some (.ref (b + 0)), some (.int (a + (σ (oBox (oMem j)) 1))), some (.int (nI j))]) hC dX7_lettersInBoxes_26 (pc' := 27) rfl rfl (by decide) rfl ?_
        refine xn_iinc (lv' := [some (.ref (b + 0)), some (.int (a + (σ (oBox (oMem j)) 1))), some (.int (nI (j + 1)))]) hC dX7_lettersInBoxes_27 (pc' := 30) rfl rfl (by decide) rfl ?_
        refine xi_goto (tgt := 4) hC dX7_lettersInBoxes_30 (by decide) ?_
        refine ih4 _ _ (by omega) ?_ ?_
        · omega
        · rw [ea, (hMm j (by omega)).2.2.2.2.1]; rfl
  refine L4 _ _ _ (Nat.lt_succ_self _) ?_ ?_
  · omega
  · exact nI_0
set_option maxRecDepth 100000 in
set_option maxHeartbeats 4000000 in
theorem c_X7_count (l : Launch) (D : XD) (b n : Nat) {σ S : XM} {N u w : Nat} (hS : SI N S u w) (hR : RR σ S u w) (hN : N + 1 < 2 ^ 31) {x : Int32}  : xM l yX7_count cX7_count 2 (some .int) 2 42 0 0 D b n [.ref (b + 0), .int x] (xH D b σ) n (fun y' h' => ∃ r : Int32, y' = some (.int r) ∧ (∀ r' : Int32, s_count S u w x r' → r = r') ∧ h' = xH D b σ) := by
  refine xM.of (lv := [some (.ref (b + 0)), some (.int x)]) (by decide +kernel) rfl (List.forall_mem_cons.mpr ⟨rfl, List.forall_mem_cons.mpr ⟨rfl, fun _ h => absurd h List.not_mem_nil⟩⟩) (Nat.le_of_ble_eq_true rfl) rfl ?_
  intro p e s m args below meth c hC hr hnm
  obtain ⟨hU, hn, hVw, hKp, hLt, hTx, hAl⟩ := id hS.1
  obtain ⟨hu, hu2, hu5⟩ := id hU
  obtain ⟨hn1, hw1, hw6⟩ := id hn
  obtain ⟨r3, r4, hMm, hVv, hTt⟩ := id hR
  refine xi_iload_n hC dX7_count_0 (pc' := 1) rfl rfl rfl ?_
  by_cases zt1 : x.toInt < 0 ∨ 5 < x.toInt
  · refine xi_tableOut (tgt := 70) hC dX7_count_1 zt1 (by decide) ?_
    refine xi_sipush (v := -10002) hC dX7_count_70 (pc' := 73) rfl (by decide +kernel) ?_
    refine xi_ireturn hC dX7_count_73 hr rfl ?_
    exact ⟨_, rfl, fun r' hs => Eq.symm (hs.2.2.2.2.2.2 zt1), rfl⟩
  · rcases xtab_0_5 zt1 with zx1 | zx1 | zx1 | zx1 | zx1 | zx1
    · refine xi_tableIn (tgt := 40) (off := 39) hC dX7_count_1 (by rw [zx1]; decide) (by rw [zx1]; decide) (by rw [zx1]; rfl) (by decide) ?_
      refine xi_aload_n hC dX7_count_40 (pc' := 41) rfl rfl rfl ?_
      refine xg7_users hC dX7_count_41 (pc' := 44) rfl xw_f_X7_28 kd_0 ?_
      refine xtop (y := (nI u)) (r3) ?_
      refine xi_ireturn hC dX7_count_44 hr rfl ?_
      exact ⟨_, rfl, fun r' hs => Eq.symm (hs.1 zx1), rfl⟩
    · refine xi_tableIn (tgt := 45) (off := 44) hC dX7_count_1 (by rw [zx1]; decide) (by rw [zx1]; decide) (by rw [zx1]; rfl) (by decide) ?_
      refine xi_aload_n hC dX7_count_45 (pc' := 46) rfl rfl rfl ?_
      refine xg7_viewCount hC dX7_count_46 (pc' := 49) rfl xw_f_X7_32 kd_0 ?_
      refine xtop (y := (nI w)) (r4) ?_
      refine xi_ireturn hC dX7_count_49 hr rfl ?_
      exact ⟨_, rfl, fun r' hs => Eq.symm (hs.2.1 zx1), rfl⟩
    · refine xi_tableIn (tgt := 50) (off := 49) hC dX7_count_1 (by rw [zx1]; decide) (by rw [zx1]; decide) (by rw [zx1]; rfl) (by decide) ?_
      refine xi_aload_n hC dX7_count_50 (pc' := 51) rfl rfl rfl ?_
      refine xi_callV (As := []) (rest := []) (c_X7_usersWithAlarm l D b n (σ := σ) (S := S) (N := N) (u := u) (w := w) hS hR) hC dX7_count_51 (pc' := 54) rfl xw_m_X7_170 xw_c_X7_usersWithAlarm xw_ins_X7_usersWithAlarm xw_sel_X7_usersWithAlarm xw_ini_X7 xd_X7_usersWithAlarm (xH_at.trans (xsh_7 kd_0)) rfl ⟨Nat.le_of_ble_eq_true rfl, Nat.le_of_ble_eq_true rfl⟩ rfl (Nat.le_of_ble_eq_true rfl) ⟨Nat.le_of_ble_eq_true rfl, Nat.le_of_ble_eq_true rfl⟩ ?_
      rintro _ _ ⟨rfl, rfl⟩
      show xV _ _ _ _ _ _ _ _ _ _ _ _ _ _ _ _ _ (xH D b σ) _ _ [.int (nI (xcnt (fun i => 0 < S m_alarmOf i) u))]
      refine xi_ireturn hC dX7_count_54 hr rfl ?_
      exact ⟨_, rfl, fun r' hs => Eq.symm (hs.2.2.1 zx1), rfl⟩
    · refine xi_tableIn (tgt := 55) (off := 54) hC dX7_count_1 (by rw [zx1]; decide) (by rw [zx1]; decide) (by rw [zx1]; rfl) (by decide) ?_
      refine xi_aload_n hC dX7_count_55 (pc' := 56) rfl rfl rfl ?_
      refine xi_callV (As := []) (rest := []) (c_X7_usersWithProof l D b n (σ := σ) (S := S) (N := N) (u := u) (w := w) hS hR) hC dX7_count_56 (pc' := 59) rfl xw_m_X7_174 xw_c_X7_usersWithProof xw_ins_X7_usersWithProof xw_sel_X7_usersWithProof xw_ini_X7 xd_X7_usersWithProof (xH_at.trans (xsh_7 kd_0)) rfl ⟨Nat.le_of_ble_eq_true rfl, Nat.le_of_ble_eq_true rfl⟩ rfl (Nat.le_of_ble_eq_true rfl) ⟨Nat.le_of_ble_eq_true rfl, Nat.le_of_ble_eq_true rfl⟩ ?_
      rintro _ _ ⟨rfl, rfl⟩
      show xV _ _ _ _ _ _ _ _ _ _ _ _ _ _ _ _ _ (xH D b σ) _ _ [.int (nI (xcnt (fun i => S m_hasProof i ≠ 0) u))]
      refine xi_ireturn hC dX7_count_59 hr rfl ?_
      exact ⟨_, rfl, fun r' hs => Eq.symm (hs.2.2.2.1 zx1), rfl⟩
    · refine xi_tableIn (tgt := 60) (off := 59) hC dX7_count_1 (by rw [zx1]; decide) (by rw [zx1]; decide) (by rw [zx1]; rfl) (by decide) ?_
      refine xi_aload_n hC dX7_count_60 (pc' := 61) rfl rfl rfl ?_
      refine xi_callV (As := []) (rest := []) (c_X7_operationsOfAll l D b n (σ := σ) (S := S) (N := N) (u := u) (w := w) hS hR) hC dX7_count_61 (pc' := 64) rfl xw_m_X7_177 xw_c_X7_operationsOfAll xw_ins_X7_operationsOfAll xw_sel_X7_operationsOfAll xw_ini_X7 xd_X7_operationsOfAll (xH_at.trans (xsh_7 kd_0)) rfl ⟨Nat.le_of_ble_eq_true rfl, Nat.le_of_ble_eq_true rfl⟩ rfl (Nat.le_of_ble_eq_true rfl) ⟨Nat.le_of_ble_eq_true rfl, Nat.le_of_ble_eq_true rfl⟩ ?_
      rintro _ _ ⟨rfl, rfl⟩
      show xV _ _ _ _ _ _ _ _ _ _ _ _ _ _ _ _ _ (xH D b σ) _ _ [.int (xsum (S m_doneOf) u)]
      refine xi_ireturn hC dX7_count_64 hr rfl ?_
      exact ⟨_, rfl, fun r' hs => Eq.symm ((hs.2.2.2.2.1 zx1).trans hS.2.2.2.2.2), rfl⟩
    · refine xi_tableIn (tgt := 65) (off := 64) hC dX7_count_1 (by rw [zx1]; decide) (by rw [zx1]; decide) (by rw [zx1]; rfl) (by decide) ?_
      refine xi_aload_n hC dX7_count_65 (pc' := 66) rfl rfl rfl ?_
      refine xi_callV (As := []) (rest := []) (c_X7_lettersInBoxes l D b n (σ := σ) (S := S) (N := N) (u := u) (w := w) hS hR) hC dX7_count_66 (pc' := 69) rfl xw_m_X7_180 xw_c_X7_lettersInBoxes xw_ins_X7_lettersInBoxes xw_sel_X7_lettersInBoxes xw_ini_X7 xd_X7_lettersInBoxes (xH_at.trans (xsh_7 kd_0)) rfl ⟨Nat.le_of_ble_eq_true rfl, Nat.le_of_ble_eq_true rfl⟩ rfl (Nat.le_of_ble_eq_true rfl) ⟨Nat.le_of_ble_eq_true rfl, Nat.le_of_ble_eq_true rfl⟩ ?_
      rintro _ _ ⟨rfl, rfl⟩
      show xV _ _ _ _ _ _ _ _ _ _ _ _ _ _ _ _ _ (xH D b σ) _ _ [.int (xsum (S m_lettersOf) u)]
      refine xi_ireturn hC dX7_count_69 hr rfl ?_
      exact ⟨_, rfl, fun r' hs => Eq.symm (hs.2.2.2.2.2.1 zx1), rfl⟩
set_option maxRecDepth 100000 in
set_option maxHeartbeats 4000000 in
theorem c_X7_user (l : Launch) (D : XD) (b n : Nat) {σ S : XM} {N u w : Nat} (hS : SI N S u w) (hR : RR σ S u w) (hN : N + 1 < 2 ^ 31) {x y : Int32}  : xM l yX7_user cX7_user 4 (some .int) 1 21 0 0 D b n [.ref (b + 0), .int x, .int y] (xH D b σ) n (fun y' h' => ∃ r : Int32, y' = some (.int r) ∧ (∀ r' : Int32, s_user S u x y r' → r = r') ∧ h' = xH D b σ) := by
  refine xM.of (lv := [some (.ref (b + 0)), some (.int x), some (.int y), none]) (by decide +kernel) rfl (List.forall_mem_cons.mpr ⟨rfl, List.forall_mem_cons.mpr ⟨rfl, List.forall_mem_cons.mpr ⟨rfl, fun _ h => absurd h List.not_mem_nil⟩⟩⟩) (Nat.le_of_ble_eq_true rfl) rfl ?_
  intro p e s m args below meth c hC hr hnm
  obtain ⟨hU, hn, hVw, hKp, hLt, hTx, hAl⟩ := id hS.1
  obtain ⟨hu, hu2, hu5⟩ := id hU
  obtain ⟨hn1, hw1, hw6⟩ := id hn
  obtain ⟨r3, r4, hMm, hVv, hTt⟩ := id hR
  refine xi_aload_n hC dX7_user_0 (pc' := 1) rfl rfl rfl ?_
  refine xi_iload_n hC dX7_user_1 (pc' := 2) rfl rfl rfl ?_
  refine xi_callV (As := [.int x]) (rest := []) (c_X7_isUser l D b n (σ := σ) (u := u) (x := x) r3 (by omega)) hC dX7_user_2 (pc' := 5) rfl xw_m_X7_41 xw_c_X7_isUser xw_ins_X7_isUser xw_sel_X7_isUser xw_ini_X7 xd_X7_isUser (xH_at.trans (xsh_7 kd_0)) rfl ⟨Nat.le_of_ble_eq_true rfl, Nat.le_of_ble_eq_true rfl⟩ rfl (Nat.le_of_ble_eq_true rfl) ⟨Nat.le_of_ble_eq_true rfl, Nat.le_of_ble_eq_true rfl⟩ ?_
  rintro _ _ ⟨rfl, rfl⟩
  show xV _ _ _ _ _ _ _ _ _ _ _ _ _ _ _ _ _ (xH D b σ) _ _ [.int (bI (isU u x))]
  refine xb_ifne (tgt := 12) hC dX7_user_5 (pc' := 8) rfl (by decide) (fun zc5 => ?_) (fun zc5 => ?_)
  · skip
    obtain ⟨i, hi, rfl⟩ := zc5
    refine xi_aload_n hC dX7_user_12 (pc' := 13) rfl rfl rfl ?_
    refine xg7_members hC dX7_user_13 (pc' := 16) rfl xw_f_X7_11 kd_0 ?_
    refine xi_iload_n hC dX7_user_16 (pc' := 17) rfl rfl rfl ?_
    refine xa_members hC dX7_user_17 (pc' := 18) rfl kd_oMs rfl (by omega) ?_
    refine xi_astore_n (lv' := [some (.ref (b + 0)), some (.int (nI i)), some (.int y), some (.ref (b + (oMem i)))]) hC dX7_user_18 (pc' := 19) rfl rfl (by decide) rfl ?_
    refine xi_iload_n hC dX7_user_19 (pc' := 20) rfl rfl rfl ?_
    by_cases zt20 : y.toInt < 0 ∨ 7 < y.toInt
    · refine xi_tableOut (tgt := 136) hC dX7_user_20 zt20 (by decide) ?_
      refine xi_sipush (v := -10002) hC dX7_user_136 (pc' := 139) rfl (by decide +kernel) ?_
      refine xi_ireturn hC dX7_user_139 hr rfl ?_
      exact ⟨_, rfl, fun r' hs => Eq.symm ((hs.2 i hi rfl).2.2.2.2.2.2.2.2 zt20), rfl⟩
    · rcases xtab_0_7 zt20 with zx20 | zx20 | zx20 | zx20 | zx20 | zx20 | zx20 | zx20
      · refine xi_tableIn (tgt := 68) (off := 48) hC dX7_user_20 (by rw [zx20]; decide) (by rw [zx20]; decide) (by rw [zx20]; rfl) (by decide) ?_
        refine xi_aload_n hC dX7_user_68 (pc' := 69) rfl rfl rfl ?_
        refine xg2_view hC dX7_user_69 (pc' := 72) rfl xw_f_X7_90 (kd_oMem (by omega)) ?_
        refine xi_ireturn hC dX7_user_72 hr rfl ?_
        exact ⟨_, rfl, fun r' hs => Eq.symm (((hs.2 i hi rfl).1 zx20).trans (hMm i (by omega)).1.1.symm), rfl⟩
      · refine xi_tableIn (tgt := 73) (off := 53) hC dX7_user_20 (by rw [zx20]; decide) (by rw [zx20]; decide) (by rw [zx20]; rfl) (by decide) ?_
        refine xi_aload_n hC dX7_user_73 (pc' := 74) rfl rfl rfl ?_
        refine xg2_alarm hC dX7_user_74 (pc' := 77) rfl xw_f_X7_45 (kd_oMem (by omega)) ?_
        refine xi_ireturn hC dX7_user_77 hr rfl ?_
        exact ⟨_, rfl, fun r' hs => Eq.symm (((hs.2 i hi rfl).2.1 zx20).trans (hMm i (by omega)).1.2.1.symm), rfl⟩
      · refine xi_tableIn (tgt := 78) (off := 58) hC dX7_user_20 (by rw [zx20]; decide) (by rw [zx20]; decide) (by rw [zx20]; rfl) (by decide) ?_
        refine xi_aload_n hC dX7_user_78 (pc' := 79) rfl rfl rfl ?_
        refine xg2_proof hC dX7_user_79 (pc' := 82) rfl xw_f_X7_141 (kd_oMem (by omega)) ?_
        refine xg3_isHeld hC dX7_user_82 (pc' := 85) rfl xw_f_X7_145 (kd_oPro (kd_oMem (by omega))) ?_
        refine xi_callS (As := [.int (σ (oPro (oMem i)) 2)]) (rest := []) (c_X7_oneIf l D b n (σ := σ) (x := (σ (oPro (oMem i)) 2))) hC dX7_user_85 (pc' := 88) rfl xw_m_X7_166 xw_c_X7_oneIf xw_sta_X7_oneIf xw_ini_X7 xd_X7_oneIf ⟨Nat.le_of_ble_eq_true rfl, Nat.le_of_ble_eq_true rfl⟩ rfl (Nat.le_of_ble_eq_true rfl) ⟨Nat.le_of_ble_eq_true rfl, Nat.le_of_ble_eq_true rfl⟩ ?_
        rintro _ _ ⟨rfl, rfl⟩
        show xV _ _ _ _ _ _ _ _ _ _ _ _ _ _ _ _ _ (xH D b σ) _ _ [.int (bI ((σ (oPro (oMem i)) 2) ≠ 0))]
        refine xi_ireturn hC dX7_user_88 hr rfl ?_
        refine ⟨_, rfl, fun r' hs => ?_, rfl⟩
        have h2 := (hs.2 i hi rfl).2.2.1 zx20
        by_cases hq : S m_hasProof i = 0
        · exact (bI_f (fun z => z ((hMm i (by omega)).2.2.2.1.1.trans hq))).trans (h2.1 hq).symm
        · exact (bI_t (fun z => hq ((hMm i (by omega)).2.2.2.1.1.symm.trans z))).trans (h2.2 hq).symm
      · refine xi_tableIn (tgt := 89) (off := 69) hC dX7_user_20 (by rw [zx20]; decide) (by rw [zx20]; decide) (by rw [zx20]; rfl) (by decide) ?_
        refine xi_aload_n hC dX7_user_89 (pc' := 90) rfl rfl rfl ?_
        refine xg2_box hC dX7_user_90 (pc' := 93) rfl xw_f_X7_110 (kd_oMem (by omega)) ?_
        refine xg0_size hC dX7_user_93 (pc' := 96) rfl xw_f_X7_114 (kd_oBox (kd_oMem (by omega))) ?_
        refine xi_ireturn hC dX7_user_96 hr rfl ?_
        exact ⟨_, rfl, fun r' hs => Eq.symm (((hs.2 i hi rfl).2.2.2.1 zx20).trans (hMm i (by omega)).2.2.2.2.1.symm), rfl⟩
      · refine xi_tableIn (tgt := 97) (off := 77) hC dX7_user_20 (by rw [zx20]; decide) (by rw [zx20]; decide) (by rw [zx20]; rfl) (by decide) ?_
        refine xi_aload_n hC dX7_user_97 (pc' := 98) rfl rfl rfl ?_
        refine xg2_operations hC dX7_user_98 (pc' := 101) rfl xw_f_X7_183 (kd_oMem (by omega)) ?_
        refine xi_ireturn hC dX7_user_101 hr rfl ?_
        exact ⟨_, rfl, fun r' hs => Eq.symm (((hs.2 i hi rfl).2.2.2.2.1 zx20).trans (hMm i (by omega)).1.2.2.1.symm), rfl⟩
      · refine xi_tableIn (tgt := 102) (off := 82) hC dX7_user_20 (by rw [zx20]; decide) (by rw [zx20]; decide) (by rw [zx20]; rfl) (by decide) ?_
        refine xi_aload_n hC dX7_user_102 (pc' := 103) rfl rfl rfl ?_
        refine xg2_shown hC dX7_user_103 (pc' := 106) rfl xw_f_X7_186 (kd_oMem (by omega)) ?_
        refine xi_ireturn hC dX7_user_106 hr rfl ?_
        exact ⟨_, rfl, fun r' hs => Eq.symm (((hs.2 i hi rfl).2.2.2.2.2.1 zx20).trans (hMm i (by omega)).1.2.2.2.1.symm), rfl⟩
      · refine xi_tableIn (tgt := 107) (off := 87) hC dX7_user_20 (by rw [zx20]; decide) (by rw [zx20]; decide) (by rw [zx20]; rfl) (by decide) ?_
        refine xi_aload_n hC dX7_user_107 (pc' := 108) rfl rfl rfl ?_
        refine xg2_sent hC dX7_user_108 (pc' := 111) rfl xw_f_X7_127 (kd_oMem (by omega)) ?_
        refine xi_ireturn hC dX7_user_111 hr rfl ?_
        exact ⟨_, rfl, fun r' hs => Eq.symm (((hs.2 i hi rfl).2.2.2.2.2.2.1 zx20).trans (hMm i (by omega)).1.2.2.2.2.1.symm), rfl⟩
      · refine xi_tableIn (tgt := 112) (off := 92) hC dX7_user_20 (by rw [zx20]; decide) (by rw [zx20]; decide) (by rw [zx20]; rfl) (by decide) ?_
        refine xi_aload_n hC dX7_user_112 (pc' := 113) rfl rfl rfl ?_
        refine xg2_proof hC dX7_user_113 (pc' := 116) rfl xw_f_X7_141 (kd_oMem (by omega)) ?_
        refine xg3_isHeld hC dX7_user_116 (pc' := 119) rfl xw_f_X7_145 (kd_oPro (kd_oMem (by omega))) ?_
        refine xi_ifeq (tgt := 132) hC dX7_user_119 (pc' := 122) rfl (by decide) (fun zc119 => ?_) (fun zc119 => ?_)
        · skip
          refine xi_sipush (v := -10005) hC dX7_user_132 (pc' := 135) rfl (by decide +kernel) ?_
          refine xi_ireturn hC dX7_user_135 hr rfl ?_
          exact ⟨_, rfl, fun r' hs => Eq.symm (((hs.2 i hi rfl).2.2.2.2.2.2.2.1 zx20).1 ((hMm i (by omega)).2.2.2.1.1.symm.trans zc119)), rfl⟩
        · skip
          refine xi_aload_n hC dX7_user_122 (pc' := 123) rfl rfl rfl ?_
          refine xg2_proof hC dX7_user_123 (pc' := 126) rfl xw_f_X7_141 (kd_oMem (by omega)) ?_
          refine xg3_depth hC dX7_user_126 (pc' := 129) rfl xw_f_X7_156 (kd_oPro (kd_oMem (by omega))) ?_
          refine xi_goto (tgt := 135) hC dX7_user_129 (by decide) ?_
          refine xi_ireturn hC dX7_user_135 hr rfl ?_
          exact ⟨_, rfl, fun r' hs => Eq.symm ((((hs.2 i hi rfl).2.2.2.2.2.2.2.1 zx20).2 (fun q => zc119 ((hMm i (by omega)).2.2.2.1.1.trans q))).trans ((hMm i (by omega)).2.2.2.1.2 (fun q => zc119 ((hMm i (by omega)).2.2.2.1.1.trans q))).1.symm), rfl⟩
  · skip
    refine xi_sipush (v := -10001) hC dX7_user_8 (pc' := 11) rfl (by decide +kernel) ?_
    refine xi_ireturn hC dX7_user_11 hr rfl ?_
    exact ⟨_, rfl, fun r' hs => Eq.symm (hs.1 zc5), rfl⟩
set_option maxRecDepth 100000 in
set_option maxHeartbeats 4000000 in
theorem c_X7_vector (l : Launch) (D : XD) (b n : Nat) {σ S : XM} {N u w : Nat} (hS : SI N S u w) (hR : RR σ S u w) (hN : N + 1 < 2 ^ 31) {x y z : Int32}  : xM l yX7_vector cX7_vector 5 (some .int) 1 21 0 0 D b n [.ref (b + 0), .int x, .int y, .int z] (xH D b σ) n (fun y' h' => ∃ r : Int32, y' = some (.int r) ∧ (∀ r' : Int32, s_vector S u x y z r' → r = r') ∧ h' = xH D b σ) := by
  refine xM.of (lv := [some (.ref (b + 0)), some (.int x), some (.int y), some (.int z), none]) (by decide +kernel) rfl (List.forall_mem_cons.mpr ⟨rfl, List.forall_mem_cons.mpr ⟨rfl, List.forall_mem_cons.mpr ⟨rfl, List.forall_mem_cons.mpr ⟨rfl, fun _ h => absurd h List.not_mem_nil⟩⟩⟩⟩) (Nat.le_of_ble_eq_true rfl) rfl ?_
  intro p e s m args below meth c hC hr hnm
  obtain ⟨hU, hn, hVw, hKp, hLt, hTx, hAl⟩ := id hS.1
  obtain ⟨hu, hu2, hu5⟩ := id hU
  obtain ⟨hn1, hw1, hw6⟩ := id hn
  obtain ⟨r3, r4, hMm, hVv, hTt⟩ := id hR
  refine xi_aload_n hC dX7_vector_0 (pc' := 1) rfl rfl rfl ?_
  refine xi_iload_n hC dX7_vector_1 (pc' := 2) rfl rfl rfl ?_
  refine xi_callV (As := [.int x]) (rest := []) (c_X7_isUser l D b n (σ := σ) (u := u) (x := x) r3 (by omega)) hC dX7_vector_2 (pc' := 5) rfl xw_m_X7_41 xw_c_X7_isUser xw_ins_X7_isUser xw_sel_X7_isUser xw_ini_X7 xd_X7_isUser (xH_at.trans (xsh_7 kd_0)) rfl ⟨Nat.le_of_ble_eq_true rfl, Nat.le_of_ble_eq_true rfl⟩ rfl (Nat.le_of_ble_eq_true rfl) ⟨Nat.le_of_ble_eq_true rfl, Nat.le_of_ble_eq_true rfl⟩ ?_
  rintro _ _ ⟨rfl, rfl⟩
  show xV _ _ _ _ _ _ _ _ _ _ _ _ _ _ _ _ _ (xH D b σ) _ _ [.int (bI (isU u x))]
  refine xb_ifeq (tgt := 16) hC dX7_vector_5 (pc' := 8) rfl (by decide) (fun zc5 => ?_) (fun zc5 => ?_)
  · skip
    refine xi_sipush (v := -10001) hC dX7_vector_16 (pc' := 19) rfl (by decide +kernel) ?_
    refine xi_ireturn hC dX7_vector_19 hr rfl ?_
    exact ⟨_, rfl, fun r' hs => Eq.symm ((hs.1 (fun q => by first | exact zc5 q.1 | exact zc13 q.2))), rfl⟩
  · skip
    refine xi_aload_n hC dX7_vector_8 (pc' := 9) rfl rfl rfl ?_
    refine xi_iload_n hC dX7_vector_9 (pc' := 10) rfl rfl rfl ?_
    refine xi_callV (As := [.int z]) (rest := []) (c_X7_isUser l D b n (σ := σ) (u := u) (x := z) r3 (by omega)) hC dX7_vector_10 (pc' := 13) rfl xw_m_X7_41 xw_c_X7_isUser xw_ins_X7_isUser xw_sel_X7_isUser xw_ini_X7 xd_X7_isUser (xH_at.trans (xsh_7 kd_0)) rfl ⟨Nat.le_of_ble_eq_true rfl, Nat.le_of_ble_eq_true rfl⟩ rfl (Nat.le_of_ble_eq_true rfl) ⟨Nat.le_of_ble_eq_true rfl, Nat.le_of_ble_eq_true rfl⟩ ?_
    rintro _ _ ⟨rfl, rfl⟩
    show xV _ _ _ _ _ _ _ _ _ _ _ _ _ _ _ _ _ (xH D b σ) _ _ [.int (bI (isU u z))]
    refine xb_ifne (tgt := 20) hC dX7_vector_13 (pc' := 16) rfl (by decide) (fun zc13 => ?_) (fun zc13 => ?_)
    · skip
      obtain ⟨i, hi, rfl⟩ := zc5
      obtain ⟨j, hj, rfl⟩ := zc13
      refine xi_iload_n hC dX7_vector_20 (pc' := 21) rfl rfl rfl ?_
      refine xi_iflt (tgt := 29) hC dX7_vector_21 (pc' := 24) rfl (by decide) (fun zc21 => ?_) (fun zc21 => ?_)
      · skip
        refine xi_sipush (v := -10002) hC dX7_vector_29 (pc' := 32) rfl (by decide +kernel) ?_
        refine xi_ireturn hC dX7_vector_32 hr rfl ?_
        exact ⟨_, rfl, fun r' hs => Eq.symm ((hs.2 i j hi hj rfl rfl).1 (fun q => by first | exact i_not_lt.mpr q.1 zc21 | exact zc26 q.2)), rfl⟩
      · skip
        refine xi_iload_n hC dX7_vector_24 (pc' := 25) rfl rfl rfl ?_
        refine xi_iconst (v := nI 3) hC dX7_vector_25 (pc' := 26) rfl (by decide +kernel) ?_
        refine xi_icmple (tgt := 33) hC dX7_vector_26 (pc' := 29) rfl (by decide) (fun zc26 => ?_) (fun zc26 => ?_)
        · skip
          rcases rng03 ⟨i_not_lt.mp zc21, zc26⟩ with rfl | rfl | rfl | rfl
          · skip
            refine xi_aload_n hC dX7_vector_33 (pc' := 34) rfl rfl rfl ?_
            refine xg7_members hC dX7_vector_34 (pc' := 37) rfl xw_f_X7_11 kd_0 ?_
            refine xi_iload_n hC dX7_vector_37 (pc' := 38) rfl rfl rfl ?_
            refine xa_members hC dX7_vector_38 (pc' := 39) rfl kd_oMs rfl (by omega) ?_
            refine xi_astore (lv' := [some (.ref (b + 0)), some (.int (nI i)), some (.int (nI 0)), some (.int (nI j)), some (.ref (b + (oMem i)))]) hC dX7_vector_39 (pc' := 41) rfl (by decide) rfl ?_
            refine xi_iload_n hC dX7_vector_41 (pc' := 42) rfl rfl rfl ?_
            refine xn_ifne (tgt := 56) hC dX7_vector_42 (pc' := 45) rfl (by decide) (by omega) (fun zc42 => ?_) (fun zc42 => ?_)
            · exact absurd zc42 (by decide)
            · skip
              refine xi_aload hC dX7_vector_45 (pc' := 47) rfl rfl ?_
              refine xg2_signed hC dX7_vector_47 (pc' := 50) rfl xw_f_X7_189 (kd_oMem (by omega)) ?_
              refine xg5_numbers hC dX7_vector_50 (pc' := 53) rfl xw_f_X7_192 (kd_oSig (kd_oMem (by omega))) ?_
              refine xi_iload_n hC dX7_vector_53 (pc' := 54) rfl rfl rfl ?_
              refine xl_i hC dX7_vector_54 (pc' := 55) rfl (N := 5) (kd_oNum (kd_oSig (kd_oMem (by omega)))) (by decide) rfl (by omega) ?_
              refine xi_ireturn hC dX7_vector_55 hr rfl ?_
              exact ⟨_, rfl, fun r' hs => Eq.symm (((hs.2 i j hi hj rfl rfl).2.1 rfl).trans ((hMm i (by omega)).2.2.1 j (by omega)).symm), rfl⟩
          · skip
            refine xi_aload_n hC dX7_vector_33 (pc' := 34) rfl rfl rfl ?_
            refine xg7_members hC dX7_vector_34 (pc' := 37) rfl xw_f_X7_11 kd_0 ?_
            refine xi_iload_n hC dX7_vector_37 (pc' := 38) rfl rfl rfl ?_
            refine xa_members hC dX7_vector_38 (pc' := 39) rfl kd_oMs rfl (by omega) ?_
            refine xi_astore (lv' := [some (.ref (b + 0)), some (.int (nI i)), some (.int (nI 1)), some (.int (nI j)), some (.ref (b + (oMem i)))]) hC dX7_vector_39 (pc' := 41) rfl (by decide) rfl ?_
            refine xi_iload_n hC dX7_vector_41 (pc' := 42) rfl rfl rfl ?_
            refine xn_ifne (tgt := 56) hC dX7_vector_42 (pc' := 45) rfl (by decide) (by omega) (fun zc42 => ?_) (fun zc42 => ?_)
            · skip
              refine xi_iload_n hC dX7_vector_56 (pc' := 57) rfl rfl rfl ?_
              refine xi_iconst (v := nI 1) hC dX7_vector_57 (pc' := 58) rfl (by decide +kernel) ?_
              refine xn_icmpne (tgt := 72) hC dX7_vector_58 (pc' := 61) rfl (by decide) (by omega) (by omega) (fun zc58 => ?_) (fun zc58 => ?_)
              · exact absurd zc58 (by decide)
              · skip
                refine xi_aload hC dX7_vector_61 (pc' := 63) rfl rfl ?_
                refine xg2_known hC dX7_vector_63 (pc' := 66) rfl xw_f_X7_119 (kd_oMem (by omega)) ?_
                refine xg5_numbers hC dX7_vector_66 (pc' := 69) rfl xw_f_X7_192 (kd_oKno (kd_oMem (by omega))) ?_
                refine xi_iload_n hC dX7_vector_69 (pc' := 70) rfl rfl rfl ?_
                refine xl_i hC dX7_vector_70 (pc' := 71) rfl (N := 5) (kd_oNum (kd_oKno (kd_oMem (by omega)))) (by decide) rfl (by omega) ?_
                refine xi_ireturn hC dX7_vector_71 hr rfl ?_
                exact ⟨_, rfl, fun r' hs => Eq.symm (((hs.2 i j hi hj rfl rfl).2.2.1 rfl).trans ((hMm i (by omega)).2.1 j (by omega)).symm), rfl⟩
            · exact absurd zc42 (by decide)
          · skip
            refine xi_aload_n hC dX7_vector_33 (pc' := 34) rfl rfl rfl ?_
            refine xg7_members hC dX7_vector_34 (pc' := 37) rfl xw_f_X7_11 kd_0 ?_
            refine xi_iload_n hC dX7_vector_37 (pc' := 38) rfl rfl rfl ?_
            refine xa_members hC dX7_vector_38 (pc' := 39) rfl kd_oMs rfl (by omega) ?_
            refine xi_astore (lv' := [some (.ref (b + 0)), some (.int (nI i)), some (.int (nI 2)), some (.int (nI j)), some (.ref (b + (oMem i)))]) hC dX7_vector_39 (pc' := 41) rfl (by decide) rfl ?_
            refine xi_iload_n hC dX7_vector_41 (pc' := 42) rfl rfl rfl ?_
            refine xn_ifne (tgt := 56) hC dX7_vector_42 (pc' := 45) rfl (by decide) (by omega) (fun zc42 => ?_) (fun zc42 => ?_)
            · skip
              refine xi_iload_n hC dX7_vector_56 (pc' := 57) rfl rfl rfl ?_
              refine xi_iconst (v := nI 1) hC dX7_vector_57 (pc' := 58) rfl (by decide +kernel) ?_
              refine xn_icmpne (tgt := 72) hC dX7_vector_58 (pc' := 61) rfl (by decide) (by omega) (by omega) (fun zc58 => ?_) (fun zc58 => ?_)
              · skip
                refine xi_aload hC dX7_vector_72 (pc' := 74) rfl rfl ?_
                refine xg2_proof hC dX7_vector_74 (pc' := 77) rfl xw_f_X7_141 (kd_oMem (by omega)) ?_
                refine xg3_isHeld hC dX7_vector_77 (pc' := 80) rfl xw_f_X7_145 (kd_oPro (kd_oMem (by omega))) ?_
                refine xi_ifne (tgt := 87) hC dX7_vector_80 (pc' := 83) rfl (by decide) (fun zc80 => ?_) (fun zc80 => ?_)
                · skip
                  refine xi_iload_n hC dX7_vector_87 (pc' := 88) rfl rfl rfl ?_
                  refine xi_iconst (v := nI 2) hC dX7_vector_88 (pc' := 89) rfl (by decide +kernel) ?_
                  refine xn_icmpne (tgt := 108) hC dX7_vector_89 (pc' := 92) rfl (by decide) (by omega) (by omega) (fun zc89 => ?_) (fun zc89 => ?_)
                  · exact absurd zc89 (by decide)
                  · skip
                    refine xi_aload hC dX7_vector_92 (pc' := 94) rfl rfl ?_
                    refine xg2_proof hC dX7_vector_94 (pc' := 97) rfl xw_f_X7_141 (kd_oMem (by omega)) ?_
                    refine xg3_first hC dX7_vector_97 (pc' := 100) rfl xw_f_X7_150 (kd_oPro (kd_oMem (by omega))) ?_
                    refine xg5_numbers hC dX7_vector_100 (pc' := 103) rfl xw_f_X7_192 (kd_oFst (kd_oPro (kd_oMem (by omega)))) ?_
                    refine xi_iload_n hC dX7_vector_103 (pc' := 104) rfl rfl rfl ?_
                    refine xl_i hC dX7_vector_104 (pc' := 105) rfl (N := 5) (kd_oNum (kd_oFst (kd_oPro (kd_oMem (by omega))))) (by decide) rfl (by omega) ?_
                    refine xi_goto (tgt := 121) hC dX7_vector_105 (by decide) ?_
                    refine xi_ireturn hC dX7_vector_121 hr rfl ?_
                    exact ⟨_, rfl, fun r' hs => Eq.symm ((((hs.2 i j hi hj rfl rfl).2.2.2.1 rfl).2 (fun q => zc80 ((hMm i (by omega)).2.2.2.1.1.trans q))).trans (((hMm i (by omega)).2.2.2.1.2 (fun q => zc80 ((hMm i (by omega)).2.2.2.1.1.trans q))).2 j (by omega)).1.symm), rfl⟩
                · skip
                  refine xi_sipush (v := -10005) hC dX7_vector_83 (pc' := 86) rfl (by decide +kernel) ?_
                  refine xi_ireturn hC dX7_vector_86 hr rfl ?_
                  exact ⟨_, rfl, fun r' hs => Eq.symm (((hs.2 i j hi hj rfl rfl).2.2.2.1 rfl).1 ((hMm i (by omega)).2.2.2.1.1.symm.trans zc80)), rfl⟩
              · exact absurd zc58 (by decide)
            · exact absurd zc42 (by decide)
          · skip
            refine xi_aload_n hC dX7_vector_33 (pc' := 34) rfl rfl rfl ?_
            refine xg7_members hC dX7_vector_34 (pc' := 37) rfl xw_f_X7_11 kd_0 ?_
            refine xi_iload_n hC dX7_vector_37 (pc' := 38) rfl rfl rfl ?_
            refine xa_members hC dX7_vector_38 (pc' := 39) rfl kd_oMs rfl (by omega) ?_
            refine xi_astore (lv' := [some (.ref (b + 0)), some (.int (nI i)), some (.int (nI 3)), some (.int (nI j)), some (.ref (b + (oMem i)))]) hC dX7_vector_39 (pc' := 41) rfl (by decide) rfl ?_
            refine xi_iload_n hC dX7_vector_41 (pc' := 42) rfl rfl rfl ?_
            refine xn_ifne (tgt := 56) hC dX7_vector_42 (pc' := 45) rfl (by decide) (by omega) (fun zc42 => ?_) (fun zc42 => ?_)
            · skip
              refine xi_iload_n hC dX7_vector_56 (pc' := 57) rfl rfl rfl ?_
              refine xi_iconst (v := nI 1) hC dX7_vector_57 (pc' := 58) rfl (by decide +kernel) ?_
              refine xn_icmpne (tgt := 72) hC dX7_vector_58 (pc' := 61) rfl (by decide) (by omega) (by omega) (fun zc58 => ?_) (fun zc58 => ?_)
              · skip
                refine xi_aload hC dX7_vector_72 (pc' := 74) rfl rfl ?_
                refine xg2_proof hC dX7_vector_74 (pc' := 77) rfl xw_f_X7_141 (kd_oMem (by omega)) ?_
                refine xg3_isHeld hC dX7_vector_77 (pc' := 80) rfl xw_f_X7_145 (kd_oPro (kd_oMem (by omega))) ?_
                refine xi_ifne (tgt := 87) hC dX7_vector_80 (pc' := 83) rfl (by decide) (fun zc80 => ?_) (fun zc80 => ?_)
                · skip
                  refine xi_iload_n hC dX7_vector_87 (pc' := 88) rfl rfl rfl ?_
                  refine xi_iconst (v := nI 2) hC dX7_vector_88 (pc' := 89) rfl (by decide +kernel) ?_
                  refine xn_icmpne (tgt := 108) hC dX7_vector_89 (pc' := 92) rfl (by decide) (by omega) (by omega) (fun zc89 => ?_) (fun zc89 => ?_)
                  · skip
                    refine xi_aload hC dX7_vector_108 (pc' := 110) rfl rfl ?_
                    refine xg2_proof hC dX7_vector_110 (pc' := 113) rfl xw_f_X7_141 (kd_oMem (by omega)) ?_
                    refine xg3_second hC dX7_vector_113 (pc' := 116) rfl xw_f_X7_153 (kd_oPro (kd_oMem (by omega))) ?_
                    refine xg5_numbers hC dX7_vector_116 (pc' := 119) rfl xw_f_X7_192 (kd_oSnd (kd_oPro (kd_oMem (by omega)))) ?_
                    refine xi_iload_n hC dX7_vector_119 (pc' := 120) rfl rfl rfl ?_
                    refine xl_i hC dX7_vector_120 (pc' := 121) rfl (N := 5) (kd_oNum (kd_oSnd (kd_oPro (kd_oMem (by omega))))) (by decide) rfl (by omega) ?_
                    refine xi_ireturn hC dX7_vector_121 hr rfl ?_
                    exact ⟨_, rfl, fun r' hs => Eq.symm ((((hs.2 i j hi hj rfl rfl).2.2.2.2 rfl).2 (fun q => zc80 ((hMm i (by omega)).2.2.2.1.1.trans q))).trans (((hMm i (by omega)).2.2.2.1.2 (fun q => zc80 ((hMm i (by omega)).2.2.2.1.1.trans q))).2 j (by omega)).2.symm), rfl⟩
                  · exact absurd zc89 (by decide)
                · skip
                  refine xi_sipush (v := -10005) hC dX7_vector_83 (pc' := 86) rfl (by decide +kernel) ?_
                  refine xi_ireturn hC dX7_vector_86 hr rfl ?_
                  exact ⟨_, rfl, fun r' hs => Eq.symm (((hs.2 i j hi hj rfl rfl).2.2.2.2 rfl).1 ((hMm i (by omega)).2.2.2.1.1.symm.trans zc80)), rfl⟩
              · exact absurd zc58 (by decide)
            · exact absurd zc42 (by decide)
        · skip
          refine xi_sipush (v := -10002) hC dX7_vector_29 (pc' := 32) rfl (by decide +kernel) ?_
          refine xi_ireturn hC dX7_vector_32 hr rfl ?_
          exact ⟨_, rfl, fun r' hs => Eq.symm ((hs.2 i j hi hj rfl rfl).1 (fun q => by first | exact i_not_lt.mpr q.1 zc21 | exact zc26 q.2)), rfl⟩
    · skip
      refine xi_sipush (v := -10001) hC dX7_vector_16 (pc' := 19) rfl (by decide +kernel) ?_
      refine xi_ireturn hC dX7_vector_19 hr rfl ?_
      exact ⟨_, rfl, fun r' hs => Eq.symm ((hs.1 (fun q => by first | exact zc5 q.1 | exact zc13 q.2))), rfl⟩
set_option maxRecDepth 100000 in
set_option maxHeartbeats 4000000 in
theorem c_X7_entry (l : Launch) (D : XD) (b n : Nat) {σ S : XM} {N u w : Nat} (hS : SI N S u w) (hR : RR σ S u w) (hN : N + 1 < 2 ^ 31) {x y z : Int32}  : xM l yX7_entry cX7_entry 4 (some .int) 1 21 0 0 D b n [.ref (b + 0), .int x, .int y, .int z] (xH D b σ) n (fun y' h' => ∃ r : Int32, y' = some (.int r) ∧ (∀ r' : Int32, s_entry S u w x y z r' → r = r') ∧ h' = xH D b σ) := by
  refine xM.of (lv := [some (.ref (b + 0)), some (.int x), some (.int y), some (.int z)]) (by decide +kernel) rfl (List.forall_mem_cons.mpr ⟨rfl, List.forall_mem_cons.mpr ⟨rfl, List.forall_mem_cons.mpr ⟨rfl, List.forall_mem_cons.mpr ⟨rfl, fun _ h => absurd h List.not_mem_nil⟩⟩⟩⟩) (Nat.le_of_ble_eq_true rfl) rfl ?_
  intro p e s m args below meth c hC hr hnm
  obtain ⟨hU, hn, hVw, hKp, hLt, hTx, hAl⟩ := id hS.1
  obtain ⟨hu, hu2, hu5⟩ := id hU
  obtain ⟨hn1, hw1, hw6⟩ := id hn
  obtain ⟨r3, r4, hMm, hVv, hTt⟩ := id hR
  refine xi_aload_n hC dX7_entry_0 (pc' := 1) rfl rfl rfl ?_
  refine xi_iload_n hC dX7_entry_1 (pc' := 2) rfl rfl rfl ?_
  refine xi_callV (As := [.int x]) (rest := []) (c_X7_isView l D b n (σ := σ) (u := w) (x := x) r4 hw6) hC dX7_entry_2 (pc' := 5) rfl xw_m_X7_76 xw_c_X7_isView xw_ins_X7_isView xw_sel_X7_isView xw_ini_X7 xd_X7_isView (xH_at.trans (xsh_7 kd_0)) rfl ⟨Nat.le_of_ble_eq_true rfl, Nat.le_of_ble_eq_true rfl⟩ rfl (Nat.le_of_ble_eq_true rfl) ⟨Nat.le_of_ble_eq_true rfl, Nat.le_of_ble_eq_true rfl⟩ ?_
  rintro _ _ ⟨rfl, rfl⟩
  show xV _ _ _ _ _ _ _ _ _ _ _ _ _ _ _ _ _ (xH D b σ) _ _ [.int (bI (isU w x))]
  refine xb_ifeq (tgt := 24) hC dX7_entry_5 (pc' := 8) rfl (by decide) (fun zc5 => ?_) (fun zc5 => ?_)
  · skip
    refine xi_sipush (v := -10001) hC dX7_entry_24 (pc' := 27) rfl (by decide +kernel) ?_
    refine xi_ireturn hC dX7_entry_27 hr rfl ?_
    exact ⟨_, rfl, fun r' hs => Eq.symm (hs.1 (fun q => by first | exact zc5 q.1 | exact zc13 q.2.1 | exact zc21 q.2.2)), rfl⟩
  · skip
    refine xi_aload_n hC dX7_entry_8 (pc' := 9) rfl rfl rfl ?_
    refine xi_iload_n hC dX7_entry_9 (pc' := 10) rfl rfl rfl ?_
    refine xi_callV (As := [.int y]) (rest := []) (c_X7_isUser l D b n (σ := σ) (u := u) (x := y) r3 (by omega)) hC dX7_entry_10 (pc' := 13) rfl xw_m_X7_41 xw_c_X7_isUser xw_ins_X7_isUser xw_sel_X7_isUser xw_ini_X7 xd_X7_isUser (xH_at.trans (xsh_7 kd_0)) rfl ⟨Nat.le_of_ble_eq_true rfl, Nat.le_of_ble_eq_true rfl⟩ rfl (Nat.le_of_ble_eq_true rfl) ⟨Nat.le_of_ble_eq_true rfl, Nat.le_of_ble_eq_true rfl⟩ ?_
    rintro _ _ ⟨rfl, rfl⟩
    show xV _ _ _ _ _ _ _ _ _ _ _ _ _ _ _ _ _ (xH D b σ) _ _ [.int (bI (isU u y))]
    refine xb_ifeq (tgt := 24) hC dX7_entry_13 (pc' := 16) rfl (by decide) (fun zc13 => ?_) (fun zc13 => ?_)
    · skip
      refine xi_sipush (v := -10001) hC dX7_entry_24 (pc' := 27) rfl (by decide +kernel) ?_
      refine xi_ireturn hC dX7_entry_27 hr rfl ?_
      exact ⟨_, rfl, fun r' hs => Eq.symm (hs.1 (fun q => by first | exact zc5 q.1 | exact zc13 q.2.1 | exact zc21 q.2.2)), rfl⟩
    · skip
      refine xi_aload_n hC dX7_entry_16 (pc' := 17) rfl rfl rfl ?_
      refine xi_iload_n hC dX7_entry_17 (pc' := 18) rfl rfl rfl ?_
      refine xi_callV (As := [.int z]) (rest := []) (c_X7_isUser l D b n (σ := σ) (u := u) (x := z) r3 (by omega)) hC dX7_entry_18 (pc' := 21) rfl xw_m_X7_41 xw_c_X7_isUser xw_ins_X7_isUser xw_sel_X7_isUser xw_ini_X7 xd_X7_isUser (xH_at.trans (xsh_7 kd_0)) rfl ⟨Nat.le_of_ble_eq_true rfl, Nat.le_of_ble_eq_true rfl⟩ rfl (Nat.le_of_ble_eq_true rfl) ⟨Nat.le_of_ble_eq_true rfl, Nat.le_of_ble_eq_true rfl⟩ ?_
      rintro _ _ ⟨rfl, rfl⟩
      show xV _ _ _ _ _ _ _ _ _ _ _ _ _ _ _ _ _ (xH D b σ) _ _ [.int (bI (isU u z))]
      refine xb_ifne (tgt := 28) hC dX7_entry_21 (pc' := 24) rfl (by decide) (fun zc21 => ?_) (fun zc21 => ?_)
      · skip
        obtain ⟨v, hv, rfl⟩ := zc5
        obtain ⟨i, hi, rfl⟩ := zc13
        obtain ⟨j, hj, rfl⟩ := zc21
        refine xi_aload_n hC dX7_entry_28 (pc' := 29) rfl rfl rfl ?_
        refine xg7_views hC dX7_entry_29 (pc' := 32) rfl xw_f_X7_17 kd_0 ?_
        refine xi_iload_n hC dX7_entry_32 (pc' := 33) rfl rfl rfl ?_
        refine xa_views hC dX7_entry_33 (pc' := 34) rfl kd_oVws rfl (by omega) ?_
        refine xg6_entries hC dX7_entry_34 (pc' := 37) rfl xw_f_X7_102 (kd_oVw (by omega)) ?_
        refine xg1_vectors hC dX7_entry_37 (pc' := 40) rfl xw_f_X7_197 (kd_oEnt (kd_oVw (by omega))) ?_
        refine xi_iload_n hC dX7_entry_40 (pc' := 41) rfl rfl rfl ?_
        refine xa_vectors hC dX7_entry_41 (pc' := 42) rfl (kd_oVs (kd_oEnt (kd_oVw (by omega)))) rfl (by omega) ?_
        refine xg5_numbers hC dX7_entry_42 (pc' := 45) rfl xw_f_X7_192 (kd_oVec (kd_oVs (kd_oEnt (kd_oVw (by omega)))) (by omega)) ?_
        refine xi_iload_n hC dX7_entry_45 (pc' := 46) rfl rfl rfl ?_
        refine xl_i hC dX7_entry_46 (pc' := 47) rfl (N := 5) (kd_oNum (kd_oVec (kd_oVs (kd_oEnt (kd_oVw (by omega)))) (by omega))) (by decide) rfl (by omega) ?_
        refine xi_ireturn hC dX7_entry_47 hr rfl ?_
        exact ⟨_, rfl, fun r' hs => Eq.symm ((hs.2 v i j hv hi hj rfl rfl rfl).trans (((hVv v hv).1 i (by omega)).1 j (by omega)).symm), rfl⟩
      · skip
        refine xi_sipush (v := -10001) hC dX7_entry_24 (pc' := 27) rfl (by decide +kernel) ?_
        refine xi_ireturn hC dX7_entry_27 hr rfl ?_
        exact ⟨_, rfl, fun r' hs => Eq.symm (hs.1 (fun q => by first | exact zc5 q.1 | exact zc13 q.2.1 | exact zc21 q.2.2)), rfl⟩
set_option maxRecDepth 100000 in
set_option maxHeartbeats 4000000 in
theorem c_X7_content (l : Launch) (D : XD) (b n : Nat) {σ S : XM} {N u w : Nat} (hS : SI N S u w) (hR : RR σ S u w) (hN : N + 1 < 2 ^ 31) {x y : Int32}  : xM l yX7_content cX7_content 3 (some .int) 1 21 0 0 D b n [.ref (b + 0), .int x, .int y] (xH D b σ) n (fun y' h' => ∃ r : Int32, y' = some (.int r) ∧ (∀ r' : Int32, s_content S u w x y r' → r = r') ∧ h' = xH D b σ) := by
  refine xM.of (lv := [some (.ref (b + 0)), some (.int x), some (.int y)]) (by decide +kernel) rfl (List.forall_mem_cons.mpr ⟨rfl, List.forall_mem_cons.mpr ⟨rfl, List.forall_mem_cons.mpr ⟨rfl, fun _ h => absurd h List.not_mem_nil⟩⟩⟩) (Nat.le_of_ble_eq_true rfl) rfl ?_
  intro p e s m args below meth c hC hr hnm
  obtain ⟨hU, hn, hVw, hKp, hLt, hTx, hAl⟩ := id hS.1
  obtain ⟨hu, hu2, hu5⟩ := id hU
  obtain ⟨hn1, hw1, hw6⟩ := id hn
  obtain ⟨r3, r4, hMm, hVv, hTt⟩ := id hR
  refine xi_aload_n hC dX7_content_0 (pc' := 1) rfl rfl rfl ?_
  refine xi_iload_n hC dX7_content_1 (pc' := 2) rfl rfl rfl ?_
  refine xi_callV (As := [.int x]) (rest := []) (c_X7_isView l D b n (σ := σ) (u := w) (x := x) r4 hw6) hC dX7_content_2 (pc' := 5) rfl xw_m_X7_76 xw_c_X7_isView xw_ins_X7_isView xw_sel_X7_isView xw_ini_X7 xd_X7_isView (xH_at.trans (xsh_7 kd_0)) rfl ⟨Nat.le_of_ble_eq_true rfl, Nat.le_of_ble_eq_true rfl⟩ rfl (Nat.le_of_ble_eq_true rfl) ⟨Nat.le_of_ble_eq_true rfl, Nat.le_of_ble_eq_true rfl⟩ ?_
  rintro _ _ ⟨rfl, rfl⟩
  show xV _ _ _ _ _ _ _ _ _ _ _ _ _ _ _ _ _ (xH D b σ) _ _ [.int (bI (isU w x))]
  refine xb_ifeq (tgt := 16) hC dX7_content_5 (pc' := 8) rfl (by decide) (fun zc5 => ?_) (fun zc5 => ?_)
  · skip
    refine xi_sipush (v := -10001) hC dX7_content_16 (pc' := 19) rfl (by decide +kernel) ?_
    refine xi_ireturn hC dX7_content_19 hr rfl ?_
    exact ⟨_, rfl, fun r' hs => Eq.symm ((hs.1 (fun q => by first | exact zc5 q.1 | exact zc13 q.2))), rfl⟩
  · skip
    refine xi_aload_n hC dX7_content_8 (pc' := 9) rfl rfl rfl ?_
    refine xi_iload_n hC dX7_content_9 (pc' := 10) rfl rfl rfl ?_
    refine xi_callV (As := [.int y]) (rest := []) (c_X7_isUser l D b n (σ := σ) (u := u) (x := y) r3 (by omega)) hC dX7_content_10 (pc' := 13) rfl xw_m_X7_41 xw_c_X7_isUser xw_ins_X7_isUser xw_sel_X7_isUser xw_ini_X7 xd_X7_isUser (xH_at.trans (xsh_7 kd_0)) rfl ⟨Nat.le_of_ble_eq_true rfl, Nat.le_of_ble_eq_true rfl⟩ rfl (Nat.le_of_ble_eq_true rfl) ⟨Nat.le_of_ble_eq_true rfl, Nat.le_of_ble_eq_true rfl⟩ ?_
    rintro _ _ ⟨rfl, rfl⟩
    show xV _ _ _ _ _ _ _ _ _ _ _ _ _ _ _ _ _ (xH D b σ) _ _ [.int (bI (isU u y))]
    refine xb_ifne (tgt := 20) hC dX7_content_13 (pc' := 16) rfl (by decide) (fun zc13 => ?_) (fun zc13 => ?_)
    · skip
      obtain ⟨v, hv, rfl⟩ := zc5
      obtain ⟨i, hi, rfl⟩ := zc13
      refine xi_aload_n hC dX7_content_20 (pc' := 21) rfl rfl rfl ?_
      refine xg7_views hC dX7_content_21 (pc' := 24) rfl xw_f_X7_17 kd_0 ?_
      refine xi_iload_n hC dX7_content_24 (pc' := 25) rfl rfl rfl ?_
      refine xa_views hC dX7_content_25 (pc' := 26) rfl kd_oVws rfl (by omega) ?_
      refine xg6_entries hC dX7_content_26 (pc' := 29) rfl xw_f_X7_102 (kd_oVw (by omega)) ?_
      refine xg1_contents hC dX7_content_29 (pc' := 32) rfl xw_f_X7_56 (kd_oEnt (kd_oVw (by omega))) ?_
      refine xi_iload_n hC dX7_content_32 (pc' := 33) rfl rfl rfl ?_
      refine xl_i hC dX7_content_33 (pc' := 34) rfl (N := 5) (kd_oCon (kd_oEnt (kd_oVw (by omega)))) (by decide) rfl (by omega) ?_
      refine xi_ireturn hC dX7_content_34 hr rfl ?_
      exact ⟨_, rfl, fun r' hs => Eq.symm ((hs.2 v i hv hi rfl rfl).trans ((hVv v hv).1 i (by omega)).2.symm), rfl⟩
    · skip
      refine xi_sipush (v := -10001) hC dX7_content_16 (pc' := 19) rfl (by decide +kernel) ?_
      refine xi_ireturn hC dX7_content_19 hr rfl ?_
      exact ⟨_, rfl, fun r' hs => Eq.symm ((hs.1 (fun q => by first | exact zc5 q.1 | exact zc13 q.2))), rfl⟩
set_option maxRecDepth 100000 in
set_option maxHeartbeats 4000000 in
theorem c_X7_view (l : Launch) (D : XD) (b n : Nat) {σ S : XM} {N u w : Nat} (hS : SI N S u w) (hR : RR σ S u w) (hN : N + 1 < 2 ^ 31) {x y : Int32}  : xM l yX7_view cX7_view 4 (some .int) 2 46 0 0 D b n [.ref (b + 0), .int x, .int y] (xH D b σ) n (fun y' h' => ∃ r : Int32, y' = some (.int r) ∧ (∀ (r' : Int32) (T : XM), s_view S u w x y r' T → r = r') ∧ h' = xH D b σ) := by
  refine xM.of (lv := [some (.ref (b + 0)), some (.int x), some (.int y), none]) (by decide +kernel) rfl (List.forall_mem_cons.mpr ⟨rfl, List.forall_mem_cons.mpr ⟨rfl, List.forall_mem_cons.mpr ⟨rfl, fun _ h => absurd h List.not_mem_nil⟩⟩⟩) (Nat.le_of_ble_eq_true rfl) rfl ?_
  intro p e s m args below meth c hC hr hnm
  obtain ⟨hU, hn, hVw, hKp, hLt, hTx, hAl⟩ := id hS.1
  obtain ⟨hu, hu2, hu5⟩ := id hU
  obtain ⟨hn1, hw1, hw6⟩ := id hn
  obtain ⟨r3, r4, hMm, hVv, hTt⟩ := id hR
  refine xi_aload_n hC dX7_view_0 (pc' := 1) rfl rfl rfl ?_
  refine xi_iload_n hC dX7_view_1 (pc' := 2) rfl rfl rfl ?_
  refine xi_callV (As := [.int x]) (rest := []) (c_X7_isView l D b n (σ := σ) (u := w) (x := x) r4 hw6) hC dX7_view_2 (pc' := 5) rfl xw_m_X7_76 xw_c_X7_isView xw_ins_X7_isView xw_sel_X7_isView xw_ini_X7 xd_X7_isView (xH_at.trans (xsh_7 kd_0)) rfl ⟨Nat.le_of_ble_eq_true rfl, Nat.le_of_ble_eq_true rfl⟩ rfl (Nat.le_of_ble_eq_true rfl) ⟨Nat.le_of_ble_eq_true rfl, Nat.le_of_ble_eq_true rfl⟩ ?_
  rintro _ _ ⟨rfl, rfl⟩
  show xV _ _ _ _ _ _ _ _ _ _ _ _ _ _ _ _ _ (xH D b σ) _ _ [.int (bI (isU w x))]
  refine xb_ifne (tgt := 12) hC dX7_view_5 (pc' := 8) rfl (by decide) (fun zc5 => ?_) (fun zc5 => ?_)
  · skip
    obtain ⟨v, hv, rfl⟩ := zc5
    have hW := hS.w5 (by omega) hR hv
    refine xi_aload_n hC dX7_view_12 (pc' := 13) rfl rfl rfl ?_
    refine xg7_views hC dX7_view_13 (pc' := 16) rfl xw_f_X7_17 kd_0 ?_
    refine xi_iload_n hC dX7_view_16 (pc' := 17) rfl rfl rfl ?_
    refine xa_views hC dX7_view_17 (pc' := 18) rfl kd_oVws rfl (by omega) ?_
    refine xg6_entries hC dX7_view_18 (pc' := 21) rfl xw_f_X7_102 (kd_oVw (by omega)) ?_
    refine xi_astore_n (lv' := [some (.ref (b + 0)), some (.int (nI v)), some (.int y), some (.ref (b + (oEnt (oVw v))))]) hC dX7_view_21 (pc' := 22) rfl rfl (by decide) rfl ?_
    refine xi_iload_n hC dX7_view_22 (pc' := 23) rfl rfl rfl ?_
    by_cases zt23 : y.toInt < 0 ∨ 3 < y.toInt
    · refine xi_tableOut (tgt := 105) hC dX7_view_23 zt23 (by decide) ?_
      refine xi_sipush (v := -10002) hC dX7_view_105 (pc' := 108) rfl (by decide +kernel) ?_
      refine xi_ireturn hC dX7_view_108 hr rfl ?_
      exact ⟨_, rfl, fun r' T hs => Eq.symm ((hs.2.2 v hv rfl).2.2.2.2 zt23), rfl⟩
    · rcases xtab_0_3 zt23 with zx23 | zx23 | zx23 | zx23
      · refine xi_tableIn (tgt := 52) (off := 29) hC dX7_view_23 (by rw [zx23]; decide) (by rw [zx23]; decide) (by rw [zx23]; rfl) (by decide) ?_
        refine xi_aload_n hC dX7_view_52 (pc' := 53) rfl rfl rfl ?_
        refine xi_iload_n hC dX7_view_53 (pc' := 54) rfl rfl rfl ?_
        refine xi_callV (As := [.int (nI v)]) (rest := []) (c_X7_usersAttachedTo l D b n (σ := σ) (S := S) (u := u) (x := (nI v)) r3 hu5 (fun i hi => (hMm i hi).1.1)) hC dX7_view_54 (pc' := 57) rfl xw_m_X7_79 xw_c_X7_usersAttachedTo xw_ins_X7_usersAttachedTo xw_sel_X7_usersAttachedTo xw_ini_X7 xd_X7_usersAttachedTo (xH_at.trans (xsh_7 kd_0)) rfl ⟨Nat.le_of_ble_eq_true rfl, Nat.le_of_ble_eq_true rfl⟩ rfl (Nat.le_of_ble_eq_true rfl) ⟨Nat.le_of_ble_eq_true rfl, Nat.le_of_ble_eq_true rfl⟩ ?_
        rintro _ _ ⟨rfl, rfl⟩
        show xV _ _ _ _ _ _ _ _ _ _ _ _ _ _ _ _ _ (xH D b σ) _ _ [.int (attM S (nI v) u)]
        refine xi_ireturn hC dX7_view_57 hr rfl ?_
        exact ⟨_, rfl, fun r' T hs => Eq.symm ((hs.2.2 v hv rfl).1 zx23), rfl⟩
      · refine xi_tableIn (tgt := 58) (off := 35) hC dX7_view_23 (by rw [zx23]; decide) (by rw [zx23]; decide) (by rw [zx23]; rfl) (by decide) ?_
        refine xi_aload_n hC dX7_view_58 (pc' := 59) rfl rfl rfl ?_
        refine xg7_views hC dX7_view_59 (pc' := 62) rfl xw_f_X7_17 kd_0 ?_
        refine xi_iload_n hC dX7_view_62 (pc' := 63) rfl rfl rfl ?_
        refine xa_views hC dX7_view_63 (pc' := 64) rfl kd_oVws rfl (by omega) ?_
        refine xg6_remembered hC dX7_view_64 (pc' := 67) rfl xw_f_X7_93 (kd_oVw (by omega)) ?_
        refine xi_ireturn hC dX7_view_67 hr rfl ?_
        exact ⟨_, rfl, fun r' T hs => Eq.symm (((hs.2.2 v hv rfl).2.1 zx23).trans (hVv v hv).2.1.symm), rfl⟩
      · refine xi_tableIn (tgt := 68) (off := 45) hC dX7_view_23 (by rw [zx23]; decide) (by rw [zx23]; decide) (by rw [zx23]; rfl) (by decide) ?_
        refine xi_aload_n hC dX7_view_68 (pc' := 69) rfl rfl rfl ?_
        refine xi_callV (As := []) (rest := []) (c_X1_areForked l D b n (σ := σ) (kd_oEnt (kd_oVw (by omega)))) hC dX7_view_69 (pc' := 72) rfl xw_m_X7_200 xw_c_X1_areForked xw_ins_X1_areForked xw_sel_X1_areForked xw_ini_X1 xd_X1_areForked (xH_at.trans (xsh_1 (kd_oEnt (kd_oVw (by omega))))) rfl ⟨Nat.le_of_ble_eq_true rfl, Nat.le_of_ble_eq_true rfl⟩ rfl (Nat.le_of_ble_eq_true rfl) ⟨Nat.le_of_ble_eq_true rfl, Nat.le_of_ble_eq_true rfl⟩ ?_
        rintro _ _ ⟨rfl, rfl⟩
        show xV _ _ _ _ _ _ _ _ _ _ _ _ _ _ _ _ _ (xH D b σ) _ _ [.int (bI (fkd 5 5 (xve σ (oEnt (oVw v)))))]
        refine xb_ifne (tgt := 79) hC dX7_view_72 (pc' := 75) rfl (by decide) (fun zc72 => ?_) (fun zc72 => ?_)
        · skip
          refine xi_iconst (v := nI 0) hC dX7_view_79 (pc' := 80) rfl (by decide +kernel) ?_
          refine xi_callS (As := [.int (nI 0)]) (rest := []) (c_X7_oneIf l D b n (σ := σ) (x := (nI 0))) hC dX7_view_80 (pc' := 83) rfl xw_m_X7_166 xw_c_X7_oneIf xw_sta_X7_oneIf xw_ini_X7 xd_X7_oneIf ⟨Nat.le_of_ble_eq_true rfl, Nat.le_of_ble_eq_true rfl⟩ rfl (Nat.le_of_ble_eq_true rfl) ⟨Nat.le_of_ble_eq_true rfl, Nat.le_of_ble_eq_true rfl⟩ ?_
          rintro _ _ ⟨rfl, rfl⟩
          show xV _ _ _ _ _ _ _ _ _ _ _ _ _ _ _ _ _ (xH D b σ) _ _ [.int (bI ((nI 0) ≠ 0))]
          refine xi_ireturn hC dX7_view_83 hr rfl ?_
          exact ⟨_, rfl, fun r' T hs => Eq.symm ((((hs.2.2 v hv rfl).2.2.1 zx23).1 (hW.f.mp zc72)).trans (bI_f (by decide)).symm), rfl⟩
        · skip
          refine xi_iconst (v := nI 1) hC dX7_view_75 (pc' := 76) rfl (by decide +kernel) ?_
          refine xi_goto (tgt := 80) hC dX7_view_76 (by decide) ?_
          refine xi_callS (As := [.int (nI 1)]) (rest := []) (c_X7_oneIf l D b n (σ := σ) (x := (nI 1))) hC dX7_view_80 (pc' := 83) rfl xw_m_X7_166 xw_c_X7_oneIf xw_sta_X7_oneIf xw_ini_X7 xd_X7_oneIf ⟨Nat.le_of_ble_eq_true rfl, Nat.le_of_ble_eq_true rfl⟩ rfl (Nat.le_of_ble_eq_true rfl) ⟨Nat.le_of_ble_eq_true rfl, Nat.le_of_ble_eq_true rfl⟩ ?_
          rintro _ _ ⟨rfl, rfl⟩
          show xV _ _ _ _ _ _ _ _ _ _ _ _ _ _ _ _ _ (xH D b σ) _ _ [.int (bI ((nI 1) ≠ 0))]
          refine xi_ireturn hC dX7_view_83 hr rfl ?_
          exact ⟨_, rfl, fun r' T hs => Eq.symm ((((hs.2.2 v hv rfl).2.2.1 zx23).2 (fun q => zc72 (hW.f.mpr q))).trans (bI_t (by decide)).symm), rfl⟩
      · refine xi_tableIn (tgt := 84) (off := 61) hC dX7_view_23 (by rw [zx23]; decide) (by rw [zx23]; decide) (by rw [zx23]; rfl) (by decide) ?_
        refine xi_aload_n hC dX7_view_84 (pc' := 85) rfl rfl rfl ?_
        refine xi_callV (As := []) (rest := []) (c_X1_areForked l D b n (σ := σ) (kd_oEnt (kd_oVw (by omega)))) hC dX7_view_85 (pc' := 88) rfl xw_m_X7_200 xw_c_X1_areForked xw_ins_X1_areForked xw_sel_X1_areForked xw_ini_X1 xd_X1_areForked (xH_at.trans (xsh_1 (kd_oEnt (kd_oVw (by omega))))) rfl ⟨Nat.le_of_ble_eq_true rfl, Nat.le_of_ble_eq_true rfl⟩ rfl (Nat.le_of_ble_eq_true rfl) ⟨Nat.le_of_ble_eq_true rfl, Nat.le_of_ble_eq_true rfl⟩ ?_
        rintro _ _ ⟨rfl, rfl⟩
        show xV _ _ _ _ _ _ _ _ _ _ _ _ _ _ _ _ _ (xH D b σ) _ _ [.int (bI (fkd 5 5 (xve σ (oEnt (oVw v)))))]
        refine xb_ifeq (tgt := 97) hC dX7_view_88 (pc' := 91) rfl (by decide) (fun zc88 => ?_) (fun zc88 => ?_)
        · skip
          refine xi_aload_n hC dX7_view_97 (pc' := 98) rfl rfl rfl ?_
          refine xi_callV (As := []) (rest := []) (c_X1_greatest l D b n (σ := σ) (kd_oEnt (kd_oVw (by omega)))) hC dX7_view_98 (pc' := 101) rfl xw_m_X7_204 xw_c_X1_greatest xw_ins_X1_greatest xw_sel_X1_greatest xw_ini_X1 xd_X1_greatest (xH_at.trans (xsh_1 (kd_oEnt (kd_oVw (by omega))))) rfl ⟨Nat.le_of_ble_eq_true rfl, Nat.le_of_ble_eq_true rfl⟩ rfl (Nat.le_of_ble_eq_true rfl) ⟨Nat.le_of_ble_eq_true rfl, Nat.le_of_ble_eq_true rfl⟩ ?_
          rintro _ _ ⟨gi_1, hgi_2, egi_3, rfl, rfl⟩
          show xV _ _ _ _ _ _ _ _ _ _ _ _ _ _ _ _ _ (xH D b σ) _ _ [.ref (b + (oVec (oVs (oEnt (oVw v))) gi_1))]
          refine xi_callV (As := []) (rest := []) (c_X5_sum l D b n (σ := σ) (kd_oVec (kd_oVs (kd_oEnt (kd_oVw (by omega)))) hgi_2)) hC dX7_view_101 (pc' := 104) rfl xw_m_X7_208 xw_c_X5_sum xw_ins_X5_sum xw_sel_X5_sum xw_ini_X5 xd_X5_sum (xH_at.trans (xsh_5 (kd_oVec (kd_oVs (kd_oEnt (kd_oVw (by omega)))) hgi_2))) rfl ⟨Nat.le_of_ble_eq_true rfl, Nat.le_of_ble_eq_true rfl⟩ rfl (Nat.le_of_ble_eq_true rfl) ⟨Nat.le_of_ble_eq_true rfl, Nat.le_of_ble_eq_true rfl⟩ ?_
          rintro _ _ ⟨rfl, rfl⟩
          show xV _ _ _ _ _ _ _ _ _ _ _ _ _ _ _ _ _ (xH D b σ) _ _ [.int (xsum (σ (oNum (oVec (oVs (oEnt (oVw v))) gi_1))) 5)]
          refine xi_ireturn hC dX7_view_104 hr rfl ?_
          subst egi_3
          exact ⟨_, rfl, fun r' T hs => Eq.symm ((((hs.2.2 v hv rfl).2.2.2.1 zx23).2 (fun q => zc88 (hW.f.mpr q))).trans (xsum_5u hu5 hW.g (fun p q q2 => hW.z (i := bst S u v) (by have := bst_lt (S := S) (v := v) hW.1; omega) q2 (Or.inl q))).symm), rfl⟩
        · skip
          refine xi_sipush (v := -10005) hC dX7_view_91 (pc' := 94) rfl (by decide +kernel) ?_
          refine xi_goto (tgt := 104) hC dX7_view_94 (by decide) ?_
          refine xi_ireturn hC dX7_view_104 hr rfl ?_
          exact ⟨_, rfl, fun r' T hs => Eq.symm (((hs.2.2 v hv rfl).2.2.2.1 zx23).1 (hW.f.mp zc88)), rfl⟩
  · skip
    refine xi_sipush (v := -10001) hC dX7_view_8 (pc' := 11) rfl (by decide +kernel) ?_
    refine xi_ireturn hC dX7_view_11 hr rfl ?_
    exact ⟨_, rfl, fun r' T hs => Eq.symm (hs.2.1 zc5), rfl⟩
set_option maxRecDepth 100000 in
set_option maxHeartbeats 4000000 in
theorem c_X7_compare (l : Launch) (D : XD) (b n : Nat) {σ S : XM} {N u w : Nat} (hS : SI N S u w) (hR : RR σ S u w) (hN : N + 1 < 2 ^ 31) {x y z : Int32}  : xM l yX7_compare cX7_compare 4 (some .int) 1 24 0 0 D b n [.ref (b + 0), .int x, .int y, .int z] (xH D b σ) n (fun y' h' => ∃ r : Int32, y' = some (.int r) ∧ (∀ r' : Int32, s_compare S u x y z r' → r = r') ∧ h' = xH D b σ) := by
  refine xM.of (lv := [some (.ref (b + 0)), some (.int x), some (.int y), some (.int z)]) (by decide +kernel) rfl (List.forall_mem_cons.mpr ⟨rfl, List.forall_mem_cons.mpr ⟨rfl, List.forall_mem_cons.mpr ⟨rfl, List.forall_mem_cons.mpr ⟨rfl, fun _ h => absurd h List.not_mem_nil⟩⟩⟩⟩) (Nat.le_of_ble_eq_true rfl) rfl ?_
  intro p e s m args below meth c hC hr hnm
  obtain ⟨hU, hn, hVw, hKp, hLt, hTx, hAl⟩ := id hS.1
  obtain ⟨hu, hu2, hu5⟩ := id hU
  obtain ⟨hn1, hw1, hw6⟩ := id hn
  obtain ⟨r3, r4, hMm, hVv, hTt⟩ := id hR
  refine xi_aload_n hC dX7_compare_0 (pc' := 1) rfl rfl rfl ?_
  refine xi_iload_n hC dX7_compare_1 (pc' := 2) rfl rfl rfl ?_
  refine xi_callV (As := [.int x]) (rest := []) (c_X7_isUser l D b n (σ := σ) (u := u) (x := x) r3 (by omega)) hC dX7_compare_2 (pc' := 5) rfl xw_m_X7_41 xw_c_X7_isUser xw_ins_X7_isUser xw_sel_X7_isUser xw_ini_X7 xd_X7_isUser (xH_at.trans (xsh_7 kd_0)) rfl ⟨Nat.le_of_ble_eq_true rfl, Nat.le_of_ble_eq_true rfl⟩ rfl (Nat.le_of_ble_eq_true rfl) ⟨Nat.le_of_ble_eq_true rfl, Nat.le_of_ble_eq_true rfl⟩ ?_
  rintro _ _ ⟨rfl, rfl⟩
  show xV _ _ _ _ _ _ _ _ _ _ _ _ _ _ _ _ _ (xH D b σ) _ _ [.int (bI (isU u x))]
  refine xb_ifeq (tgt := 16) hC dX7_compare_5 (pc' := 8) rfl (by decide) (fun zc5 => ?_) (fun zc5 => ?_)
  · skip
    refine xi_sipush (v := -10001) hC dX7_compare_16 (pc' := 19) rfl (by decide +kernel) ?_
    refine xi_ireturn hC dX7_compare_19 hr rfl ?_
    exact ⟨_, rfl, fun r' hs => Eq.symm ((hs.1 (fun q => by first | exact zc5 q.1 | exact zc13 q.2))), rfl⟩
  · skip
    refine xi_aload_n hC dX7_compare_8 (pc' := 9) rfl rfl rfl ?_
    refine xi_iload_n hC dX7_compare_9 (pc' := 10) rfl rfl rfl ?_
    refine xi_callV (As := [.int y]) (rest := []) (c_X7_isUser l D b n (σ := σ) (u := u) (x := y) r3 (by omega)) hC dX7_compare_10 (pc' := 13) rfl xw_m_X7_41 xw_c_X7_isUser xw_ins_X7_isUser xw_sel_X7_isUser xw_ini_X7 xd_X7_isUser (xH_at.trans (xsh_7 kd_0)) rfl ⟨Nat.le_of_ble_eq_true rfl, Nat.le_of_ble_eq_true rfl⟩ rfl (Nat.le_of_ble_eq_true rfl) ⟨Nat.le_of_ble_eq_true rfl, Nat.le_of_ble_eq_true rfl⟩ ?_
    rintro _ _ ⟨rfl, rfl⟩
    show xV _ _ _ _ _ _ _ _ _ _ _ _ _ _ _ _ _ (xH D b σ) _ _ [.int (bI (isU u y))]
    refine xb_ifne (tgt := 20) hC dX7_compare_13 (pc' := 16) rfl (by decide) (fun zc13 => ?_) (fun zc13 => ?_)
    · skip
      obtain ⟨i, hi, rfl⟩ := zc5
      obtain ⟨j, hj, rfl⟩ := zc13
      refine xi_iload_n hC dX7_compare_20 (pc' := 21) rfl rfl rfl ?_
      refine xi_ifeq (tgt := 46) hC dX7_compare_21 (pc' := 24) rfl (by decide) (fun zc21 => ?_) (fun zc21 => ?_)
      · skip
        refine xi_aload_n hC dX7_compare_46 (pc' := 47) rfl rfl rfl ?_
        refine xg7_members hC dX7_compare_47 (pc' := 50) rfl xw_f_X7_11 kd_0 ?_
        refine xi_iload_n hC dX7_compare_50 (pc' := 51) rfl rfl rfl ?_
        refine xa_members hC dX7_compare_51 (pc' := 52) rfl kd_oMs rfl (by omega) ?_
        refine xg2_signed hC dX7_compare_52 (pc' := 55) rfl xw_f_X7_189 (kd_oMem (by omega)) ?_
        refine xi_aload_n hC dX7_compare_55 (pc' := 56) rfl rfl rfl ?_
        refine xg7_members hC dX7_compare_56 (pc' := 59) rfl xw_f_X7_11 kd_0 ?_
        refine xi_iload_n hC dX7_compare_59 (pc' := 60) rfl rfl rfl ?_
        refine xa_members hC dX7_compare_60 (pc' := 61) rfl kd_oMs rfl (by omega) ?_
        refine xg2_signed hC dX7_compare_61 (pc' := 64) rfl xw_f_X7_189 (kd_oMem (by omega)) ?_
        refine xi_callV (As := [.ref (b + (oSig (oMem j)))]) (rest := []) (c_X5_relationTo l D b n (σ := σ) (kd_oSig (kd_oMem (by omega))) (kd_oSig (kd_oMem (by omega)))) hC dX7_compare_64 (pc' := 67) rfl xw_m_X7_211 xw_c_X5_relationTo xw_ins_X5_relationTo xw_sel_X5_relationTo xw_ini_X5 xd_X5_relationTo (xH_at.trans (xsh_5 (kd_oSig (kd_oMem (by omega))))) rfl ⟨Nat.le_of_ble_eq_true rfl, Nat.le_of_ble_eq_true rfl⟩ rfl (Nat.le_of_ble_eq_true rfl) ⟨Nat.le_of_ble_eq_true rfl, Nat.le_of_ble_eq_true rfl⟩ ?_
        rintro _ _ ⟨rfl, rfl⟩
        show xV _ _ _ _ _ _ _ _ _ _ _ _ _ _ _ _ _ (xH D b σ) _ _ [.int (rel 5 (σ (oNum (oSig (oMem i)))) (σ (oNum (oSig (oMem j)))))]
        refine xi_ireturn hC dX7_compare_67 hr rfl ?_
        exact ⟨_, rfl, fun r' hs => Eq.symm (((hs.2 i j hi hj rfl rfl).1 zc21).trans (hS.gg hR (by omega) (by omega)).symm), rfl⟩
      · skip
        refine xi_aload_n hC dX7_compare_24 (pc' := 25) rfl rfl rfl ?_
        refine xg7_members hC dX7_compare_25 (pc' := 28) rfl xw_f_X7_11 kd_0 ?_
        refine xi_iload_n hC dX7_compare_28 (pc' := 29) rfl rfl rfl ?_
        refine xa_members hC dX7_compare_29 (pc' := 30) rfl kd_oMs rfl (by omega) ?_
        refine xg2_known hC dX7_compare_30 (pc' := 33) rfl xw_f_X7_119 (kd_oMem (by omega)) ?_
        refine xi_aload_n hC dX7_compare_33 (pc' := 34) rfl rfl rfl ?_
        refine xg7_members hC dX7_compare_34 (pc' := 37) rfl xw_f_X7_11 kd_0 ?_
        refine xi_iload_n hC dX7_compare_37 (pc' := 38) rfl rfl rfl ?_
        refine xa_members hC dX7_compare_38 (pc' := 39) rfl kd_oMs rfl (by omega) ?_
        refine xg2_known hC dX7_compare_39 (pc' := 42) rfl xw_f_X7_119 (kd_oMem (by omega)) ?_
        refine xi_callV (As := [.ref (b + (oKno (oMem j)))]) (rest := []) (c_X5_relationTo l D b n (σ := σ) (kd_oKno (kd_oMem (by omega))) (kd_oKno (kd_oMem (by omega)))) hC dX7_compare_42 (pc' := 45) rfl xw_m_X7_211 xw_c_X5_relationTo xw_ins_X5_relationTo xw_sel_X5_relationTo xw_ini_X5 xd_X5_relationTo (xH_at.trans (xsh_5 (kd_oKno (kd_oMem (by omega))))) rfl ⟨Nat.le_of_ble_eq_true rfl, Nat.le_of_ble_eq_true rfl⟩ rfl (Nat.le_of_ble_eq_true rfl) ⟨Nat.le_of_ble_eq_true rfl, Nat.le_of_ble_eq_true rfl⟩ ?_
        rintro _ _ ⟨rfl, rfl⟩
        show xV _ _ _ _ _ _ _ _ _ _ _ _ _ _ _ _ _ (xH D b σ) _ _ [.int (rel 5 (σ (oNum (oKno (oMem i)))) (σ (oNum (oKno (oMem j)))))]
        refine xi_ireturn hC dX7_compare_45 hr rfl ?_
        exact ⟨_, rfl, fun r' hs => Eq.symm (((hs.2 i j hi hj rfl rfl).2 zc21).trans (hS.kk hR (by omega) (by omega)).symm), rfl⟩
    · skip
      refine xi_sipush (v := -10001) hC dX7_compare_16 (pc' := 19) rfl (by decide +kernel) ?_
      refine xi_ireturn hC dX7_compare_19 hr rfl ?_
      exact ⟨_, rfl, fun r' hs => Eq.symm ((hs.1 (fun q => by first | exact zc5 q.1 | exact zc13 q.2))), rfl⟩
set_option maxRecDepth 100000 in
set_option maxHeartbeats 4000000 in
theorem c_X7_knowForkedVectors (l : Launch) (D : XD) (b n : Nat) {σ S : XM} {N u w : Nat} (hS : SI N S u w) (hR : RR σ S u w) {i j : Nat} (hi : i < 5) (hj : j < 5) : xM l yX7_knowForkedVectors cX7_knowForkedVectors 3 (some .boolean) 1 24 0 0 D b n [.ref (b + 0), .int (nI i), .int (nI j)] (xH D b σ) n (fun y' h' => y' = some (.int (bI (fkQ S u i j))) ∧ h' = xH D b σ) := by
  refine xM.of (lv := [some (.ref (b + 0)), some (.int (nI i)), some (.int (nI j))]) (by decide +kernel) rfl (List.forall_mem_cons.mpr ⟨rfl, List.forall_mem_cons.mpr ⟨rfl, List.forall_mem_cons.mpr ⟨rfl, fun _ h => absurd h List.not_mem_nil⟩⟩⟩) (Nat.le_of_ble_eq_true rfl) rfl ?_
  intro p e s m args below meth c hC hr hnm
  obtain ⟨hU, hn, hVw, hKp, hLt, hTx, hAl⟩ := id hS.1
  obtain ⟨hu, hu2, hu5⟩ := id hU
  obtain ⟨hn1, hw1, hw6⟩ := id hn
  obtain ⟨r3, r4, hMm, hVv, hTt⟩ := id hR
  refine xi_aload_n hC dX7_knowForkedVectors_0 (pc' := 1) rfl rfl rfl ?_
  refine xg7_members hC dX7_knowForkedVectors_1 (pc' := 4) rfl xw_f_X7_11 kd_0 ?_
  refine xi_iload_n hC dX7_knowForkedVectors_4 (pc' := 5) rfl rfl rfl ?_
  refine xa_members hC dX7_knowForkedVectors_5 (pc' := 6) rfl kd_oMs rfl (by omega) ?_
  refine xg2_known hC dX7_knowForkedVectors_6 (pc' := 9) rfl xw_f_X7_119 (kd_oMem (by omega)) ?_
  refine xi_aload_n hC dX7_knowForkedVectors_9 (pc' := 10) rfl rfl rfl ?_
  refine xg7_members hC dX7_knowForkedVectors_10 (pc' := 13) rfl xw_f_X7_11 kd_0 ?_
  refine xi_iload_n hC dX7_knowForkedVectors_13 (pc' := 14) rfl rfl rfl ?_
  refine xa_members hC dX7_knowForkedVectors_14 (pc' := 15) rfl kd_oMs rfl (by omega) ?_
  refine xg2_known hC dX7_knowForkedVectors_15 (pc' := 18) rfl xw_f_X7_119 (kd_oMem (by omega)) ?_
  refine xi_callV (As := [.ref (b + (oKno (oMem j)))]) (rest := []) (c_X5_relationTo l D b n (σ := σ) (kd_oKno (kd_oMem (by omega))) (kd_oKno (kd_oMem (by omega)))) hC dX7_knowForkedVectors_18 (pc' := 21) rfl xw_m_X7_211 xw_c_X5_relationTo xw_ins_X5_relationTo xw_sel_X5_relationTo xw_ini_X5 xd_X5_relationTo (xH_at.trans (xsh_5 (kd_oKno (kd_oMem (by omega))))) rfl ⟨Nat.le_of_ble_eq_true rfl, Nat.le_of_ble_eq_true rfl⟩ rfl (Nat.le_of_ble_eq_true rfl) ⟨Nat.le_of_ble_eq_true rfl, Nat.le_of_ble_eq_true rfl⟩ ?_
  rintro _ _ ⟨rfl, rfl⟩
  show xV _ _ _ _ _ _ _ _ _ _ _ _ _ _ _ _ _ (xH D b σ) _ _ [.int (rel 5 (σ (oNum (oKno (oMem i)))) (σ (oNum (oKno (oMem j)))))]
  refine xi_iconst (v := nI 2) hC dX7_knowForkedVectors_21 (pc' := 22) rfl (by decide +kernel) ?_
  refine xi_icmpne (tgt := 29) hC dX7_knowForkedVectors_22 (pc' := 25) rfl (by decide) (fun zc22 => ?_) (fun zc22 => ?_)
  · skip
    refine xi_iconst (v := nI 0) hC dX7_knowForkedVectors_29 (pc' := 30) rfl (by decide +kernel) ?_
    refine xb_ireturn hC dX7_knowForkedVectors_30 hr (by decide) rfl ?_
    rw [hS.kk hR hi hj] at zc22
    exact ⟨by rw [bI_f (show ¬ fkQ S u i j from zc22)], rfl⟩
  · skip
    refine xi_iconst (v := nI 1) hC dX7_knowForkedVectors_25 (pc' := 26) rfl (by decide +kernel) ?_
    refine xi_goto (tgt := 30) hC dX7_knowForkedVectors_26 (by decide) ?_
    refine xb_ireturn hC dX7_knowForkedVectors_30 hr (by decide) rfl ?_
    rw [hS.kk hR hi hj] at zc22
    exact ⟨by rw [bI_t (show fkQ S u i j from zc22)], rfl⟩
set_option maxRecDepth 100000 in
set_option maxHeartbeats 4000000 in
theorem c_X7_forkedPairs (l : Launch) (D : XD) (b n : Nat) {σ S : XM} {N u w : Nat} (hS : SI N S u w) (hR : RR σ S u w) (hN : N + 1 < 2 ^ 31)  : xM l yX7_forkedPairs cX7_forkedPairs 4 (some .int) 2 46 0 0 D b n [.ref (b + 0)] (xH D b σ) n (fun y' h' => ∃ r : Int32, y' = some (.int r) ∧ (∀ r' : Int32, s_pairs S u r' → r = r') ∧ h' = xH D b σ) := by
  refine xM.of (lv := [some (.ref (b + 0)), none, none, none]) (by decide +kernel) rfl (List.forall_mem_cons.mpr ⟨rfl, fun _ h => absurd h List.not_mem_nil⟩) (Nat.le_of_ble_eq_true rfl) rfl ?_
  intro p e s m args below meth c hC hr hnm
  obtain ⟨hU, hn, hVw, hKp, hLt, hTx, hAl⟩ := id hS.1
  obtain ⟨hu, hu2, hu5⟩ := id hU
  obtain ⟨hn1, hw1, hw6⟩ := id hn
  obtain ⟨r3, r4, hMm, hVv, hTt⟩ := id hR
  refine xi_iconst (v := nI 0) hC dX7_forkedPairs_0 (pc' := 1) rfl (by decide +kernel) ?_
  refine xi_istore_n (lv' := [some (.ref (b + 0)), some (.int (nI 0)), none, none]) hC dX7_forkedPairs_1 (pc' := 2) rfl rfl (by decide) rfl ?_
  refine xi_iconst (v := nI 0) hC dX7_forkedPairs_2 (pc' := 3) rfl (by decide +kernel) ?_
  refine xi_istore_n (lv' := [some (.ref (b + 0)), some (.int (nI 0)), some (.int (nI 0)), none]) hC dX7_forkedPairs_3 (pc' := 4) rfl rfl (by decide) rfl ?_
  have L4 : ∀ (d : Nat) (i : Nat) (cn : Nat) (v3 : Option Value), u - i < d → (i ≤ u) → (cn = lcnt (fkQ S u) u i) → xV p l e (xR 2 46 0 0) s m args below meth c D b 4 0 0 (MQ below (xQ D b n (fun y' h' => ∃ r : Int32, y' = some (.int r) ∧ (∀ r' : Int32, s_pairs S u r' → r = r') ∧ h' = xH D b σ)) args s 0 0 (fun q => b ≤ q)) n (xH D b σ) 4 [some (.ref (b + 0)), some (.int (nI cn)), some (.int (nI i)), v3] [] := by
    intro d
    induction d with
    | zero => intro i cn v3 h; exact absurd h (Nat.not_lt_zero _)
    | succ d ih4 =>
      intro i cn v3 hd4 hi en
      refine xi_iload_n hC dX7_forkedPairs_4 (pc' := 5) rfl rfl rfl ?_
      refine xi_aload_n hC dX7_forkedPairs_5 (pc' := 6) rfl rfl rfl ?_
      refine xg7_users hC dX7_forkedPairs_6 (pc' := 9) rfl xw_f_X7_28 kd_0 ?_
      refine xtop (y := (nI u)) (r3) ?_
      refine xn_icmpge (tgt := 48) hC dX7_forkedPairs_9 (pc' := 12) rfl (by decide) (by omega) (by omega) (fun zc9 => ?_) (fun zc9 => ?_)
      · skip
        refine xi_iload_n hC dX7_forkedPairs_48 (pc' := 49) rfl rfl rfl ?_
        refine xi_ireturn hC dX7_forkedPairs_49 hr rfl ?_
        refine ⟨_, rfl, fun r' hs => ?_, rfl⟩
        rw [en, show i = u by omega, lcnt_eq fkQ_symm hu5]
        exact Eq.symm hs
      · skip
        refine xi_iload_n hC dX7_forkedPairs_12 (pc' := 13) rfl rfl rfl ?_
        refine xi_iconst (v := nI 1) hC dX7_forkedPairs_13 (pc' := 14) rfl (by decide +kernel) ?_
        refine xn_iadd hC dX7_forkedPairs_14 (pc' := 15) rfl ?_
        refine xi_istore_n (lv' := [some (.ref (b + 0)), some (.int (nI cn)), some (.int (nI i)), some (.int (nI (i + 1)))]) hC dX7_forkedPairs_15 (pc' := 16) rfl rfl (by decide) rfl ?_
        have L16 : ∀ (d : Nat) (j : Nat) (cm : Nat), u - j < d → (i + 1 + j ≤ u) → (cm = lcnt (fkQ S u) u i + xcnt (fun t => fkQ S u i (i + 1 + t)) j) → xV p l e (xR 2 46 0 0) s m args below meth c D b 4 0 0 (MQ below (xQ D b n (fun y' h' => ∃ r : Int32, y' = some (.int r) ∧ (∀ r' : Int32, s_pairs S u r' → r = r') ∧ h' = xH D b σ)) args s 0 0 (fun q => b ≤ q)) n (xH D b σ) 16 [some (.ref (b + 0)), some (.int (nI cm)), some (.int (nI i)), some (.int (nI (i + 1 + j)))] [] := by
          intro d
          induction d with
          | zero => intro j cm h; exact absurd h (Nat.not_lt_zero _)
          | succ d ih16 =>
            intro j cm hd16 hj em
            refine xi_iload_n hC dX7_forkedPairs_16 (pc' := 17) rfl rfl rfl ?_
            refine xi_aload_n hC dX7_forkedPairs_17 (pc' := 18) rfl rfl rfl ?_
            refine xg7_users hC dX7_forkedPairs_18 (pc' := 21) rfl xw_f_X7_28 kd_0 ?_
            refine xtop (y := (nI u)) (r3) ?_
            refine xn_icmpge (tgt := 42) hC dX7_forkedPairs_21 (pc' := 24) rfl (by decide) (by omega) (by omega) (fun zc21 => ?_) (fun zc21 => ?_)
            · skip
              refine xn_iinc (lv' := [some (.ref (b + 0)), some (.int (nI cm)), some (.int (nI (i + 1))), some (.int (nI (i + 1 + j)))]) hC dX7_forkedPairs_42 (pc' := 45) rfl rfl (by decide) rfl ?_
              refine xi_goto (tgt := 4) hC dX7_forkedPairs_45 (by decide) ?_
              refine ih4 _ _ _ (by omega) ?_ ?_
              · omega
              · rw [em, show j = u - 1 - i by omega]; rfl
            · skip
              refine xi_aload_n hC dX7_forkedPairs_24 (pc' := 25) rfl rfl rfl ?_
              refine xi_iload_n hC dX7_forkedPairs_25 (pc' := 26) rfl rfl rfl ?_
              refine xi_iload_n hC dX7_forkedPairs_26 (pc' := 27) rfl rfl rfl ?_
              refine xi_callV (As := [.int (nI i), .int (nI (i + 1 + j))]) (rest := []) (c_X7_knowForkedVectors l D b n (σ := σ) (S := S) (N := N) (u := u) (w := w) hS hR (i := i) (j := i + 1 + j) (by omega) (by omega)) hC dX7_forkedPairs_27 (pc' := 30) rfl xw_m_X7_214 xw_c_X7_knowForkedVectors xw_ins_X7_knowForkedVectors xw_sel_X7_knowForkedVectors xw_ini_X7 xd_X7_knowForkedVectors (xH_at.trans (xsh_7 kd_0)) rfl ⟨Nat.le_of_ble_eq_true rfl, Nat.le_of_ble_eq_true rfl⟩ rfl (Nat.le_of_ble_eq_true rfl) ⟨Nat.le_of_ble_eq_true rfl, Nat.le_of_ble_eq_true rfl⟩ ?_
              rintro _ _ ⟨rfl, rfl⟩
              show xV _ _ _ _ _ _ _ _ _ _ _ _ _ _ _ _ _ (xH D b σ) _ _ [.int (bI (fkQ S u i (i + 1 + j)))]
              refine xb_ifeq (tgt := 36) hC dX7_forkedPairs_30 (pc' := 33) rfl (by decide) (fun zc30 => ?_) (fun zc30 => ?_)
              · skip
                refine xn_iinc (lv' := [some (.ref (b + 0)), some (.int (nI cm)), some (.int (nI i)), some (.int (nI (i + 1 + j + 1)))]) hC dX7_forkedPairs_36 (pc' := 39) rfl rfl (by decide) rfl ?_
                refine xi_goto (tgt := 16) hC dX7_forkedPairs_39 (by decide) ?_
                refine ih16 (j + 1) _ (by omega) ?_ ?_
                · omega
                · first
                    | (have := xcnt_t (P := fun t => fkQ S u i (i + 1 + t)) (k := j) zc30
                       omega)
                    | (have := xcnt_f (P := fun t => fkQ S u i (i + 1 + t)) (k := j) zc30
                       omega)
              · skip
                refine xn_iinc (lv' := [some (.ref (b + 0)), some (.int (nI (cm + 1))), some (.int (nI i)), some (.int (nI (i + 1 + j)))]) hC dX7_forkedPairs_33 (pc' := 36) rfl rfl (by decide) rfl ?_
                refine xn_iinc (lv' := [some (.ref (b + 0)), some (.int (nI (cm + 1))), some (.int (nI i)), some (.int (nI (i + 1 + j + 1)))]) hC dX7_forkedPairs_36 (pc' := 39) rfl rfl (by decide) rfl ?_
                refine xi_goto (tgt := 16) hC dX7_forkedPairs_39 (by decide) ?_
                refine ih16 (j + 1) _ (by omega) ?_ ?_
                · omega
                · first
                    | (have := xcnt_t (P := fun t => fkQ S u i (i + 1 + t)) (k := j) zc30
                       omega)
                    | (have := xcnt_f (P := fun t => fkQ S u i (i + 1 + t)) (k := j) zc30
                       omega)
        refine L16 _ 0 _ (Nat.lt_succ_self _) ?_ ?_
        · omega
        · exact en
  refine L4 _ _ _ _ (Nat.lt_succ_self _) ?_ ?_
  · omega
  · rfl
set_option maxRecDepth 100000 in
set_option maxHeartbeats 4000000 in
theorem c_X7_tellingLetter (l : Launch) (D : XD) (b n : Nat) {σ S : XM} {N u w : Nat} (hS : SI N S u w) (hR : RR σ S u w) (hN : N + 1 < 2 ^ 31)  : xM l yX7_tellingLetter cX7_tellingLetter 3 (some .int) 2 46 0 0 D b n [.ref (b + 0)] (xH D b σ) n (fun y' h' => ∃ r : Int32, y' = some (.int r) ∧ (∀ r' : Int32, s_tell S u r' → r = r') ∧ h' = xH D b σ) := by
  refine xM.of (lv := [some (.ref (b + 0)), none, none]) (by decide +kernel) rfl (List.forall_mem_cons.mpr ⟨rfl, fun _ h => absurd h List.not_mem_nil⟩) (Nat.le_of_ble_eq_true rfl) rfl ?_
  intro p e s m args below meth c hC hr hnm
  obtain ⟨hU, hn, hVw, hKp, hLt, hTx, hAl⟩ := id hS.1
  obtain ⟨hu, hu2, hu5⟩ := id hU
  obtain ⟨hn1, hw1, hw6⟩ := id hn
  obtain ⟨r3, r4, hMm, hVv, hTt⟩ := id hR
  refine xi_iconst (v := nI 0) hC dX7_tellingLetter_0 (pc' := 1) rfl (by decide +kernel) ?_
  refine xi_istore_n (lv' := [some (.ref (b + 0)), some (.int (nI 0)), none]) hC dX7_tellingLetter_1 (pc' := 2) rfl rfl (by decide) rfl ?_
  have L2 : ∀ (d : Nat) (i : Nat) (v2 : Option Value), u - i < d → (i ≤ u) → (∀ a c, a < i → c < u → ¬ tlQ S u a c) → xV p l e (xR 2 46 0 0) s m args below meth c D b 3 0 0 (MQ below (xQ D b n (fun y' h' => ∃ r : Int32, y' = some (.int r) ∧ (∀ r' : Int32, s_tell S u r' → r = r') ∧ h' = xH D b σ)) args s 0 0 (fun q => b ≤ q)) n (xH D b σ) 2 [some (.ref (b + 0)), some (.int (nI i)), v2] [] := by
    intro d
    induction d with
    | zero => intro i v2 h; exact absurd h (Nat.not_lt_zero _)
    | succ d ih2 =>
      intro i v2 hd2 hi h1
      refine xi_iload_n hC dX7_tellingLetter_2 (pc' := 3) rfl rfl rfl ?_
      refine xi_aload_n hC dX7_tellingLetter_3 (pc' := 4) rfl rfl rfl ?_
      refine xg7_users hC dX7_tellingLetter_4 (pc' := 7) rfl xw_f_X7_28 kd_0 ?_
      refine xtop (y := (nI u)) (r3) ?_
      refine xn_icmpge (tgt := 60) hC dX7_tellingLetter_7 (pc' := 10) rfl (by decide) (by omega) (by omega) (fun zc7 => ?_) (fun zc7 => ?_)
      · skip
        refine xi_sipush (v := -10005) hC dX7_tellingLetter_60 (pc' := 63) rfl (by decide +kernel) ?_
        refine xi_ireturn hC dX7_tellingLetter_63 hr rfl ?_
        exact ⟨_, rfl, fun r' hs => Eq.symm (hs.2 (fun i' j' q1 q2 => h1 i' j' (by omega) q2)), rfl⟩
      · skip
        refine xi_iconst (v := nI 0) hC dX7_tellingLetter_10 (pc' := 11) rfl (by decide +kernel) ?_
        refine xi_istore_n (lv' := [some (.ref (b + 0)), some (.int (nI i)), some (.int (nI 0))]) hC dX7_tellingLetter_11 (pc' := 12) rfl rfl (by decide) rfl ?_
        have L12 : ∀ (d : Nat) (j : Nat), u - j < d → (j ≤ u) → (∀ c, c < j → ¬ tlQ S u i c) → xV p l e (xR 2 46 0 0) s m args below meth c D b 3 0 0 (MQ below (xQ D b n (fun y' h' => ∃ r : Int32, y' = some (.int r) ∧ (∀ r' : Int32, s_tell S u r' → r = r') ∧ h' = xH D b σ)) args s 0 0 (fun q => b ≤ q)) n (xH D b σ) 12 [some (.ref (b + 0)), some (.int (nI i)), some (.int (nI j))] [] := by
          intro d
          induction d with
          | zero => intro j h; exact absurd h (Nat.not_lt_zero _)
          | succ d ih12 =>
            intro j hd12 hj h2
            refine xi_iload_n hC dX7_tellingLetter_12 (pc' := 13) rfl rfl rfl ?_
            refine xi_aload_n hC dX7_tellingLetter_13 (pc' := 14) rfl rfl rfl ?_
            refine xg7_users hC dX7_tellingLetter_14 (pc' := 17) rfl xw_f_X7_28 kd_0 ?_
            refine xtop (y := (nI u)) (r3) ?_
            refine xn_icmpge (tgt := 54) hC dX7_tellingLetter_17 (pc' := 20) rfl (by decide) (by omega) (by omega) (fun zc17 => ?_) (fun zc17 => ?_)
            · skip
              refine xn_iinc (lv' := [some (.ref (b + 0)), some (.int (nI (i + 1))), some (.int (nI j))]) hC dX7_tellingLetter_54 (pc' := 57) rfl rfl (by decide) rfl ?_
              refine xi_goto (tgt := 2) hC dX7_tellingLetter_57 (by decide) ?_
              refine ih2 _ _ (by omega) ?_ ?_
              · omega
              · intro a c q r
                rcases Nat.lt_or_ge a i with z | z
                · exact h1 a c z r
                · rw [show a = i by omega]; exact h2 c (by omega)
            · skip
              refine xi_aload_n hC dX7_tellingLetter_20 (pc' := 21) rfl rfl rfl ?_
              refine xg7_members hC dX7_tellingLetter_21 (pc' := 24) rfl xw_f_X7_11 kd_0 ?_
              refine xi_iload_n hC dX7_tellingLetter_24 (pc' := 25) rfl rfl rfl ?_
              refine xa_members hC dX7_tellingLetter_25 (pc' := 26) rfl kd_oMs rfl (by omega) ?_
              refine xg2_alarm hC dX7_tellingLetter_26 (pc' := 29) rfl xw_f_X7_45 (kd_oMem (by omega)) ?_
              refine xi_ifne (tgt := 48) hC dX7_tellingLetter_29 (pc' := 32) rfl (by decide) (fun zc29 => ?_) (fun zc29 => ?_)
              · skip
                refine xn_iinc (lv' := [some (.ref (b + 0)), some (.int (nI i)), some (.int (nI (j + 1)))]) hC dX7_tellingLetter_48 (pc' := 51) rfl rfl (by decide) rfl ?_
                refine xi_goto (tgt := 12) hC dX7_tellingLetter_51 (by decide) ?_
                refine ih12 _ (by omega) ?_ ?_
                · omega
                · intro c q
                  rcases Nat.lt_or_ge c j with z | z
                  · exact h2 c z
                  · rw [show c = j by omega]
                    first
                      | exact fun r => zc29 ((hMm j (by omega)).1.2.1.trans r.1)
                      | exact fun r => zc38 r.2
              · skip
                refine xi_aload_n hC dX7_tellingLetter_32 (pc' := 33) rfl rfl rfl ?_
                refine xi_iload_n hC dX7_tellingLetter_33 (pc' := 34) rfl rfl rfl ?_
                refine xi_iload_n hC dX7_tellingLetter_34 (pc' := 35) rfl rfl rfl ?_
                refine xi_callV (As := [.int (nI i), .int (nI j)]) (rest := []) (c_X7_knowForkedVectors l D b n (σ := σ) (S := S) (N := N) (u := u) (w := w) hS hR (i := i) (j := j) (by omega) (by omega)) hC dX7_tellingLetter_35 (pc' := 38) rfl xw_m_X7_214 xw_c_X7_knowForkedVectors xw_ins_X7_knowForkedVectors xw_sel_X7_knowForkedVectors xw_ini_X7 xd_X7_knowForkedVectors (xH_at.trans (xsh_7 kd_0)) rfl ⟨Nat.le_of_ble_eq_true rfl, Nat.le_of_ble_eq_true rfl⟩ rfl (Nat.le_of_ble_eq_true rfl) ⟨Nat.le_of_ble_eq_true rfl, Nat.le_of_ble_eq_true rfl⟩ ?_
                rintro _ _ ⟨rfl, rfl⟩
                show xV _ _ _ _ _ _ _ _ _ _ _ _ _ _ _ _ _ (xH D b σ) _ _ [.int (bI (fkQ S u i j))]
                refine xb_ifeq (tgt := 48) hC dX7_tellingLetter_38 (pc' := 41) rfl (by decide) (fun zc38 => ?_) (fun zc38 => ?_)
                · skip
                  refine xn_iinc (lv' := [some (.ref (b + 0)), some (.int (nI i)), some (.int (nI (j + 1)))]) hC dX7_tellingLetter_48 (pc' := 51) rfl rfl (by decide) rfl ?_
                  refine xi_goto (tgt := 12) hC dX7_tellingLetter_51 (by decide) ?_
                  refine ih12 _ (by omega) ?_ ?_
                  · omega
                  · intro c q
                    rcases Nat.lt_or_ge c j with z | z
                    · exact h2 c z
                    · rw [show c = j by omega]
                      first
                        | exact fun r => zc29 ((hMm j (by omega)).1.2.1.trans r.1)
                        | exact fun r => zc38 r.2
                · skip
                  refine xi_bipush (v := nI 10) hC dX7_tellingLetter_41 (pc' := 43) rfl (by decide +kernel) ?_
                  refine xi_iload_n hC dX7_tellingLetter_43 (pc' := 44) rfl rfl rfl ?_
                  refine xn_imul hC dX7_tellingLetter_44 (pc' := 45) rfl ?_
                  refine xi_iload_n hC dX7_tellingLetter_45 (pc' := 46) rfl rfl rfl ?_
                  refine xn_iadd hC dX7_tellingLetter_46 (pc' := 47) rfl ?_
                  refine xi_ireturn hC dX7_tellingLetter_47 hr rfl ?_
                  refine ⟨_, rfl, fun r' hs => ?_, rfl⟩
                  have hq : tlQ S u i j := ⟨(hMm j (by omega)).1.2.1.symm.trans zc29, zc38⟩
                  refine Eq.symm (hs.1 i j ⟨by omega, by omega, hq, fun a c ha hc q => ?_⟩)
                  rcases Nat.lt_or_ge a i with z | z
                  · exact absurd q (h1 a c z hc)
                  · rcases Nat.lt_or_ge i a with z2 | z2
                    · exact Or.inl z2
                    · obtain rfl : a = i := by omega
                      refine Or.inr ⟨rfl, ?_⟩
                      rcases Nat.lt_or_ge c j with z3 | z3
                      · exact absurd q (h2 c z3)
                      · exact z3
        refine L12 _ _ (Nat.lt_succ_self _) ?_ ?_
        · omega
        · intro c q; exact absurd q (Nat.not_lt_zero _)
  refine L2 _ _ _ (Nat.lt_succ_self _) ?_ ?_
  · omega
  · intro a c q; exact absurd q (Nat.not_lt_zero _)
set_option maxRecDepth 100000 in
set_option maxHeartbeats 4000000 in
theorem c_X7_isUnaware (l : Launch) (D : XD) (b n : Nat) {σ S : XM} {N u w : Nat} (hS : SI N S u w) (hR : RR σ S u w) (hN : N + 1 < 2 ^ 31) {i : Nat} (hi : i < u) : xM l yX7_isUnaware cX7_isUnaware 3 (some .boolean) 3 69 0 0 D b n [.ref (b + 0), .int (nI i)] (xH D b σ) n (fun y' h' => y' = some (.int (bI (unQ S u i))) ∧ h' = xH D b σ) := by
  refine xM.of (lv := [some (.ref (b + 0)), some (.int (nI i)), none]) (by decide +kernel) rfl (List.forall_mem_cons.mpr ⟨rfl, List.forall_mem_cons.mpr ⟨rfl, fun _ h => absurd h List.not_mem_nil⟩⟩) (Nat.le_of_ble_eq_true rfl) rfl ?_
  intro p e s m args below meth c hC hr hnm
  obtain ⟨hU, hn, hVw, hKp, hLt, hTx, hAl⟩ := id hS.1
  obtain ⟨hu, hu2, hu5⟩ := id hU
  obtain ⟨hn1, hw1, hw6⟩ := id hn
  obtain ⟨r3, r4, hMm, hVv, hTt⟩ := id hR
  obtain ⟨v, hvw, hV⟩ := hVw i (by omega)
  refine xi_aload_n hC dX7_isUnaware_0 (pc' := 1) rfl rfl rfl ?_
  refine xg7_members hC dX7_isUnaware_1 (pc' := 4) rfl xw_f_X7_11 kd_0 ?_
  refine xi_iload_n hC dX7_isUnaware_4 (pc' := 5) rfl rfl rfl ?_
  refine xa_members hC dX7_isUnaware_5 (pc' := 6) rfl kd_oMs rfl (by omega) ?_
  refine xg2_alarm hC dX7_isUnaware_6 (pc' := 9) rfl xw_f_X7_45 (kd_oMem (by omega)) ?_
  refine xi_ifne (tgt := 20) hC dX7_isUnaware_9 (pc' := 12) rfl (by decide) (fun zc9 => ?_) (fun zc9 => ?_)
  · skip
    refine xi_iconst (v := nI 0) hC dX7_isUnaware_20 (pc' := 21) rfl (by decide +kernel) ?_
    refine xb_ireturn hC dX7_isUnaware_21 hr (by decide) rfl ?_
    exact ⟨by rw [bI_f (show ¬ unQ S u i from fun q => by first | exact zc17 (q.2.1 v (by omega) hV) | exact zc9 ((hMm i (by omega)).1.2.1.trans q.1))], rfl⟩
  · skip
    refine xi_aload_n hC dX7_isUnaware_12 (pc' := 13) rfl rfl rfl ?_
    refine xi_iload_n hC dX7_isUnaware_13 (pc' := 14) rfl rfl rfl ?_
    refine xi_callV (As := [.int (nI i)]) (rest := []) (c_X7_alarmAhead l D b n (σ := σ) (S := S) (N := N) (u := u) (w := w) (i := i) (v := v) hS hR hN hi hvw hV) hC dX7_isUnaware_14 (pc' := 17) rfl xw_m_X7_73 xw_c_X7_alarmAhead xw_ins_X7_alarmAhead xw_sel_X7_alarmAhead xw_ini_X7 xd_X7_alarmAhead (xH_at.trans (xsh_7 kd_0)) rfl ⟨Nat.le_of_ble_eq_true rfl, Nat.le_of_ble_eq_true rfl⟩ rfl (Nat.le_of_ble_eq_true rfl) ⟨Nat.le_of_ble_eq_true rfl, Nat.le_of_ble_eq_true rfl⟩ ?_
    rintro _ _ ⟨rfl, rfl⟩
    show xV _ _ _ _ _ _ _ _ _ _ _ _ _ _ _ _ _ (xH D b σ) _ _ [.int (nI (al S u v i))]
    have hal4 := al_lt S u v i
    refine xn_ifeq (tgt := 22) hC dX7_isUnaware_17 (pc' := 20) rfl (by decide) (by omega) (fun zc17 => ?_) (fun zc17 => ?_)
    · skip
      refine xi_iconst (v := nI 0) hC dX7_isUnaware_22 (pc' := 23) rfl (by decide +kernel) ?_
      refine xi_istore_n (lv' := [some (.ref (b + 0)), some (.int (nI i)), some (.int (nI 0))]) hC dX7_isUnaware_23 (pc' := 24) rfl rfl (by decide) rfl ?_
      have L24 : ∀ (d : Nat) (j : Nat), u - j < d → (j ≤ u) → (∀ c, c < j → ¬ rel u (rK S i) (rK S c) = 2) → xV p l e (xR 3 69 0 0) s m args below meth c D b 3 0 0 (MQ below (xQ D b n (fun y' h' => y' = some (.int (bI (unQ S u i))) ∧ h' = xH D b σ)) args s 0 0 (fun q => b ≤ q)) n (xH D b σ) 24 [some (.ref (b + 0)), some (.int (nI i)), some (.int (nI j))] [] := by
        intro d
        induction d with
        | zero => intro j h; exact absurd h (Nat.not_lt_zero _)
        | succ d ih24 =>
          intro j hd24 hj h2
          refine xi_iload_n hC dX7_isUnaware_24 (pc' := 25) rfl rfl rfl ?_
          refine xi_aload_n hC dX7_isUnaware_25 (pc' := 26) rfl rfl rfl ?_
          refine xg7_users hC dX7_isUnaware_26 (pc' := 29) rfl xw_f_X7_28 kd_0 ?_
          refine xtop (y := (nI u)) (r3) ?_
          refine xn_icmpge (tgt := 49) hC dX7_isUnaware_29 (pc' := 32) rfl (by decide) (by omega) (by omega) (fun zc29 => ?_) (fun zc29 => ?_)
          · skip
            refine xi_iconst (v := nI 1) hC dX7_isUnaware_49 (pc' := 50) rfl (by decide +kernel) ?_
            refine xb_ireturn hC dX7_isUnaware_50 hr (by decide) rfl ?_
            have hq : unQ S u i := ⟨(hMm i (by omega)).1.2.1.symm.trans zc9, fun v' hv' e => by
              obtain rfl := nI_inj (by omega) (by omega) (hV.symm.trans e)
              exact zc17, fun c hc => h2 c (by omega)⟩
            exact ⟨by rw [bI_t hq], rfl⟩
          · skip
            refine xi_aload_n hC dX7_isUnaware_32 (pc' := 33) rfl rfl rfl ?_
            refine xi_iload_n hC dX7_isUnaware_33 (pc' := 34) rfl rfl rfl ?_
            refine xi_iload_n hC dX7_isUnaware_34 (pc' := 35) rfl rfl rfl ?_
            refine xi_callV (As := [.int (nI i), .int (nI j)]) (rest := []) (c_X7_knowForkedVectors l D b n (σ := σ) (S := S) (N := N) (u := u) (w := w) hS hR (i := i) (j := j) (by omega) (by omega)) hC dX7_isUnaware_35 (pc' := 38) rfl xw_m_X7_214 xw_c_X7_knowForkedVectors xw_ins_X7_knowForkedVectors xw_sel_X7_knowForkedVectors xw_ini_X7 xd_X7_knowForkedVectors (xH_at.trans (xsh_7 kd_0)) rfl ⟨Nat.le_of_ble_eq_true rfl, Nat.le_of_ble_eq_true rfl⟩ rfl (Nat.le_of_ble_eq_true rfl) ⟨Nat.le_of_ble_eq_true rfl, Nat.le_of_ble_eq_true rfl⟩ ?_
            rintro _ _ ⟨rfl, rfl⟩
            show xV _ _ _ _ _ _ _ _ _ _ _ _ _ _ _ _ _ (xH D b σ) _ _ [.int (bI (fkQ S u i j))]
            refine xb_ifeq (tgt := 43) hC dX7_isUnaware_38 (pc' := 41) rfl (by decide) (fun zc38 => ?_) (fun zc38 => ?_)
            · skip
              refine xn_iinc (lv' := [some (.ref (b + 0)), some (.int (nI i)), some (.int (nI (j + 1)))]) hC dX7_isUnaware_43 (pc' := 46) rfl rfl (by decide) rfl ?_
              refine xi_goto (tgt := 24) hC dX7_isUnaware_46 (by decide) ?_
              refine ih24 _ (by omega) ?_ ?_
              · omega
              · intro c q
                rcases Nat.lt_or_ge c j with z | z
                · exact h2 c z
                · rw [show c = j by omega]; exact zc38
            · skip
              refine xi_iconst (v := nI 0) hC dX7_isUnaware_41 (pc' := 42) rfl (by decide +kernel) ?_
              refine xb_ireturn hC dX7_isUnaware_42 hr (by decide) rfl ?_
              exact ⟨by rw [bI_f (fun q => q.2.2 j (by omega) zc38)], rfl⟩
      refine L24 _ _ (Nat.lt_succ_self _) ?_ ?_
      · omega
      · intro c q; exact absurd q (Nat.not_lt_zero _)
    · skip
      refine xi_iconst (v := nI 0) hC dX7_isUnaware_20 (pc' := 21) rfl (by decide +kernel) ?_
      refine xb_ireturn hC dX7_isUnaware_21 hr (by decide) rfl ?_
      exact ⟨by rw [bI_f (show ¬ unQ S u i from fun q => by first | exact zc17 (q.2.1 v (by omega) hV) | exact zc9 ((hMm i (by omega)).1.2.1.trans q.1))], rfl⟩
set_option maxRecDepth 100000 in
set_option maxHeartbeats 4000000 in
theorem c_X7_unaware (l : Launch) (D : XD) (b n : Nat) {σ S : XM} {N u w : Nat} (hS : SI N S u w) (hR : RR σ S u w) (hN : N + 1 < 2 ^ 31)  : xM l yX7_unaware cX7_unaware 3 (some .int) 4 91 0 0 D b n [.ref (b + 0)] (xH D b σ) n (fun y' h' => ∃ r : Int32, y' = some (.int r) ∧ (∀ (r' : Int32) (T : XM), s_unaware S u r' T → r = r') ∧ h' = xH D b σ) := by
  refine xM.of (lv := [some (.ref (b + 0)), none, none]) (by decide +kernel) rfl (List.forall_mem_cons.mpr ⟨rfl, fun _ h => absurd h List.not_mem_nil⟩) (Nat.le_of_ble_eq_true rfl) rfl ?_
  intro p e s m args below meth c hC hr hnm
  obtain ⟨hU, hn, hVw, hKp, hLt, hTx, hAl⟩ := id hS.1
  obtain ⟨hu, hu2, hu5⟩ := id hU
  obtain ⟨hn1, hw1, hw6⟩ := id hn
  obtain ⟨r3, r4, hMm, hVv, hTt⟩ := id hR
  refine xi_iconst (v := nI 0) hC dX7_unaware_0 (pc' := 1) rfl (by decide +kernel) ?_
  refine xi_istore_n (lv' := [some (.ref (b + 0)), some (.int (nI 0)), none]) hC dX7_unaware_1 (pc' := 2) rfl rfl (by decide) rfl ?_
  refine xi_iconst (v := nI 0) hC dX7_unaware_2 (pc' := 3) rfl (by decide +kernel) ?_
  refine xi_istore_n (lv' := [some (.ref (b + 0)), some (.int (nI 0)), some (.int (nI 0))]) hC dX7_unaware_3 (pc' := 4) rfl rfl (by decide) rfl ?_
  have L4 : ∀ (d : Nat) (j : Nat) (a : Int32), u - j < d → (j ≤ u) → (a = bitM (unQ S u) j) → xV p l e (xR 4 91 0 0) s m args below meth c D b 3 0 0 (MQ below (xQ D b n (fun y' h' => ∃ r : Int32, y' = some (.int r) ∧ (∀ (r' : Int32) (T : XM), s_unaware S u r' T → r = r') ∧ h' = xH D b σ)) args s 0 0 (fun q => b ≤ q)) n (xH D b σ) 4 [some (.ref (b + 0)), some (.int a), some (.int (nI j))] [] := by
    intro d
    induction d with
    | zero => intro j a h; exact absurd h (Nat.not_lt_zero _)
    | succ d ih4 =>
      intro j a hd4 hj ea
      refine xi_iload_n hC dX7_unaware_4 (pc' := 5) rfl rfl rfl ?_
      refine xi_aload_n hC dX7_unaware_5 (pc' := 6) rfl rfl rfl ?_
      refine xg7_users hC dX7_unaware_6 (pc' := 9) rfl xw_f_X7_28 kd_0 ?_
      refine xtop (y := (nI u)) (r3) ?_
      refine xn_icmpge (tgt := 32) hC dX7_unaware_9 (pc' := 12) rfl (by decide) (by omega) (by omega) (fun zc9 => ?_) (fun zc9 => ?_)
      · skip
        refine xi_iload_n hC dX7_unaware_32 (pc' := 33) rfl rfl rfl ?_
        refine xi_ireturn hC dX7_unaware_33 hr rfl ?_
        refine ⟨_, rfl, fun r' T hs => ?_, rfl⟩
        rw [ea, show j = u by omega]
        exact Eq.symm hs.2
      · skip
        refine xi_aload_n hC dX7_unaware_12 (pc' := 13) rfl rfl rfl ?_
        refine xi_iload_n hC dX7_unaware_13 (pc' := 14) rfl rfl rfl ?_
        refine xi_callV (As := [.int (nI j)]) (rest := []) (c_X7_isUnaware l D b n (σ := σ) (S := S) (N := N) (u := u) (w := w) hS hR hN (i := j) (by omega)) hC dX7_unaware_14 (pc' := 17) rfl xw_m_X7_217 xw_c_X7_isUnaware xw_ins_X7_isUnaware xw_sel_X7_isUnaware xw_ini_X7 xd_X7_isUnaware (xH_at.trans (xsh_7 kd_0)) rfl ⟨Nat.le_of_ble_eq_true rfl, Nat.le_of_ble_eq_true rfl⟩ rfl (Nat.le_of_ble_eq_true rfl) ⟨Nat.le_of_ble_eq_true rfl, Nat.le_of_ble_eq_true rfl⟩ ?_
        rintro _ _ ⟨rfl, rfl⟩
        show xV _ _ _ _ _ _ _ _ _ _ _ _ _ _ _ _ _ (xH D b σ) _ _ [.int (bI (unQ S u j))]
        refine xb_ifeq (tgt := 26) hC dX7_unaware_17 (pc' := 20) rfl (by decide) (fun zc17 => ?_) (fun zc17 => ?_)
        · skip
          refine xn_iinc (lv' := [some (.ref (b + 0)), some (.int a), some (.int (nI (j + 1)))]) hC dX7_unaware_26 (pc' := 29) rfl rfl (by decide) rfl ?_
          refine xi_goto (tgt := 4) hC dX7_unaware_29 (by decide) ?_
          refine ih4 _ _ (by omega) ?_ ?_
          · omega
          · first
              | (rw [bitM_t zc17, ea])
              | (rw [bitM_f zc17, ea])
        · skip
          refine xi_iload_n hC dX7_unaware_20 (pc' := 21) rfl rfl rfl ?_
          refine xi_iconst (v := nI 1) hC dX7_unaware_21 (pc' := 22) rfl (by decide +kernel) ?_
          refine xi_iload_n hC dX7_unaware_22 (pc' := 23) rfl rfl rfl ?_
          refine xi_ishl hC dX7_unaware_23 (pc' := 24) rfl ?_
          refine xi_ior hC dX7_unaware_24 (pc' := 25) rfl ?_
          refine xi_istore_n (lv' := [some (.ref (b + 0)), some (.int (a ||| ((nI 1) <<< ((nI j) &&& 31)))), some (.int (nI j))]) hC dX7_unaware_25 (pc' := 26) rfl rfl (by decide) rfl ?_
          refine xn_iinc (lv' := [some (.ref (b + 0)), some (.int (a ||| ((nI 1) <<< ((nI j) &&& 31)))), some (.int (nI (j + 1)))]) hC dX7_unaware_26 (pc' := 29) rfl rfl (by decide) rfl ?_
          refine xi_goto (tgt := 4) hC dX7_unaware_29 (by decide) ?_
          refine ih4 _ _ (by omega) ?_ ?_
          · omega
          · first
              | (rw [bitM_t zc17, ea])
              | (rw [bitM_f zc17, ea])
  refine L4 _ _ _ (Nat.lt_succ_self _) ?_ ?_
  · omega
  · rfl
