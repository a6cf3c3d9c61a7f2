/-! ===== p29: most, read, alarm ===== -/
theorem RR.hi {σ σ' T : XM} {u w : Nat} (h : RR σ T u w) (hw : w ≤ 6) (e : ∀ o, o < 585 → σ' o = σ o) : RR σ' T u w :=
  ⟨by rw [e 0 (by decide)]; exact h.1, by rw [e 0 (by decide)]; exact h.2.1, fun i hi => (h.2.2.1 i hi).of (fun o o1 o2 => e o (by simp only [oMem] at o2; omega)) MS.rf, fun v hv => (h.2.2.2.1 v hv).of (fun o o1 o2 => e o (by simp only [oVw] at o2; omega)) VS.rf, h.2.2.2.2.of (e _ (by decide)) (e _ (by decide)) rfl rfl⟩
set_option maxRecDepth 100000 in
set_option maxHeartbeats 8000000 in
theorem c_L_most (l : Launch) (D : XD) (b n : Nat) {σ : XM} {ta tb u : Nat} (ha : 585 ≤ ta) (hb : 585 ≤ tb) (la : σ ta 4096 = nI 8) (lb : σ tb 4096 = nI 8) (hu : u ≤ 8) : xM l yL_most cL_most 4 (some .boolean) 0 0 0 0 D b (n) [.ref (b + ta), .ref (b + tb), .int (nI u)] (xH D b σ) (n) (fun y' h' => y' = some (.int (bI (vle u (σ ta) (σ tb)))) ∧ h' = xH D b σ) := by
  refine xM.of (lv := [some (.ref (b + ta)), some (.ref (b + tb)), some (.int (nI u)), none]) (by decide +kernel) rfl (List.forall_mem_cons.mpr ⟨rfl, List.forall_mem_cons.mpr ⟨rfl, List.forall_mem_cons.mpr ⟨rfl, fun _ h => absurd h List.not_mem_nil⟩⟩⟩) (Nat.le_of_ble_eq_true rfl) rfl ?_
  intro p e s m args below meth c hC hr hnm
  refine xi_iconst (v := nI 0) hC dL_most_0 (pc' := 1) rfl (by decide +kernel) ?_
  refine xi_istore_n (lv' := [some (.ref (b + ta)), some (.ref (b + tb)), some (.int (nI u)), some (.int (nI 0))]) hC dL_most_1 (pc' := 2) rfl rfl (by decide) rfl ?_
  have L2 : ∀ (d : Nat) (j : Nat), u - j < d → (j ≤ u) → (∀ k, k < j → σ ta k ≤ σ tb k) → xV p l e (xR 0 0 0 0) s m args below meth c D b 4 0 0 (MQ below (xQ D b (n) (fun y' h' => y' = some (.int (bI (vle u (σ ta) (σ tb)))) ∧ h' = xH D b σ)) args s 0 0 (fun q => b ≤ q)) (n) (xH D b σ) 2 [some (.ref (b + ta)), some (.ref (b + tb)), some (.int (nI u)), some (.int (nI j))] [] := by
    intro d
    induction d with
    | zero => intro j h; exact absurd h (Nat.not_lt_zero _)
    | succ d ih2 =>
      intro j hd2 hj hle
      refine xi_iload_n hC dL_most_2 (pc' := 3) rfl rfl rfl ?_
      refine xi_iload_n hC dL_most_3 (pc' := 4) rfl rfl rfl ?_
      refine xn_icmpge (tgt := 24) hC dL_most_4 (pc' := 7) rfl (by decide) (by omega) (by omega) (fun zc4 => ?_) (fun zc4 => ?_)
      · skip
        refine xi_iconst (v := nI 1) hC dL_most_24 (pc' := 25) rfl (by decide +kernel) ?_
        refine xb_ireturn hC dL_most_25 hr (by decide) rfl ?_
        exact ⟨by rw [bI_t (P := vle u (σ ta) (σ tb)) (fun k hk => hle k (by omega))], rfl⟩
      · skip
        refine xi_aload_n hC dL_most_7 (pc' := 8) rfl rfl rfl ?_
        refine xi_iload_n hC dL_most_8 (pc' := 9) rfl rfl rfl ?_
        refine xl_L hC dL_most_9 (pc' := 10) rfl ha (by decide : (8 : Nat) = 8 ∨ (8 : Nat) = 36) la rfl (by omega) ?_
        refine xi_aload_n hC dL_most_10 (pc' := 11) rfl rfl rfl ?_
        refine xi_iload_n hC dL_most_11 (pc' := 12) rfl rfl rfl ?_
        refine xl_L hC dL_most_12 (pc' := 13) rfl hb (by decide : (8 : Nat) = 8 ∨ (8 : Nat) = 36) lb rfl (by omega) ?_
        refine xi_icmple (tgt := 18) hC dL_most_13 (pc' := 16) rfl (by decide) (fun zc13 => ?_) (fun zc13 => ?_)
        · skip
          refine xn_iinc (lv' := [some (.ref (b + ta)), some (.ref (b + tb)), some (.int (nI u)), some (.int (nI (j + 1)))]) hC dL_most_18 (pc' := 21) rfl rfl (by decide) rfl ?_
          refine xi_goto (tgt := 2) hC dL_most_21 (by decide) ?_
          refine ih2 (j + 1) (by omega) ?_ ?_
          · omega
          · exact fun k hk => by
              rcases Nat.lt_or_ge k j with z | z
              · exact hle k z
              · rw [show k = j by omega]; exact zc13
        · skip
          refine xi_iconst (v := nI 0) hC dL_most_16 (pc' := 17) rfl (by decide +kernel) ?_
          refine xb_ireturn hC dL_most_17 hr (by decide) rfl ?_
          exact ⟨by rw [bI_f (P := vle u (σ ta) (σ tb)) (fun q => zc13 (q j (by omega)))], rfl⟩
  refine L2 _ 0 (Nat.lt_succ_self _) ?_ ?_
  · omega
  · exact fun k hk => absurd hk (Nat.not_lt_zero _)

set_option maxRecDepth 100000 in
set_option maxHeartbeats 8000000 in
theorem c_L_readv (l : Launch) (D : XD) (b n : Nat) {σ S : XM} {N u w : Nat} (hS : SI N S u w) (hR : RR σ S u w) (hN : N + 1 < 2 ^ 31) {t : Nat} (ht : 585 ≤ t) (lt : σ t 4096 = nI 8) {z i : Nat} {f : Nat → Int32} (hz : z ≤ 3) (hf : ∀ k, k < u → s_vector S u (nI i) (nI z) (nI k) (f k)) : xM l yL_read cL_read 6 none 2 45 0 0 D b (n) [.ref (b + 0), .int (nI z), .int (nI i), .int (nI u), .ref (b + t)] (xH D b σ) (n) (fun y' h' => ∃ τ : XM, y' = none ∧ (∀ o, o ≠ t → τ o = σ o) ∧ (∀ k, k < u → τ t k = f k) ∧ τ t 4096 = nI 8 ∧ h' = xH D b τ) := by
  refine xM.of (lv := [some (.ref (b + 0)), some (.int (nI z)), some (.int (nI i)), some (.int (nI u)), some (.ref (b + t)), none]) (by decide +kernel) rfl (List.forall_mem_cons.mpr ⟨rfl, List.forall_mem_cons.mpr ⟨rfl, List.forall_mem_cons.mpr ⟨rfl, List.forall_mem_cons.mpr ⟨rfl, List.forall_mem_cons.mpr ⟨rfl, fun _ h => absurd h List.not_mem_nil⟩⟩⟩⟩⟩) (Nat.le_of_ble_eq_true rfl) rfl ?_
  intro p e s m args below meth c hC hr hnm
  have hu := hS.1.1.2
  have hw := hS.1.2.1.2
  refine xi_iconst (v := nI 0) hC dL_read_0 (pc' := 1) rfl (by decide +kernel) ?_
  refine xi_istore (lv' := [some (.ref (b + 0)), some (.int (nI z)), some (.int (nI i)), some (.int (nI u)), some (.ref (b + t)), some (.int (nI 0))]) hC dL_read_1 (pc' := 3) rfl (by decide) rfl ?_
  have L3 : ∀ (d : Nat) (j : Nat) (τ : XM), u - j < d → (j ≤ u) → (∀ o, o ≠ t → τ o = σ o) → (∀ k, k < j → τ t k = f k) → (τ t 4096 = nI 8) → xV p l e (xR 2 45 0 0) s m args below meth c D b 6 0 0 (MQ below (xQ D b (n) (fun y' h' => ∃ τ : XM, y' = none ∧ (∀ o, o ≠ t → τ o = σ o) ∧ (∀ k, k < u → τ t k = f k) ∧ τ t 4096 = nI 8 ∧ h' = xH D b τ)) args s 0 0 (fun q => b ≤ q)) (n) (xH D b τ) 3 [some (.ref (b + 0)), some (.int (nI z)), some (.int (nI i)), some (.int (nI u)), some (.ref (b + t)), some (.int (nI j))] [] := by
    intro d
    induction d with
    | zero => intro j τ h; exact absurd h (Nat.not_lt_zero _)
    | succ d ih3 =>
      intro j τ hd3 hj he hf2 hl
      have hRt := hR.hi (by omega) (fun o ho => he o (by omega))
      refine xi_iload hC dL_read_3 (pc' := 5) rfl rfl ?_
      refine xi_iload_n hC dL_read_5 (pc' := 6) rfl rfl rfl ?_
      refine xn_icmpge (tgt := 51) hC dL_read_6 (pc' := 9) rfl (by decide) (by omega) (by omega) (fun zc6 => ?_) (fun zc6 => ?_)
      · skip
        refine xi_return hC dL_read_51 hr rfl ?_
        exact ⟨τ, rfl, he, fun k hk => hf2 k (by omega), hl, rfl⟩
      · skip
        refine xi_aload hC dL_read_9 (pc' := 11) rfl rfl ?_
        refine xi_iload hC dL_read_11 (pc' := 13) rfl rfl ?_
        refine xi_iload_n hC dL_read_13 (pc' := 14) rfl rfl rfl ?_
        refine xi_bipush (v := nI 100) hC dL_read_14 (pc' := 16) rfl (by decide +kernel) ?_
        refine xn_icmpge (tgt := 30) hC dL_read_16 (pc' := 19) rfl (by decide) (by omega) (by omega) (fun zc16 => ?_) (fun zc16 => ?_)
        · exact absurd zc16 (by omega)
        · skip
          refine xi_aload_n hC dL_read_19 (pc' := 20) rfl rfl rfl ?_
          refine xi_iload_n hC dL_read_20 (pc' := 21) rfl rfl rfl ?_
          refine xi_iload_n hC dL_read_21 (pc' := 22) rfl rfl rfl ?_
          refine xi_iload hC dL_read_22 (pc' := 24) rfl rfl ?_
          refine xi_callV (As := [.int (nI i), .int (nI z), .int (nI j)]) (rest := [.int (nI j), .ref (b + t)]) (c_X7_vector l D b (n) (σ := τ) (S := S) (N := N) (u := u) (w := w) hS hRt (by omega) (x := (nI i)) (y := (nI z)) (z := (nI j))) hC dL_read_24 (pc' := 27) rfl xw_m_L_9 xw_c_X7_vector xw_ins_X7_vector xw_sel_X7_vector xw_ini_X7 xd_X7_vector (xH_at.trans (xsh_7 kd_0)) rfl ⟨Nat.le_of_ble_eq_true rfl, Nat.le_of_ble_eq_true rfl⟩ rfl (Nat.le_of_ble_eq_true rfl) ⟨Nat.le_of_ble_eq_true rfl, Nat.le_of_ble_eq_true rfl⟩ ?_
          rintro _ _ ⟨r1, rfl, hO2, rfl⟩
          obtain rfl : r1 = (f j) := hO2 _ (hf j (by omega))
          show xV _ _ _ _ _ _ _ _ _ _ _ _ _ _ _ _ _ (xH D b τ) _ _ [.int (f j), .int (nI j), .ref (b + t)]
          refine xi_goto (tgt := 44) hC dL_read_27 (by decide) ?_
          refine xs_L hC dL_read_44 (pc' := 45) rfl ht (by decide : (8 : Nat) = 8 ∨ (8 : Nat) = 36) hl rfl (by omega) ?_
          refine xn_iinc (lv' := [some (.ref (b + 0)), some (.int (nI z)), some (.int (nI i)), some (.int (nI u)), some (.ref (b + t)), some (.int (nI (j + 1)))]) hC dL_read_45 (pc' := 48) rfl rfl (by decide) rfl ?_
          refine xi_goto (tgt := 3) hC dL_read_48 (by decide) ?_
          refine ih3 (j + 1) _ (by omega) ?_ ?_ ?_ ?_
          · omega
          · exact fun o ho => (sw_n ho).trans (he o ho)
          · exact fun k hk => by
              rcases Nat.lt_or_ge k j with z | z
              · rw [sw_k (by omega)]; exact hf2 k z
              · rw [show k = j by omega, sw_s]
          · rw [sw_k (by omega)]; exact hl
  refine L3 _ 0 σ (Nat.lt_succ_self _) ?_ ?_ ?_ ?_
  · omega
  · exact fun _ _ => rfl
  · exact fun k hk => absurd hk (Nat.not_lt_zero _)
  · exact lt

set_option maxRecDepth 100000 in
set_option maxHeartbeats 8000000 in
theorem c_L_reade (l : Launch) (D : XD) (b n : Nat) {σ S : XM} {N u w : Nat} (hS : SI N S u w) (hR : RR σ S u w) (hN : N + 1 < 2 ^ 31) {t : Nat} (ht : 585 ≤ t) (lt : σ t 4096 = nI 8) {v i : Nat} {f : Nat → Int32} (hv : v < w) (hi : i < u) (hf : ∀ k, f k = rV S v i k) : xM l yL_read cL_read 6 none 2 45 0 0 D b (n) [.ref (b + 0), .int (nI (100 + 10 * v)), .int (nI i), .int (nI u), .ref (b + t)] (xH D b σ) (n) (fun y' h' => ∃ τ : XM, y' = none ∧ (∀ o, o ≠ t → τ o = σ o) ∧ (∀ k, k < u → τ t k = f k) ∧ τ t 4096 = nI 8 ∧ h' = xH D b τ) := by
  refine xM.of (lv := [some (.ref (b + 0)), some (.int (nI (100 + 10 * v))), some (.int (nI i)), some (.int (nI u)), some (.ref (b + t)), none]) (by decide +kernel) rfl (List.forall_mem_cons.mpr ⟨rfl, List.forall_mem_cons.mpr ⟨rfl, List.forall_mem_cons.mpr ⟨rfl, List.forall_mem_cons.mpr ⟨rfl, List.forall_mem_cons.mpr ⟨rfl, fun _ h => absurd h List.not_mem_nil⟩⟩⟩⟩⟩) (Nat.le_of_ble_eq_true rfl) rfl ?_
  intro p e s m args below meth c hC hr hnm
  have hu := hS.1.1.2
  have hw := hS.1.2.1.2
  refine xi_iconst (v := nI 0) hC dL_read_0 (pc' := 1) rfl (by decide +kernel) ?_
  refine xi_istore (lv' := [some (.ref (b + 0)), some (.int (nI (100 + 10 * v))), some (.int (nI i)), some (.int (nI u)), some (.ref (b + t)), some (.int (nI 0))]) hC dL_read_1 (pc' := 3) rfl (by decide) rfl ?_
  have L3 : ∀ (d : Nat) (j : Nat) (τ : XM), u - j < d → (j ≤ u) → (∀ o, o ≠ t → τ o = σ o) → (∀ k, k < j → τ t k = f k) → (τ t 4096 = nI 8) → xV p l e (xR 2 45 0 0) s m args below meth c D b 6 0 0 (MQ below (xQ D b (n) (fun y' h' => ∃ τ : XM, y' = none ∧ (∀ o, o ≠ t → τ o = σ o) ∧ (∀ k, k < u → τ t k = f k) ∧ τ t 4096 = nI 8 ∧ h' = xH D b τ)) args s 0 0 (fun q => b ≤ q)) (n) (xH D b τ) 3 [some (.ref (b + 0)), some (.int (nI (100 + 10 * v))), some (.int (nI i)), some (.int (nI u)), some (.ref (b + t)), some (.int (nI j))] [] := by
    intro d
    induction d with
    | zero => intro j τ h; exact absurd h (Nat.not_lt_zero _)
    | succ d ih3 =>
      intro j τ hd3 hj he hf2 hl
      have hRt := hR.hi (by omega) (fun o ho => he o (by omega))
      refine xi_iload hC dL_read_3 (pc' := 5) rfl rfl ?_
      refine xi_iload_n hC dL_read_5 (pc' := 6) rfl rfl rfl ?_
      refine xn_icmpge (tgt := 51) hC dL_read_6 (pc' := 9) rfl (by decide) (by omega) (by omega) (fun zc6 => ?_) (fun zc6 => ?_)
      · skip
        refine xi_return hC dL_read_51 hr rfl ?_
        exact ⟨τ, rfl, he, fun k hk => hf2 k (by omega), hl, rfl⟩
      · skip
        refine xi_aload hC dL_read_9 (pc' := 11) rfl rfl ?_
        refine xi_iload hC dL_read_11 (pc' := 13) rfl rfl ?_
        refine xi_iload_n hC dL_read_13 (pc' := 14) rfl rfl rfl ?_
        refine xi_bipush (v := nI 100) hC dL_read_14 (pc' := 16) rfl (by decide +kernel) ?_
        refine xn_icmpge (tgt := 30) hC dL_read_16 (pc' := 19) rfl (by decide) (by omega) (by omega) (fun zc16 => ?_) (fun zc16 => ?_)
        · skip
          refine xi_aload_n hC dL_read_30 (pc' := 31) rfl rfl rfl ?_
          refine xi_iload_n hC dL_read_31 (pc' := 32) rfl rfl rfl ?_
          refine xi_bipush (v := nI 100) hC dL_read_32 (pc' := 34) rfl (by decide +kernel) ?_
          refine xn_isub hC dL_read_34 (pc' := 35) rfl (by omega) ?_
          refine xi_bipush (v := nI 10) hC dL_read_35 (pc' := 37) rfl (by decide +kernel) ?_
          refine xn_idiv hC dL_read_37 (pc' := 38) rfl (by omega) (by omega) (by omega) ?_
          refine xi_iload_n hC dL_read_38 (pc' := 39) rfl rfl rfl ?_
          refine xi_iload hC dL_read_39 (pc' := 41) rfl rfl ?_
          refine xi_callV (As := [.int (nI (((100 + 10 * v) - 100) / 10)), .int (nI i), .int (nI j)]) (rest := [.int (nI j), .ref (b + t)]) (c_X7_entry l D b (n) (σ := τ) (S := S) (N := N) (u := u) (w := w) hS hRt (by omega) (x := (nI (((100 + 10 * v) - 100) / 10))) (y := (nI i)) (z := (nI j))) hC dL_read_41 (pc' := 44) rfl xw_m_L_15 xw_c_X7_entry xw_ins_X7_entry xw_sel_X7_entry xw_ini_X7 xd_X7_entry (xH_at.trans (xsh_7 kd_0)) rfl ⟨Nat.le_of_ble_eq_true rfl, Nat.le_of_ble_eq_true rfl⟩ rfl (Nat.le_of_ble_eq_true rfl) ⟨Nat.le_of_ble_eq_true rfl, Nat.le_of_ble_eq_true rfl⟩ ?_
          rintro _ _ ⟨r1, rfl, hO2, rfl⟩
          obtain rfl : r1 = (f j) := hO2 _ (by rw [hf j, show (100 + 10 * v - 100) / 10 = v by omega]; exact se_1 hv (by omega) hi (by omega) (by omega))
          show xV _ _ _ _ _ _ _ _ _ _ _ _ _ _ _ _ _ (xH D b τ) _ _ [.int (f j), .int (nI j), .ref (b + t)]
          refine xs_L hC dL_read_44 (pc' := 45) rfl ht (by decide : (8 : Nat) = 8 ∨ (8 : Nat) = 36) hl rfl (by omega) ?_
          refine xn_iinc (lv' := [some (.ref (b + 0)), some (.int (nI (100 + 10 * v))), some (.int (nI i)), some (.int (nI u)), some (.ref (b + t)), some (.int (nI (j + 1)))]) hC dL_read_45 (pc' := 48) rfl rfl (by decide) rfl ?_
          refine xi_goto (tgt := 3) hC dL_read_48 (by decide) ?_
          refine ih3 (j + 1) _ (by omega) ?_ ?_ ?_ ?_
          · omega
          · exact fun o ho => (sw_n ho).trans (he o ho)
          · exact fun k hk => by
              rcases Nat.lt_or_ge k j with z | z
              · rw [sw_k (by omega)]; exact hf2 k z
              · rw [show k = j by omega, sw_s]
          · rw [sw_k (by omega)]; exact hl
        · exact absurd zc16 (by omega)
  refine L3 _ 0 σ (Nat.lt_succ_self _) ?_ ?_ ?_ ?_
  · omega
  · exact fun _ _ => rfl
  · exact fun k hk => absurd hk (Nat.not_lt_zero _)
  · exact lt
