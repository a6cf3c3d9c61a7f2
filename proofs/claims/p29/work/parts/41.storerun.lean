theorem add_ofInt3 (a : Nat) : nI a + Int32.ofInt 3 = nI (a + 3) := by
  rw [← nI_add]; rfl
theorem tf_eq {a : Int32} {f g : Nat → Int32} {t : Nat} (h : ∀ j, j < t → f j = g j) : tfault a f t = tfault a g t := by
  have e : fb (okc f) t = fb (okc g) t := fb_congr (fun i hi => by unfold okc; rw [h i hi])
  unfold tfault
  rw [e]
theorem nI_m1 {a : Nat} (h : a < 2 ^ 31) : ¬ nI a = (-1) := fun q => by
  have := nI_pos' h
  rw [q] at this
  exact absurd this (by decide)
set_option maxRecDepth 100000 in
set_option maxHeartbeats 4000000 in
theorem c_X7_readLetters (l : Launch) (D : XD) (b n : Nat) {σ S : XM} {N u w : Nat} (hS : SI N S u w) (hR : RR σ S u w) (hN : N + 1 < 2 ^ 31) {x : Int32} {z : Nat} (hz9 : z ≤ 9) : xM l yX7_readLetters cX7_readLetters 4 (some .boolean) 4 89 0 0 D b n [.ref (b + 0), .int x, .int (nI z)] (xH D b σ) n (fun y' h' => ∃ (ok : Bool) (τ T : XM), y' = some (.int (bI (ok = true))) ∧ Hi τ σ ∧ ((¬ isU u x → ok = false ∧ T = S) ∧ (isU u x → s_reads u x z S ok T)) ∧ RR τ T u w ∧ h' = xH D b τ) := by
  refine xM.of (lv := [some (.ref (b + 0)), some (.int x), some (.int (nI z)), none]) (by decide +kernel) rfl (List.forall_mem_cons.mpr ⟨rfl, List.forall_mem_cons.mpr ⟨rfl, List.forall_mem_cons.mpr ⟨rfl, fun _ h => absurd h List.not_mem_nil⟩⟩⟩) (Nat.le_of_ble_eq_true rfl) rfl ?_
  intro p e s m args below meth c hC hr hnm
  obtain ⟨hU, hn, hVw, hKp, hLt, hTx, hAl⟩ := id hS.1
  obtain ⟨hu, hu2, hu5⟩ := id hU
  obtain ⟨hn1, hw1, hw6⟩ := id hn
  obtain ⟨r3, r4, hMm, hVv, hTt⟩ := id hR
  refine xi_iconst (v := nI 0) hC dX7_readLetters_0 (pc' := 1) rfl (by decide +kernel) ?_
  refine xi_istore_n (lv' := [some (.ref (b + 0)), some (.int x), some (.int (nI z)), some (.int (nI 0))]) hC dX7_readLetters_1 (pc' := 2) rfl rfl (by decide) rfl ?_
  have L2 : ∀ (d : Nat) (n1 : Nat) (τ1 : XM) (S1 : XM), z - n1 < d → (n1 ≤ z) → (RR τ1 S1 u w) → (SI N S1 u w) → (Hi τ1 σ) → (¬ isU u x → S1 = S) → (∀ ok T, s_reads u x (z - n1) S1 ok T → s_reads u x z S ok T) → xV p l e (xR 4 89 0 0) s m args below meth c D b 4 0 0 (MQ below (xQ D b n (fun y' h' => ∃ (ok : Bool) (τ T : XM), y' = some (.int (bI (ok = true))) ∧ Hi τ σ ∧ ((¬ isU u x → ok = false ∧ T = S) ∧ (isU u x → s_reads u x z S ok T)) ∧ RR τ T u w ∧ h' = xH D b τ)) args s 0 0 (fun q => b ≤ q)) n (xH D b τ1) 2 [some (.ref (b + 0)), some (.int x), some (.int (nI z)), some (.int (nI n1))] [] := by
    intro d
    induction d with
    | zero => intro n1 τ1 S1 h; exact absurd h (Nat.not_lt_zero _)
    | succ d ih2 =>
      intro n1 τ1 S1 hd2 hn1b hR1 hS1 hH1 hq1 hI
      refine xi_iload_n hC dX7_readLetters_2 (pc' := 3) rfl rfl rfl ?_
      refine xi_iload_n hC dX7_readLetters_3 (pc' := 4) rfl rfl rfl ?_
      refine xn_icmpge (tgt := 23) hC dX7_readLetters_4 (pc' := 7) rfl (by decide) (by omega) (by omega) (fun zc4 => ?_) (fun zc4 => ?_)
      · skip
        refine xi_aload_n hC dX7_readLetters_23 (pc' := 24) rfl rfl rfl ?_
        refine xi_iload_n hC dX7_readLetters_24 (pc' := 25) rfl rfl rfl ?_
        refine xi_callV (As := [.int x]) (rest := []) (c_X7_isUser l D b n (σ := τ1) (u := u) (x := x) hR1.1 (by omega)) hC dX7_readLetters_25 (pc' := 28) rfl xw_m_X7_41 xw_c_X7_isUser xw_ins_X7_isUser xw_sel_X7_isUser xw_ini_X7 xd_X7_isUser (xH_at.trans (xsh_7 kd_0)) rfl ⟨Nat.le_of_ble_eq_true rfl, Nat.le_of_ble_eq_true rfl⟩ rfl (Nat.le_of_ble_eq_true rfl) ⟨Nat.le_of_ble_eq_true rfl, Nat.le_of_ble_eq_true rfl⟩ ?_
        rintro _ _ ⟨rfl, rfl⟩
        show xV _ _ _ _ _ _ _ _ _ _ _ _ _ _ _ _ _ (xH D b τ1) _ _ [.int (bI (isU u x))]
        refine xb_ireturn hC dX7_readLetters_28 hr bI_01 rfl ?_
        by_cases hx : isU u x
        · exact ⟨true, _, S1, by rw [bI_t hx, bI_t rfl], hH1, ⟨fun q => absurd hx q, fun _ => hI true S1 (by rw [show z - n1 = 0 by omega]; exact ⟨rfl, rfl⟩)⟩, hR1, rfl⟩
        · exact ⟨false, _, S1, by rw [bI_f hx, bI_f (by decide)], hH1, ⟨fun _ => ⟨rfl, hq1 hx⟩, fun q => absurd q hx⟩, hR1, rfl⟩
      · skip
        refine xi_aload_n hC dX7_readLetters_7 (pc' := 8) rfl rfl rfl ?_
        refine xi_iload_n hC dX7_readLetters_8 (pc' := 9) rfl rfl rfl ?_
        refine xi_callV (As := [.int x]) (rest := []) (c_X7_readLetter l D b n (σ := τ1) (S := S1) (N := N) (u := u) (w := w) hS1 hR1 hN (x := x)) hC dX7_readLetters_9 (pc' := 12) rfl xw_m_X7_274 xw_c_X7_readLetter xw_ins_X7_readLetter xw_sel_X7_readLetter xw_ini_X7 xd_X7_readLetter (xH_at.trans (xsh_7 kd_0)) rfl ⟨Nat.le_of_ble_eq_true rfl, Nat.le_of_ble_eq_true rfl⟩ rfl (Nat.le_of_ble_eq_true rfl) ⟨Nat.le_of_ble_eq_true rfl, Nat.le_of_ble_eq_true rfl⟩ ?_
        rintro _ _ ⟨xr_1, τ_2, rfl, hH_3, hO_4, rfl⟩
        show xV _ _ _ _ _ _ _ _ _ _ _ _ _ _ _ _ _ (xH D b τ_2) _ _ [.int xr_1]
        obtain ⟨r0, T0, hT0⟩ := ex_readL (x := x) hS1.1
        have er := (hO_4 r0 T0 hT0).1
        refine xi_ifge (tgt := 17) hC dX7_readLetters_12 (pc' := 15) rfl (by decide) (fun zc12 => ?_) (fun zc12 => ?_)
        · skip
          have hr0 : ¬ r0 < 0 := by rw [← er]; exact i_not_lt.mpr (by rw [← nI_0] at *; exact zc12)
          refine xn_iinc (lv' := [some (.ref (b + 0)), some (.int x), some (.int (nI z)), some (.int (nI (n1 + 1)))]) hC dX7_readLetters_17 (pc' := 20) rfl rfl (by decide) rfl ?_
          refine xi_goto (tgt := 2) hC dX7_readLetters_20 (by decide) ?_
          refine ih2 _ _ T0 (by omega) ?_ ?_ ?_ ?_ ?_ ?_
          · omega
          · exact (hO_4 r0 T0 hT0).2
          · exact SI_readL hS1 hT0
          · exact hH1.tr hH_3
          · intro q
            obtain ⟨q1, q2⟩ := hT0.1 q
            exact absurd (show r0 < 0 by rw [q1]; decide) hr0
          · intro ok T h
            refine hI ok T ?_
            rw [show z - n1 = (z - (n1 + 1)) + 1 by omega]
            exact ⟨r0, T0, hT0, Or.inr ⟨hr0, h⟩⟩
        · skip
          have hr0 : r0 < 0 := by rw [← er]; exact i_not_le.mp zc12
          refine xi_iconst (v := nI 0) hC dX7_readLetters_15 (pc' := 16) rfl (by decide +kernel) ?_
          refine xb_ireturn hC dX7_readLetters_16 hr (by decide) rfl ?_
          refine ⟨false, _, T0, by rw [bI_f (by decide)], hH1.tr hH_3, ⟨fun q => ⟨rfl, ?_⟩, fun q => hI false T0 ?_⟩, (hO_4 r0 T0 hT0).2, rfl⟩
          · rw [(hT0.1 q).2]; exact hq1 q
          · rw [show z - n1 = (z - (n1 + 1)) + 1 by omega]
            exact ⟨r0, T0, hT0, Or.inl ⟨hr0, rfl, rfl⟩⟩
  refine L2 _ _ _ S (Nat.lt_succ_self _) ?_ ?_ ?_ ?_ ?_ ?_
  · omega
  · exact hR
  · exact hS
  · exact Hi.rf
  · exact fun _ => rfl
  · exact fun _ _ h => h
set_option maxRecDepth 100000 in
set_option maxHeartbeats 4000000 in
theorem c_X7_carryOut (l : Launch) (D : XD) (b n : Nat) {σ S : XM} {N u w : Nat} (hS : SI N S u w) (hR : RR σ S u w) (hN : N + 1 < 2 ^ 31) {ch x : Int32} {z : Nat} (hL : isL ch) (hz9 : z ≤ 9) : xM l yX7_carryOut cX7_carryOut 4 (some .boolean) 5 116 0 0 D b n [.ref (b + 0), .int ch, .int x, .int (nI z)] (xH D b σ) n (fun y' h' => ∃ (ok : Bool) (τ T : XM), y' = some (.int (bI (ok = true))) ∧ Hi τ σ ∧ s_cmd S u w ch x (nI z) ok T ∧ RR τ T u w ∧ h' = xH D b τ) := by
  refine xM.of (lv := [some (.ref (b + 0)), some (.int ch), some (.int x), some (.int (nI z))]) (by decide +kernel) rfl (List.forall_mem_cons.mpr ⟨rfl, List.forall_mem_cons.mpr ⟨rfl, List.forall_mem_cons.mpr ⟨rfl, List.forall_mem_cons.mpr ⟨rfl, fun _ h => absurd h List.not_mem_nil⟩⟩⟩⟩) (Nat.le_of_ble_eq_true rfl) rfl ?_
  intro p e s m args below meth c hC hr hnm
  obtain ⟨hU, hn, hVw, hKp, hLt, hTx, hAl⟩ := id hS.1
  obtain ⟨hu, hu2, hu5⟩ := id hU
  obtain ⟨hn1, hw1, hw6⟩ := id hn
  obtain ⟨r3, r4, hMm, hVv, hTt⟩ := id hR
  rcases hL with rfl | rfl | rfl | rfl | rfl
  · skip
    refine xi_iload_n hC dX7_carryOut_0 (pc' := 1) rfl rfl rfl ?_
    refine xi_lookup (off := 51) (tgt := 52) hC dX7_carryOut_1 (by decide) (by decide +kernel) (by decide) ?_
    refine xi_aload_n hC dX7_carryOut_52 (pc' := 53) rfl rfl rfl ?_
    refine xi_iload_n hC dX7_carryOut_53 (pc' := 54) rfl rfl rfl ?_
    refine xi_iload_n hC dX7_carryOut_54 (pc' := 55) rfl rfl rfl ?_
    refine xi_callV (As := [.int x, .int (nI z)]) (rest := []) (c_X7_write l D b n (σ := σ) (S := S) (N := N) (u := u) (w := w) hS hR hN (x := x) (y := (nI z))) hC dX7_carryOut_55 (pc' := 58) rfl xw_m_X7_258 xw_c_X7_write xw_ins_X7_write xw_sel_X7_write xw_ini_X7 xd_X7_write (xH_at.trans (xsh_7 kd_0)) rfl ⟨Nat.le_of_ble_eq_true rfl, Nat.le_of_ble_eq_true rfl⟩ rfl (Nat.le_of_ble_eq_true rfl) ⟨Nat.le_of_ble_eq_true rfl, Nat.le_of_ble_eq_true rfl⟩ ?_
    rintro _ _ ⟨xr_1, τ_2, rfl, hH_3, hO_4, rfl⟩
    show xV _ _ _ _ _ _ _ _ _ _ _ _ _ _ _ _ _ (xH D b τ_2) _ _ [.int xr_1]
    obtain ⟨r0, T0, hT0⟩ := ex_write (x := x) (y := nI z) hS.1
    have er := (hO_4 r0 T0 hT0).1
    refine xi_iflt (tgt := 65) hC dX7_carryOut_58 (pc' := 61) rfl (by decide) (fun zc58 => ?_) (fun zc58 => ?_)
    · skip
      refine xi_iconst (v := nI 0) hC dX7_carryOut_65 (pc' := 66) rfl (by decide +kernel) ?_
      refine xb_ireturn hC dX7_carryOut_66 hr (by decide) rfl ?_
      exact ⟨false, _, T0, by rw [bI_f (by decide)], hH_3, ⟨fun _ => ⟨r0, hT0, iff_of_false (by decide) (fun q => q (by rw [← er]; exact zc58))⟩, fun q => absurd q (by decide), fun q => absurd q (by decide), fun q => absurd q (by decide), fun q => absurd q (by decide)⟩, (hO_4 r0 T0 hT0).2, rfl⟩
    · skip
      refine xi_iconst (v := nI 1) hC dX7_carryOut_61 (pc' := 62) rfl (by decide +kernel) ?_
      refine xi_goto (tgt := 66) hC dX7_carryOut_62 (by decide) ?_
      refine xb_ireturn hC dX7_carryOut_66 hr (by decide) rfl ?_
      exact ⟨true, _, T0, by rw [bI_t rfl], hH_3, ⟨fun _ => ⟨r0, hT0, iff_of_true rfl (by rw [← er]; exact zc58)⟩, fun q => absurd q (by decide), fun q => absurd q (by decide), fun q => absurd q (by decide), fun q => absurd q (by decide)⟩, (hO_4 r0 T0 hT0).2, rfl⟩
  · skip
    refine xi_iload_n hC dX7_carryOut_0 (pc' := 1) rfl rfl rfl ?_
    refine xi_lookup (off := 66) (tgt := 67) hC dX7_carryOut_1 (by decide) (by decide +kernel) (by decide) ?_
    refine xi_aload_n hC dX7_carryOut_67 (pc' := 68) rfl rfl rfl ?_
    refine xi_iload_n hC dX7_carryOut_68 (pc' := 69) rfl rfl rfl ?_
    refine xi_iload_n hC dX7_carryOut_69 (pc' := 70) rfl rfl rfl ?_
    refine xi_callV (As := [.int x, .int (nI z)]) (rest := []) (c_X7_read l D b n (σ := σ) (S := S) (N := N) (u := u) (w := w) hS hR hN (x := x) (y := (nI z))) hC dX7_carryOut_70 (pc' := 73) rfl xw_m_X7_262 xw_c_X7_read xw_ins_X7_read xw_sel_X7_read xw_ini_X7 xd_X7_read (xH_at.trans (xsh_7 kd_0)) rfl ⟨Nat.le_of_ble_eq_true rfl, Nat.le_of_ble_eq_true rfl⟩ rfl (Nat.le_of_ble_eq_true rfl) ⟨Nat.le_of_ble_eq_true rfl, Nat.le_of_ble_eq_true rfl⟩ ?_
    rintro _ _ ⟨xr_5, τ_6, rfl, hH_7, hO_8, rfl⟩
    show xV _ _ _ _ _ _ _ _ _ _ _ _ _ _ _ _ _ (xH D b τ_6) _ _ [.int xr_5]
    obtain ⟨r0, T0, hT0⟩ := ex_read (x := x) (y := nI z) hS.1
    have er := (hO_8 r0 T0 hT0).1
    refine xi_iflt (tgt := 80) hC dX7_carryOut_73 (pc' := 76) rfl (by decide) (fun zc73 => ?_) (fun zc73 => ?_)
    · skip
      refine xi_iconst (v := nI 0) hC dX7_carryOut_80 (pc' := 81) rfl (by decide +kernel) ?_
      refine xb_ireturn hC dX7_carryOut_81 hr (by decide) rfl ?_
      exact ⟨false, _, T0, by rw [bI_f (by decide)], hH_7, ⟨fun q => absurd q (by decide), fun _ => ⟨r0, hT0, iff_of_false (by decide) (fun q => q (by rw [← er]; exact zc73))⟩, fun q => absurd q (by decide), fun q => absurd q (by decide), fun q => absurd q (by decide)⟩, (hO_8 r0 T0 hT0).2, rfl⟩
    · skip
      refine xi_iconst (v := nI 1) hC dX7_carryOut_76 (pc' := 77) rfl (by decide +kernel) ?_
      refine xi_goto (tgt := 81) hC dX7_carryOut_77 (by decide) ?_
      refine xb_ireturn hC dX7_carryOut_81 hr (by decide) rfl ?_
      exact ⟨true, _, T0, by rw [bI_t rfl], hH_7, ⟨fun q => absurd q (by decide), fun _ => ⟨r0, hT0, iff_of_true rfl (by rw [← er]; exact zc73)⟩, fun q => absurd q (by decide), fun q => absurd q (by decide), fun q => absurd q (by decide)⟩, (hO_8 r0 T0 hT0).2, rfl⟩
  · skip
    refine xi_iload_n hC dX7_carryOut_0 (pc' := 1) rfl rfl rfl ?_
    refine xi_lookup (off := 81) (tgt := 82) hC dX7_carryOut_1 (by decide) (by decide +kernel) (by decide) ?_
    refine xi_aload_n hC dX7_carryOut_82 (pc' := 83) rfl rfl rfl ?_
    refine xi_iload_n hC dX7_carryOut_83 (pc' := 84) rfl rfl rfl ?_
    refine xi_iload_n hC dX7_carryOut_84 (pc' := 85) rfl rfl rfl ?_
    refine xi_callV (As := [.int x, .int (nI z)]) (rest := []) (c_X7_sendLetter l D b n (σ := σ) (S := S) (N := N) (u := u) (w := w) hS hR hN (x := x) (y := (nI z))) hC dX7_carryOut_85 (pc' := 88) rfl xw_m_X7_265 xw_c_X7_sendLetter xw_ins_X7_sendLetter xw_sel_X7_sendLetter xw_ini_X7 xd_X7_sendLetter (xH_at.trans (xsh_7 kd_0)) rfl ⟨Nat.le_of_ble_eq_true rfl, Nat.le_of_ble_eq_true rfl⟩ rfl (Nat.le_of_ble_eq_true rfl) ⟨Nat.le_of_ble_eq_true rfl, Nat.le_of_ble_eq_true rfl⟩ ?_
    rintro _ _ ⟨xr_9, τ_10, rfl, hH_11, hO_12, rfl⟩
    show xV _ _ _ _ _ _ _ _ _ _ _ _ _ _ _ _ _ (xH D b τ_10) _ _ [.int xr_9]
    obtain ⟨r0, T0, hT0⟩ := ex_send (x := x) (y := nI z) hS.1
    have er := (hO_12 r0 T0 hT0).1
    refine xi_iflt (tgt := 95) hC dX7_carryOut_88 (pc' := 91) rfl (by decide) (fun zc88 => ?_) (fun zc88 => ?_)
    · skip
      refine xi_iconst (v := nI 0) hC dX7_carryOut_95 (pc' := 96) rfl (by decide +kernel) ?_
      refine xb_ireturn hC dX7_carryOut_96 hr (by decide) rfl ?_
      exact ⟨false, _, T0, by rw [bI_f (by decide)], hH_11, ⟨fun q => absurd q (by decide), fun q => absurd q (by decide), fun _ => ⟨r0, hT0, iff_of_false (by decide) (fun q => q (by rw [← er]; exact zc88))⟩, fun q => absurd q (by decide), fun q => absurd q (by decide)⟩, (hO_12 r0 T0 hT0).2, rfl⟩
    · skip
      refine xi_iconst (v := nI 1) hC dX7_carryOut_91 (pc' := 92) rfl (by decide +kernel) ?_
      refine xi_goto (tgt := 96) hC dX7_carryOut_92 (by decide) ?_
      refine xb_ireturn hC dX7_carryOut_96 hr (by decide) rfl ?_
      exact ⟨true, _, T0, by rw [bI_t rfl], hH_11, ⟨fun q => absurd q (by decide), fun q => absurd q (by decide), fun _ => ⟨r0, hT0, iff_of_true rfl (by rw [← er]; exact zc88)⟩, fun q => absurd q (by decide), fun q => absurd q (by decide)⟩, (hO_12 r0 T0 hT0).2, rfl⟩
  · skip
    refine xi_iload_n hC dX7_carryOut_0 (pc' := 1) rfl rfl rfl ?_
    refine xi_lookup (off := 96) (tgt := 97) hC dX7_carryOut_1 (by decide) (by decide +kernel) (by decide) ?_
    refine xi_aload_n hC dX7_carryOut_97 (pc' := 98) rfl rfl rfl ?_
    refine xi_iload_n hC dX7_carryOut_98 (pc' := 99) rfl rfl rfl ?_
    refine xi_iload_n hC dX7_carryOut_99 (pc' := 100) rfl rfl rfl ?_
    refine xi_callV (As := [.int x, .int (nI z)]) (rest := []) (c_X7_readLetters l D b n (σ := σ) (S := S) (N := N) (u := u) (w := w) hS hR hN (x := x) (z := z) hz9) hC dX7_carryOut_100 (pc' := 103) rfl xw_m_X7_268 xw_c_X7_readLetters xw_ins_X7_readLetters xw_sel_X7_readLetters xw_ini_X7 xd_X7_readLetters (xH_at.trans (xsh_7 kd_0)) rfl ⟨Nat.le_of_ble_eq_true rfl, Nat.le_of_ble_eq_true rfl⟩ rfl (Nat.le_of_ble_eq_true rfl) ⟨Nat.le_of_ble_eq_true rfl, Nat.le_of_ble_eq_true rfl⟩ ?_
    rintro _ _ ⟨ok_13, τ_14, T_15, rfl, hH_16, hq_17, hr_18, rfl⟩
    show xV _ _ _ _ _ _ _ _ _ _ _ _ _ _ _ _ _ (xH D b τ_14) _ _ [.int (bI (ok_13 = true))]
    refine xb_ireturn hC dX7_carryOut_103 hr bI_01 rfl ?_
    exact ⟨ok_13, _, T_15, rfl, hH_16, ⟨fun q => absurd q (by decide), fun q => absurd q (by decide), fun q => absurd q (by decide), fun q => absurd q (by decide), fun _ z' hz' e => by
      obtain rfl := nI_inj (by omega) (by omega) e
      exact hq_17⟩, hr_18, rfl⟩
  · skip
    refine xi_iload_n hC dX7_carryOut_0 (pc' := 1) rfl rfl rfl ?_
    refine xi_lookup (off := 103) (tgt := 104) hC dX7_carryOut_1 (by decide) (by decide +kernel) (by decide) ?_
    refine xi_aload_n hC dX7_carryOut_104 (pc' := 105) rfl rfl rfl ?_
    refine xi_iload_n hC dX7_carryOut_105 (pc' := 106) rfl rfl rfl ?_
    refine xi_iload_n hC dX7_carryOut_106 (pc' := 107) rfl rfl rfl ?_
    refine xi_callV (As := [.int x, .int (nI z)]) (rest := []) (c_X7_attach l D b n (σ := σ) (S := S) (N := N) (u := u) (w := w) hS hR hN (x := x) (y := (nI z))) hC dX7_carryOut_107 (pc' := 110) rfl xw_m_X7_271 xw_c_X7_attach xw_ins_X7_attach xw_sel_X7_attach xw_ini_X7 xd_X7_attach (xH_at.trans (xsh_7 kd_0)) rfl ⟨Nat.le_of_ble_eq_true rfl, Nat.le_of_ble_eq_true rfl⟩ rfl (Nat.le_of_ble_eq_true rfl) ⟨Nat.le_of_ble_eq_true rfl, Nat.le_of_ble_eq_true rfl⟩ ?_
    rintro _ _ ⟨xr_19, τ_20, rfl, hH_21, hO_22, rfl⟩
    show xV _ _ _ _ _ _ _ _ _ _ _ _ _ _ _ _ _ (xH D b τ_20) _ _ [.int xr_19]
    obtain ⟨r0, T0, hT0⟩ := ex_attach (x := x) (y := nI z) hS.1
    have er := (hO_22 r0 T0 hT0).1
    refine xi_iflt (tgt := 117) hC dX7_carryOut_110 (pc' := 113) rfl (by decide) (fun zc110 => ?_) (fun zc110 => ?_)
    · skip
      refine xi_iconst (v := nI 0) hC dX7_carryOut_117 (pc' := 118) rfl (by decide +kernel) ?_
      refine xb_ireturn hC dX7_carryOut_118 hr (by decide) rfl ?_
      exact ⟨false, _, T0, by rw [bI_f (by decide)], hH_21, ⟨fun q => absurd q (by decide), fun q => absurd q (by decide), fun q => absurd q (by decide), fun _ => ⟨r0, hT0, iff_of_false (by decide) (fun q => q (by rw [← er]; exact zc110))⟩, fun q => absurd q (by decide)⟩, (hO_22 r0 T0 hT0).2, rfl⟩
    · skip
      refine xi_iconst (v := nI 1) hC dX7_carryOut_113 (pc' := 114) rfl (by decide +kernel) ?_
      refine xi_goto (tgt := 118) hC dX7_carryOut_114 (by decide) ?_
      refine xb_ireturn hC dX7_carryOut_118 hr (by decide) rfl ?_
      exact ⟨true, _, T0, by rw [bI_t rfl], hH_21, ⟨fun q => absurd q (by decide), fun q => absurd q (by decide), fun q => absurd q (by decide), fun _ => ⟨r0, hT0, iff_of_true rfl (by rw [← er]; exact zc110)⟩, fun q => absurd q (by decide)⟩, (hO_22 r0 T0 hT0).2, rfl⟩
set_option maxRecDepth 100000 in
set_option maxHeartbeats 4000000 in
theorem c_X7_run (l : Launch) (D : XD) (b n : Nat) {σ S : XM} {N u w : Nat} (hS : SI N S u w) (hR : RR σ S u w) (hN : N + 21 < 2 ^ 31)  : xM l yX7_run cX7_run 4 (some .int) 6 139 0 0 D b n [.ref (b + 0)] (xH D b σ) n (fun y' h' => ∃ (r : Int32) (τ T : XM), y' = some (.int r) ∧ Hi τ σ ∧ s_run S u w r T ∧ RR τ T u w ∧ h' = xH D b τ) := by
  refine xM.of (lv := [some (.ref (b + 0)), none, none, none]) (by decide +kernel) rfl (List.forall_mem_cons.mpr ⟨rfl, fun _ h => absurd h List.not_mem_nil⟩) (Nat.le_of_ble_eq_true rfl) rfl ?_
  intro p e s m args below meth c hC hr hnm
  obtain ⟨hU, hn, hVw, hKp, hLt, hTx, hAl⟩ := id hS.1
  obtain ⟨hu, hu2, hu5⟩ := id hU
  obtain ⟨hn1, hw1, hw6⟩ := id hn
  obtain ⟨r3, r4, hMm, hVv, hTt⟩ := id hR
  obtain ⟨t, ht60, ht⟩ := id hTx
  refine xi_aload_n hC dX7_run_0 (pc' := 1) rfl rfl rfl ?_
  refine xg7_script hC dX7_run_1 (pc' := 4) rfl xw_f_X7_24 kd_0 ?_
  refine xi_callV (As := []) (rest := []) (c_X4_fault l D b n (σ := σ) (z := t) (hTt.1.trans ht) ht60) hC dX7_run_4 (pc' := 7) rfl xw_m_X7_227 xw_c_X4_fault xw_ins_X4_fault xw_sel_X4_fault xw_ini_X4 xd_X4_fault (xH_at.trans (xsh_4 kd_oScr)) rfl ⟨Nat.le_of_ble_eq_true rfl, Nat.le_of_ble_eq_true rfl⟩ rfl (Nat.le_of_ble_eq_true rfl) ⟨Nat.le_of_ble_eq_true rfl, Nat.le_of_ble_eq_true rfl⟩ ?_
  rintro _ _ ⟨rfl, rfl⟩
  show xV _ _ _ _ _ _ _ _ _ _ _ _ _ _ _ _ _ (xH D b σ) _ _ [.int (tfault (-1) (σ oSgn) t)]
  have hg : ∀ j, j < t → σ oSgn j = S m_text j := hTt.2 t ht60 ht
  by_cases hf : fb (okc (S m_text)) t = t ∧ t % 3 = 0
  · skip
    refine xtop (y := (-1)) ((tf_eq hg).trans (tf_t hf)) ?_
    refine xi_istore_n (lv' := [some (.ref (b + 0)), some (.int (-1)), none, none]) hC dX7_run_7 (pc' := 8) rfl rfl (by decide) rfl ?_
    refine xi_iload_n hC dX7_run_8 (pc' := 9) rfl rfl rfl ?_
    refine xi_iconst (v := -1) hC dX7_run_9 (pc' := 10) rfl (by decide +kernel) ?_
    refine xi_icmpeq (tgt := 18) hC dX7_run_10 (pc' := 13) rfl (by decide) (fun zc10 => ?_) (fun zc10 => ?_)
    · skip
      refine xi_iconst (v := nI 0) hC dX7_run_18 (pc' := 19) rfl (by decide +kernel) ?_
      refine xi_istore_n (lv' := [some (.ref (b + 0)), some (.int (-1)), some (.int (nI 0)), none]) hC dX7_run_19 (pc' := 20) rfl rfl (by decide) rfl ?_
      refine xi_iconst (v := nI 0) hC dX7_run_20 (pc' := 21) rfl (by decide +kernel) ?_
      refine xi_istore_n (lv' := [some (.ref (b + 0)), some (.int (-1)), some (.int (nI 0)), some (.int (nI 0))]) hC dX7_run_21 (pc' := 22) rfl rfl (by decide) rfl ?_
      have L22 : ∀ (d : Nat) (k1 : Nat) (τ1 : XM) (S1 : XM), t - 3 * k1 < d → (3 * k1 ≤ t) → (RR τ1 S1 u w) → (SI (N + k1) S1 u w) → (Hi τ1 σ) → (S1 m_text = S m_text) → (S1 oMod 23 = nI t) → (∀ r T, s_cmds u w (S m_text) (t / 3 - k1) k1 S1 r T → s_cmds u w (S m_text) (t / 3) 0 S r T) → xV p l e (xR 6 139 0 0) s m args below meth c D b 4 0 0 (MQ below (xQ D b n (fun y' h' => ∃ (r : Int32) (τ T : XM), y' = some (.int r) ∧ Hi τ σ ∧ s_run S u w r T ∧ RR τ T u w ∧ h' = xH D b τ)) args s 0 0 (fun q => b ≤ q)) n (xH D b τ1) 22 [some (.ref (b + 0)), some (.int (-1)), some (.int (nI k1)), some (.int (nI (3 * k1)))] [] := by
        intro d
        induction d with
        | zero => intro k1 τ1 S1 h; exact absurd h (Nat.not_lt_zero _)
        | succ d ih22 =>
          intro k1 τ1 S1 hd22 hk1 hR1 hS1 hH1 hx1 ht1 hI
          refine xi_iload_n hC dX7_run_22 (pc' := 23) rfl rfl rfl ?_
          refine xi_iconst (v := nI 3) hC dX7_run_23 (pc' := 24) rfl (by decide +kernel) ?_
          refine xn_iadd hC dX7_run_24 (pc' := 25) rfl ?_
          refine xi_aload_n hC dX7_run_25 (pc' := 26) rfl rfl rfl ?_
          refine xg7_script hC dX7_run_26 (pc' := 29) rfl xw_f_X7_24 kd_0 ?_
          refine xg4_length hC dX7_run_29 (pc' := 32) rfl xw_f_X7_220 kd_oScr ?_
          refine xtop (y := (nI t)) (hR1.2.2.2.2.1.trans ht1) ?_
          refine xn_icmpgt (tgt := 82) hC dX7_run_32 (pc' := 35) rfl (by decide) (by omega) (by omega) (fun zc32 => ?_) (fun zc32 => ?_)
          · skip
            refine xi_iload_n hC dX7_run_82 (pc' := 83) rfl rfl rfl ?_
            refine xi_ireturn hC dX7_run_83 hr rfl ?_
            refine ⟨_, _, S1, rfl, hH1, fun t' ht' e => ?_, hR1, rfl⟩
            obtain rfl := nI_inj (by omega) (by omega) (ht.symm.trans e)
            refine ⟨fun q => absurd hf q, fun _ => ⟨k1, rfl, hI k1 _ ?_⟩⟩
            have := hf.2
            rw [show t / 3 - k1 = 0 by omega]
            exact ⟨rfl, rfl⟩
          · skip
            refine xi_aload_n hC dX7_run_35 (pc' := 36) rfl rfl rfl ?_
            refine xi_aload_n hC dX7_run_36 (pc' := 37) rfl rfl rfl ?_
            refine xg7_script hC dX7_run_37 (pc' := 40) rfl xw_f_X7_24 kd_0 ?_
            refine xg4_signs hC dX7_run_40 (pc' := 43) rfl xw_f_X7_230 kd_oScr ?_
            refine xi_iload_n hC dX7_run_43 (pc' := 44) rfl rfl rfl ?_
            refine xl_i hC dX7_run_44 (pc' := 45) rfl (N := 60) kd_oSgn (by decide) rfl (by omega) ?_
            refine xi_aload_n hC dX7_run_45 (pc' := 46) rfl rfl rfl ?_
            refine xg7_script hC dX7_run_46 (pc' := 49) rfl xw_f_X7_24 kd_0 ?_
            refine xi_iload_n hC dX7_run_49 (pc' := 50) rfl rfl rfl ?_
            refine xi_iconst (v := nI 1) hC dX7_run_50 (pc' := 51) rfl (by decide +kernel) ?_
            refine xn_iadd hC dX7_run_51 (pc' := 52) rfl ?_
            refine xi_callV (As := [.int (nI ((3 * k1) + 1))]) (rest := [.int (τ1 oSgn (3 * k1)), .ref (b + 0)]) (c_X4_digit l D b n (σ := τ1) (z := t) (a := (3 * k1) + 1) (hR1.2.2.2.2.1.trans ht1) ht60 (by omega)) hC dX7_run_52 (pc' := 55) rfl xw_m_X7_233 xw_c_X4_digit xw_ins_X4_digit xw_sel_X4_digit xw_ini_X4 xd_X4_digit (xH_at.trans (xsh_4 kd_oScr)) rfl ⟨Nat.le_of_ble_eq_true rfl, Nat.le_of_ble_eq_true rfl⟩ rfl (Nat.le_of_ble_eq_true rfl) ⟨Nat.le_of_ble_eq_true rfl, Nat.le_of_ble_eq_true rfl⟩ ?_
            rintro _ _ ⟨rfl, rfl⟩
            show xV _ _ _ _ _ _ _ _ _ _ _ _ _ _ _ _ _ (xH D b τ1) _ _ [.int (τ1 oSgn ((3 * k1) + 1) - nI 48), .int (τ1 oSgn (3 * k1)), .ref (b + 0)]
            refine xi_aload_n hC dX7_run_55 (pc' := 56) rfl rfl rfl ?_
            refine xg7_script hC dX7_run_56 (pc' := 59) rfl xw_f_X7_24 kd_0 ?_
            refine xi_iload_n hC dX7_run_59 (pc' := 60) rfl rfl rfl ?_
            refine xi_iconst (v := nI 2) hC dX7_run_60 (pc' := 61) rfl (by decide +kernel) ?_
            refine xn_iadd hC dX7_run_61 (pc' := 62) rfl ?_
            refine xi_callV (As := [.int (nI ((3 * k1) + 2))]) (rest := [.int (τ1 oSgn ((3 * k1) + 1) - nI 48), .int (τ1 oSgn (3 * k1)), .ref (b + 0)]) (c_X4_digit l D b n (σ := τ1) (z := t) (a := (3 * k1) + 2) (hR1.2.2.2.2.1.trans ht1) ht60 (by omega)) hC dX7_run_62 (pc' := 65) rfl xw_m_X7_233 xw_c_X4_digit xw_ins_X4_digit xw_sel_X4_digit xw_ini_X4 xd_X4_digit (xH_at.trans (xsh_4 kd_oScr)) rfl ⟨Nat.le_of_ble_eq_true rfl, Nat.le_of_ble_eq_true rfl⟩ rfl (Nat.le_of_ble_eq_true rfl) ⟨Nat.le_of_ble_eq_true rfl, Nat.le_of_ble_eq_true rfl⟩ ?_
            rintro _ _ ⟨rfl, rfl⟩
            show xV _ _ _ _ _ _ _ _ _ _ _ _ _ _ _ _ _ (xH D b τ1) _ _ [.int (τ1 oSgn ((3 * k1) + 2) - nI 48), .int (τ1 oSgn ((3 * k1) + 1) - nI 48), .int (τ1 oSgn (3 * k1)), .ref (b + 0)]
            have hm : t % 3 = 0 := hf.2
            have hok := fb_ok hf.1
            have eg : ∀ j, j < t → τ1 oSgn j = S m_text j := fun j hj => by rw [hR1.2.2.2.2.2 t ht60 ht1 j hj, hx1]
            have hL : isL (τ1 oSgn (3 * k1)) := by rw [eg _ (by omega)]; exact (hok (3 * k1) (by omega)).1 (by omega)
            obtain ⟨z, hz9, ez⟩ := isD_n ((hok (3 * k1 + 2) (by omega)).2 (by omega))
            rw [← eg _ (by omega)] at ez
            refine xtop (y := nI z) ez ?_
            refine xi_callV (As := [.int (τ1 oSgn (3 * k1)), .int (τ1 oSgn ((3 * k1) + 1) - nI 48), .int (nI z)]) (rest := []) (c_X7_carryOut l D b n (σ := τ1) (S := S1) (N := (N + k1)) (u := u) (w := w) hS1 hR1 (by omega) (ch := (τ1 oSgn (3 * k1))) (x := (τ1 oSgn ((3 * k1) + 1) - nI 48)) (z := z) hL hz9) hC dX7_run_65 (pc' := 68) rfl xw_m_X7_236 xw_c_X7_carryOut xw_ins_X7_carryOut xw_sel_X7_carryOut xw_ini_X7 xd_X7_carryOut (xH_at.trans (xsh_7 kd_0)) rfl ⟨Nat.le_of_ble_eq_true rfl, Nat.le_of_ble_eq_true rfl⟩ rfl (Nat.le_of_ble_eq_true rfl) ⟨Nat.le_of_ble_eq_true rfl, Nat.le_of_ble_eq_true rfl⟩ ?_
            rintro _ _ ⟨ok_1, τ_2, T_3, rfl, hH_4, hq_5, hr_6, rfl⟩
            show xV _ _ _ _ _ _ _ _ _ _ _ _ _ _ _ _ _ (xH D b τ_2) _ _ [.int (bI (ok_1 = true))]
            rw [eg _ (by omega), eg _ (by omega)] at hq_5
            have hq0 : s_cmd S1 u w (S m_text (3 * k1)) (S m_text (3 * k1 + 1) - nI 48) (S m_text (3 * k1 + 2) - nI 48) ok_1 T_3 := by rw [← eg (3 * k1 + 2) (by omega), ez]; exact hq_5
            have hL2 : isL (S m_text (3 * k1)) := by rw [← eg _ (by omega)]; exact hL
            refine xb_ifne (tgt := 73) hC dX7_run_68 (pc' := 71) rfl (by decide) (fun zc68 => ?_) (fun zc68 => ?_)
            · skip
              refine xn_iinc (lv' := [some (.ref (b + 0)), some (.int (-1)), some (.int (nI (k1 + 1))), some (.int (nI (3 * k1)))]) hC dX7_run_73 (pc' := 76) rfl rfl (by decide) rfl ?_
              refine xi_iinc (lv' := [some (.ref (b + 0)), some (.int (-1)), some (.int (nI (k1 + 1))), some (.int (nI (3 * k1 + 3)))]) hC dX7_run_76 (pc' := 79) rfl rfl (add_ofInt3 _) (by decide) rfl ?_
              refine xi_goto (tgt := 22) hC dX7_run_79 (by decide) ?_
              refine ih22 (k1 + 1) _ T_3 (by omega) ?_ ?_ ?_ ?_ ?_ ?_ ?_
              · omega
              · exact hr_6
              · exact SI_cmd hS1 hL2 hz9 hq_5
              · exact hH1.tr hH_4
              · exact (MT_cmd hS1.1 hL2 hz9 hq_5).2.1.trans hx1
              · exact (MT_cmd hS1.1 hL2 hz9 hq_5).2.2.trans ht1
              · intro r T' h
                refine hI r T' ?_
                rw [show t / 3 - k1 = (t / 3 - (k1 + 1)) + 1 by omega]
                exact ⟨ok_1, T_3, hq0, Or.inr ⟨zc68, h⟩⟩
            · skip
              refine xi_iload_n hC dX7_run_71 (pc' := 72) rfl rfl rfl ?_
              refine xi_ireturn hC dX7_run_72 hr rfl ?_
              refine ⟨_, _, T_3, rfl, hH1.tr hH_4, fun t' ht' e => ?_, hr_6, rfl⟩
              obtain rfl := nI_inj (by omega) (by omega) (ht.symm.trans e)
              refine ⟨fun q => absurd hf q, fun _ => ⟨k1, rfl, hI k1 _ ?_⟩⟩
              rw [show t / 3 - k1 = (t / 3 - (k1 + 1)) + 1 by omega]
              refine ⟨ok_1, _, hq0, Or.inl ⟨?_, rfl, rfl⟩⟩
              cases ok_1 with
              | false => rfl
              | true => exact absurd rfl zc68
      refine L22 _ 0 _ S (Nat.lt_succ_self _) ?_ ?_ ?_ ?_ ?_ ?_ ?_
      · omega
      · exact hR
      · exact hS
      · exact Hi.rf
      · rfl
      · exact ht
      · exact fun _ _ h => h
    · exact absurd zc10 (by decide)
  · skip
    refine xtop (y := nI (fb (okc (S m_text)) t)) ((tf_eq hg).trans (tf_f hf)) ?_
    have hfl := fb_le (ok := okc (S m_text)) t
    refine xi_istore_n (lv' := [some (.ref (b + 0)), some (.int (nI (fb (okc (S m_text)) t))), none, none]) hC dX7_run_7 (pc' := 8) rfl rfl (by decide) rfl ?_
    refine xi_iload_n hC dX7_run_8 (pc' := 9) rfl rfl rfl ?_
    refine xi_iconst (v := -1) hC dX7_run_9 (pc' := 10) rfl (by decide +kernel) ?_
    refine xi_icmpeq (tgt := 18) hC dX7_run_10 (pc' := 13) rfl (by decide) (fun zc10 => ?_) (fun zc10 => ?_)
    · skip
      exact absurd zc10 (nI_m1 (by omega))
    · skip
      refine xi_bipush (v := -100) hC dX7_run_13 (pc' := 15) rfl (by decide +kernel) ?_
      refine xi_iload_n hC dX7_run_15 (pc' := 16) rfl rfl rfl ?_
      refine xi_isub hC dX7_run_16 (pc' := 17) rfl ?_
      refine xi_ireturn hC dX7_run_17 hr rfl ?_
      refine ⟨_, σ, S, rfl, Hi.rf, fun t' ht' e => ?_, hR, rfl⟩
      obtain rfl := nI_inj (by omega) (by omega) (ht.symm.trans e)
      exact ⟨fun _ => ⟨rfl, rfl⟩, fun q => absurd q hf⟩
