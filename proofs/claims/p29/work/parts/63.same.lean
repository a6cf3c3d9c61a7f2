/-! ===== p29: same ===== -/
set_option maxRecDepth 100000 in
set_option maxHeartbeats 8000000 in
theorem c_L_same (l : Launch) (D : XD) (b k : Nat) {σ S : XM} {N u w : Nat} (hS : SI N S u w) (hR : RR σ S u w) (hJ : JJ N S u) (hN : N + 4 < 2 ^ 31) (hk : 585 ≤ k) : xM l yL_same cL_same 16 (some .boolean) 5 113 2 16 D b (b + k) [.ref (b + 0), .int (nI u)] (xH D b σ) (b + (k + 2)) (fun y' h' => ∃ τ : XM, y' = some (.int (nI 1)) ∧ RR τ S u w ∧ h' = xH D b τ) := by
  refine xM.of (lv := [some (.ref (b + 0)), some (.int (nI u)), none, none, none, none, none, none, none, none, none, none, none, none, none, none]) (by decide +kernel) rfl (List.forall_mem_cons.mpr ⟨rfl, List.forall_mem_cons.mpr ⟨rfl, fun _ h => absurd h List.not_mem_nil⟩⟩) (Nat.le_of_ble_eq_true rfl) rfl ?_
  intro p e s m args below meth c hC hr hnm
  have hu := hS.1.1.2
  have hw := hS.1.2.1.2
  refine xi_iconst (v := nI 0) hC dL_same_0 (pc' := 1) rfl (by decide +kernel) ?_
  refine xi_istore_n (lv' := [some (.ref (b + 0)), some (.int (nI u)), some (.int (nI 0)), none, none, none, none, none, none, none, none, none, none, none, none, none]) hC dL_same_1 (pc' := 2) rfl rfl (by decide) rfl ?_
  refine xi_iconst (v := nI 0) hC dL_same_2 (pc' := 3) rfl (by decide +kernel) ?_
  refine xi_istore_n (lv' := [some (.ref (b + 0)), some (.int (nI u)), some (.int (nI 0)), some (.int (nI 0)), none, none, none, none, none, none, none, none, none, none, none, none]) hC dL_same_3 (pc' := 4) rfl rfl (by decide) rfl ?_
  refine xi_iconst (v := nI 0) hC dL_same_4 (pc' := 5) rfl (by decide +kernel) ?_
  refine xi_istore (lv' := [some (.ref (b + 0)), some (.int (nI u)), some (.int (nI 0)), some (.int (nI 0)), some (.int (nI 0)), none, none, none, none, none, none, none, none, none, none, none]) hC dL_same_5 (pc' := 7) rfl (by decide) rfl ?_
  refine xi_iconst (v := nI 0) hC dL_same_7 (pc' := 8) rfl (by decide +kernel) ?_
  refine xi_istore (lv' := [some (.ref (b + 0)), some (.int (nI u)), some (.int (nI 0)), some (.int (nI 0)), some (.int (nI 0)), some (.int (nI 0)), none, none, none, none, none, none, none, none, none, none]) hC dL_same_8 (pc' := 10) rfl (by decide) rfl ?_
  refine xi_iconst (v := nI 0) hC dL_same_10 (pc' := 11) rfl (by decide +kernel) ?_
  refine xi_istore (lv' := [some (.ref (b + 0)), some (.int (nI u)), some (.int (nI 0)), some (.int (nI 0)), some (.int (nI 0)), some (.int (nI 0)), some (.int (nI 0)), none, none, none, none, none, none, none, none, none]) hC dL_same_11 (pc' := 13) rfl (by decide) rfl ?_
  refine xi_sipush (v := -10005) hC dL_same_13 (pc' := 16) rfl (by decide +kernel) ?_
  refine xi_istore (lv' := [some (.ref (b + 0)), some (.int (nI u)), some (.int (nI 0)), some (.int (nI 0)), some (.int (nI 0)), some (.int (nI 0)), some (.int (nI 0)), some (.int (-10005)), none, none, none, none, none, none, none, none]) hC dL_same_16 (pc' := 18) rfl (by decide) rfl ?_
  refine xi_iconst (v := nI 0) hC dL_same_18 (pc' := 19) rfl (by decide +kernel) ?_
  refine xi_istore (lv' := [some (.ref (b + 0)), some (.int (nI u)), some (.int (nI 0)), some (.int (nI 0)), some (.int (nI 0)), some (.int (nI 0)), some (.int (nI 0)), some (.int (-10005)), some (.int (nI 0)), none, none, none, none, none, none, none]) hC dL_same_19 (pc' := 21) rfl (by decide) rfl ?_
  refine xi_bipush (v := nI 8) hC dL_same_21 (pc' := 23) rfl (by decide +kernel) ?_
  refine xn_L (k0 := k) (N := 8) hC dL_same_23 (pc' := 25) rfl rfl (by omega) (by decide) rfl ⟨Nat.le_of_ble_eq_true rfl, Nat.le_of_ble_eq_true rfl⟩ ?_
  have hlσ1 : su σ k (zL 8) k 4096 = nI 8 := by rw [su_s]; exact zL_len
  have heσ1 : ∀ o, o ≠ k → su σ k (zL 8) o = σ o := fun o ho => su_n ho
  generalize su σ k (zL 8) = σ1 at hlσ1 heσ1 ⊢
  have hRσ1 := hR.hi (by omega) (fun o ho => heσ1 o (by omega))
  refine xi_astore (lv' := [some (.ref (b + 0)), some (.int (nI u)), some (.int (nI 0)), some (.int (nI 0)), some (.int (nI 0)), some (.int (nI 0)), some (.int (nI 0)), some (.int (-10005)), some (.int (nI 0)), some (.ref (b + k)), none, none, none, none, none, none]) hC dL_same_25 (pc' := 27) rfl (by decide) rfl ?_
  refine xi_bipush (v := nI 8) hC dL_same_27 (pc' := 29) rfl (by decide +kernel) ?_
  refine xn_L (k0 := (k + 1)) (N := 8) hC dL_same_29 (pc' := 31) rfl rfl (by omega) (by decide) rfl ⟨Nat.le_of_ble_eq_true rfl, Nat.le_of_ble_eq_true rfl⟩ ?_
  have hlσ2 : su σ1 (k + 1) (zL 8) (k + 1) 4096 = nI 8 := by rw [su_s]; exact zL_len
  have heσ2 : ∀ o, o ≠ (k + 1) → su σ1 (k + 1) (zL 8) o = σ1 o := fun o ho => su_n ho
  generalize su σ1 (k + 1) (zL 8) = σ2 at hlσ2 heσ2 ⊢
  have hRσ2 := hRσ1.hi (by omega) (fun o ho => heσ2 o (by omega))
  have hlσ2_k : σ2 k 4096 = nI 8 := by rw [heσ2 k (by omega)]; exact hlσ1
  refine xi_astore (lv' := [some (.ref (b + 0)), some (.int (nI u)), some (.int (nI 0)), some (.int (nI 0)), some (.int (nI 0)), some (.int (nI 0)), some (.int (nI 0)), some (.int (-10005)), some (.int (nI 0)), some (.ref (b + k)), some (.ref (b + (k + 1))), none, none, none, none, none]) hC dL_same_31 (pc' := 33) rfl (by decide) rfl ?_
  refine xi_iconst (v := nI 0) hC dL_same_33 (pc' := 34) rfl (by decide +kernel) ?_
  refine xi_istore (lv' := [some (.ref (b + 0)), some (.int (nI u)), some (.int (nI 0)), some (.int (nI 0)), some (.int (nI 0)), some (.int (nI 0)), some (.int (nI 0)), some (.int (-10005)), some (.int (nI 0)), some (.ref (b + k)), some (.ref (b + (k + 1))), some (.int (nI 0)), none, none, none, none]) hC dL_same_34 (pc' := 36) rfl (by decide) rfl ?_
  have L36 : ∀ (d : Nat) (i : Nat) (τa : XM) (t7 : Int32) (o12 : Option Value) (o13 : Option Value) (o14 : Option Value) (o15 : Option Value), u - i < d → (i ≤ u) → (RR τa S u w) → (τa k 4096 = nI 8) → (τa (k + 1) 4096 = nI 8) → (TL S u i 0 t7) → xV p l e (xR 5 113 2 16) s m args below meth c D b 16 2 16 (MQ below (xQ D b (b + (k + 2)) (fun y' h' => ∃ τ : XM, y' = some (.int (nI 1)) ∧ RR τ S u w ∧ h' = xH D b τ)) args s 2 16 (fun q => b ≤ q)) (b + (k + 2)) (xH D b τa) 36 [some (.ref (b + 0)), some (.int (nI u)), some (.int (nI (xcnt (fun i => 0 < S m_alarmOf i) i))), some (.int (nI (xcnt (fun i => S m_hasProof i ≠ 0) i))), some (.int (xsum (S m_lettersOf) i)), some (.int (xsum (S m_doneOf) i)), some (.int (nI (apc (fkQ S u) u i))), some (.int t7), some (.int (bitM (unQ S u) i)), some (.ref (b + k)), some (.ref (b + (k + 1))), some (.int (nI i)), o12, o13, o14, o15] [] := by
    intro d
    induction d with
    | zero => intro i τa t7 o12 o13 o14 o15 h; exact absurd h (Nat.not_lt_zero _)
    | succ d ih36 =>
      intro i τa t7 o12 o13 o14 o15 hd36 hi0 hRa la lb hT
      refine xi_iload hC dL_same_36 (pc' := 38) rfl rfl ?_
      refine xi_iload_n hC dL_same_38 (pc' := 39) rfl rfl rfl ?_
      refine xn_icmpge (tgt := 564) hC dL_same_39 (pc' := 42) rfl (by decide) (by omega) (by omega) (fun zc39 => ?_) (fun zc39 => ?_)
      · skip
        have e8 : u = i := by omega
        subst e8
        refine xi_aload_n hC dL_same_564 (pc' := 565) rfl rfl rfl ?_
        refine xi_iconst (v := nI 0) hC dL_same_565 (pc' := 566) rfl (by decide +kernel) ?_
        refine xi_callV (As := [.int (nI 0)]) (rest := []) (c_X7_count l D b (b + (k + 2)) (σ := τa) (S := S) (N := N) (u := u) (w := w) hS hRa (by omega) (x := (nI 0))) hC dL_same_566 (pc' := 569) rfl xw_m_L_40 xw_c_X7_count xw_ins_X7_count xw_sel_X7_count xw_ini_X7 xd_X7_count (xH_at.trans (xsh_7 kd_0)) rfl ⟨Nat.le_of_ble_eq_true rfl, Nat.le_of_ble_eq_true rfl⟩ rfl (Nat.le_of_ble_eq_true rfl) ⟨Nat.le_of_ble_eq_true rfl, Nat.le_of_ble_eq_true rfl⟩ ?_
        rintro _ _ ⟨r3, rfl, hO4, rfl⟩
        obtain rfl : r3 = (nI u) := hO4 _ (sc_0)
        show xV _ _ _ _ _ _ _ _ _ _ _ _ _ _ _ _ _ (xH D b τa) _ _ [.int (nI u)]
        refine xi_iload_n hC dL_same_569 (pc' := 570) rfl rfl rfl ?_
        refine xi_icmpne (tgt := 627) hC dL_same_570 (pc' := 573) rfl (by decide) (fun zc570 => ?_) (fun zc570 => ?_)
        · exact absurd rfl zc570
        · skip
          refine xi_aload_n hC dL_same_573 (pc' := 574) rfl rfl rfl ?_
          refine xi_iconst (v := nI 2) hC dL_same_574 (pc' := 575) rfl (by decide +kernel) ?_
          refine xi_callV (As := [.int (nI 2)]) (rest := []) (c_X7_count l D b (b + (k + 2)) (σ := τa) (S := S) (N := N) (u := u) (w := w) hS hRa (by omega) (x := (nI 2))) hC dL_same_575 (pc' := 578) rfl xw_m_L_40 xw_c_X7_count xw_ins_X7_count xw_sel_X7_count xw_ini_X7 xd_X7_count (xH_at.trans (xsh_7 kd_0)) rfl ⟨Nat.le_of_ble_eq_true rfl, Nat.le_of_ble_eq_true rfl⟩ rfl (Nat.le_of_ble_eq_true rfl) ⟨Nat.le_of_ble_eq_true rfl, Nat.le_of_ble_eq_true rfl⟩ ?_
          rintro _ _ ⟨r5, rfl, hO6, rfl⟩
          obtain rfl : r5 = (nI (xcnt (fun i => 0 < S m_alarmOf i) u)) := hO6 _ (sc_2)
          show xV _ _ _ _ _ _ _ _ _ _ _ _ _ _ _ _ _ (xH D b τa) _ _ [.int (nI (xcnt (fun i => 0 < S m_alarmOf i) u))]
          refine xi_iload_n hC dL_same_578 (pc' := 579) rfl rfl rfl ?_
          refine xi_icmpne (tgt := 627) hC dL_same_579 (pc' := 582) rfl (by decide) (fun zc579 => ?_) (fun zc579 => ?_)
          · exact absurd rfl zc579
          · skip
            refine xi_aload_n hC dL_same_582 (pc' := 583) rfl rfl rfl ?_
            refine xi_iconst (v := nI 3) hC dL_same_583 (pc' := 584) rfl (by decide +kernel) ?_
            refine xi_callV (As := [.int (nI 3)]) (rest := []) (c_X7_count l D b (b + (k + 2)) (σ := τa) (S := S) (N := N) (u := u) (w := w) hS hRa (by omega) (x := (nI 3))) hC dL_same_584 (pc' := 587) rfl xw_m_L_40 xw_c_X7_count xw_ins_X7_count xw_sel_X7_count xw_ini_X7 xd_X7_count (xH_at.trans (xsh_7 kd_0)) rfl ⟨Nat.le_of_ble_eq_true rfl, Nat.le_of_ble_eq_true rfl⟩ rfl (Nat.le_of_ble_eq_true rfl) ⟨Nat.le_of_ble_eq_true rfl, Nat.le_of_ble_eq_true rfl⟩ ?_
            rintro _ _ ⟨r7, rfl, hO8, rfl⟩
            obtain rfl : r7 = (nI (xcnt (fun i => S m_hasProof i ≠ 0) u)) := hO8 _ (sc_3)
            show xV _ _ _ _ _ _ _ _ _ _ _ _ _ _ _ _ _ (xH D b τa) _ _ [.int (nI (xcnt (fun i => S m_hasProof i ≠ 0) u))]
            refine xi_iload_n hC dL_same_587 (pc' := 588) rfl rfl rfl ?_
            refine xi_icmpne (tgt := 627) hC dL_same_588 (pc' := 591) rfl (by decide) (fun zc588 => ?_) (fun zc588 => ?_)
            · exact absurd rfl zc588
            · skip
              refine xi_aload_n hC dL_same_591 (pc' := 592) rfl rfl rfl ?_
              refine xi_iconst (v := nI 5) hC dL_same_592 (pc' := 593) rfl (by decide +kernel) ?_
              refine xi_callV (As := [.int (nI 5)]) (rest := []) (c_X7_count l D b (b + (k + 2)) (σ := τa) (S := S) (N := N) (u := u) (w := w) hS hRa (by omega) (x := (nI 5))) hC dL_same_593 (pc' := 596) rfl xw_m_L_40 xw_c_X7_count xw_ins_X7_count xw_sel_X7_count xw_ini_X7 xd_X7_count (xH_at.trans (xsh_7 kd_0)) rfl ⟨Nat.le_of_ble_eq_true rfl, Nat.le_of_ble_eq_true rfl⟩ rfl (Nat.le_of_ble_eq_true rfl) ⟨Nat.le_of_ble_eq_true rfl, Nat.le_of_ble_eq_true rfl⟩ ?_
              rintro _ _ ⟨r9, rfl, hO10, rfl⟩
              obtain rfl : r9 = (xsum (S m_lettersOf) u) := hO10 _ (sc_5)
              show xV _ _ _ _ _ _ _ _ _ _ _ _ _ _ _ _ _ (xH D b τa) _ _ [.int (xsum (S m_lettersOf) u)]
              refine xi_iload hC dL_same_596 (pc' := 598) rfl rfl ?_
              refine xi_icmpne (tgt := 627) hC dL_same_598 (pc' := 601) rfl (by decide) (fun zc598 => ?_) (fun zc598 => ?_)
              · exact absurd rfl zc598
              · skip
                refine xi_aload_n hC dL_same_601 (pc' := 602) rfl rfl rfl ?_
                refine xi_iconst (v := nI 4) hC dL_same_602 (pc' := 603) rfl (by decide +kernel) ?_
                refine xi_callV (As := [.int (nI 4)]) (rest := []) (c_X7_count l D b (b + (k + 2)) (σ := τa) (S := S) (N := N) (u := u) (w := w) hS hRa (by omega) (x := (nI 4))) hC dL_same_603 (pc' := 606) rfl xw_m_L_40 xw_c_X7_count xw_ins_X7_count xw_sel_X7_count xw_ini_X7 xd_X7_count (xH_at.trans (xsh_7 kd_0)) rfl ⟨Nat.le_of_ble_eq_true rfl, Nat.le_of_ble_eq_true rfl⟩ rfl (Nat.le_of_ble_eq_true rfl) ⟨Nat.le_of_ble_eq_true rfl, Nat.le_of_ble_eq_true rfl⟩ ?_
                rintro _ _ ⟨r11, rfl, hO12, rfl⟩
                obtain rfl : r11 = (xsum (S m_doneOf) u) := (hO12 _ (sc_4)).trans (hS.2.2.2.2.2)
                show xV _ _ _ _ _ _ _ _ _ _ _ _ _ _ _ _ _ (xH D b τa) _ _ [.int (xsum (S m_doneOf) u)]
                refine xi_iload hC dL_same_606 (pc' := 608) rfl rfl ?_
                refine xi_icmpne (tgt := 627) hC dL_same_608 (pc' := 611) rfl (by decide) (fun zc608 => ?_) (fun zc608 => ?_)
                · exact absurd rfl zc608
                · skip
                  refine xi_aload_n hC dL_same_611 (pc' := 612) rfl rfl rfl ?_
                  refine xi_bipush (v := nI 6) hC dL_same_612 (pc' := 614) rfl (by decide +kernel) ?_
                  refine xi_callV (As := [.int (nI 6)]) (rest := []) (c_X7_count l D b (b + (k + 2)) (σ := τa) (S := S) (N := N) (u := u) (w := w) hS hRa (by omega) (x := (nI 6))) hC dL_same_614 (pc' := 617) rfl xw_m_L_40 xw_c_X7_count xw_ins_X7_count xw_sel_X7_count xw_ini_X7 xd_X7_count (xH_at.trans (xsh_7 kd_0)) rfl ⟨Nat.le_of_ble_eq_true rfl, Nat.le_of_ble_eq_true rfl⟩ rfl (Nat.le_of_ble_eq_true rfl) ⟨Nat.le_of_ble_eq_true rfl, Nat.le_of_ble_eq_true rfl⟩ ?_
                  rintro _ _ ⟨r13, rfl, hO14, rfl⟩
                  obtain rfl : r13 = (-10002) := hO14 _ (sc_6)
                  show xV _ _ _ _ _ _ _ _ _ _ _ _ _ _ _ _ _ (xH D b τa) _ _ [.int (-10002)]
                  refine xi_sipush (v := -10002) hC dL_same_617 (pc' := 620) rfl (by decide +kernel) ?_
                  refine xi_icmpne (tgt := 627) hC dL_same_620 (pc' := 623) rfl (by decide) (fun zc620 => ?_) (fun zc620 => ?_)
                  · exact absurd rfl zc620
                  · skip
                    refine xi_iconst (v := nI 1) hC dL_same_623 (pc' := 624) rfl (by decide +kernel) ?_
                    refine xi_goto (tgt := 628) hC dL_same_624 (by decide) ?_
                    refine xi_istore (lv' := [some (.ref (b + 0)), some (.int (nI u)), some (.int (nI (xcnt (fun i => 0 < S m_alarmOf i) u))), some (.int (nI (xcnt (fun i => S m_hasProof i ≠ 0) u))), some (.int (xsum (S m_lettersOf) u)), some (.int (xsum (S m_doneOf) u)), some (.int (nI (apc (fkQ S u) u u))), some (.int t7), some (.int (bitM (unQ S u) u)), some (.ref (b + k)), some (.ref (b + (k + 1))), some (.int (nI 1)), o12, o13, o14, o15]) hC dL_same_628 (pc' := 630) rfl (by decide) rfl ?_
                    refine xi_iload hC dL_same_630 (pc' := 632) rfl rfl ?_
                    refine xn_ifeq (tgt := 666) hC dL_same_632 (pc' := 635) rfl (by decide) (by omega) (fun zc632 => ?_) (fun zc632 => ?_)
                    · exact absurd zc632 (by decide)
                    · skip
                      refine xi_aload_n hC dL_same_635 (pc' := 636) rfl rfl rfl ?_
                      refine xi_callV (As := []) (rest := []) (c_X7_forkedPairs l D b (b + (k + 2)) (σ := τa) (S := S) (N := N) (u := u) (w := w) hS hRa (by omega) ) hC dL_same_636 (pc' := 639) rfl xw_m_L_85 xw_c_X7_forkedPairs xw_ins_X7_forkedPairs xw_sel_X7_forkedPairs xw_ini_X7 xd_X7_forkedPairs (xH_at.trans (xsh_7 kd_0)) rfl ⟨Nat.le_of_ble_eq_true rfl, Nat.le_of_ble_eq_true rfl⟩ rfl (Nat.le_of_ble_eq_true rfl) ⟨Nat.le_of_ble_eq_true rfl, Nat.le_of_ble_eq_true rfl⟩ ?_
                      rintro _ _ ⟨r15, rfl, hO16, rfl⟩
                      obtain rfl : r15 = (nI (apc (fkQ S u) u u)) := hO16 _ (sg_1)
                      show xV _ _ _ _ _ _ _ _ _ _ _ _ _ _ _ _ _ (xH D b τa) _ _ [.int (nI (apc (fkQ S u) u u))]
                      refine xi_iload hC dL_same_639 (pc' := 641) rfl rfl ?_
                      refine xi_icmpne (tgt := 666) hC dL_same_641 (pc' := 644) rfl (by decide) (fun zc641 => ?_) (fun zc641 => ?_)
                      · exact absurd rfl zc641
                      · skip
                        refine xi_aload_n hC dL_same_644 (pc' := 645) rfl rfl rfl ?_
                        refine xi_callV (As := []) (rest := []) (c_X7_tellingLetter l D b (b + (k + 2)) (σ := τa) (S := S) (N := N) (u := u) (w := w) hS hRa (by omega) ) hC dL_same_645 (pc' := 648) rfl xw_m_L_89 xw_c_X7_tellingLetter xw_ins_X7_tellingLetter xw_sel_X7_tellingLetter xw_ini_X7 xd_X7_tellingLetter (xH_at.trans (xsh_7 kd_0)) rfl ⟨Nat.le_of_ble_eq_true rfl, Nat.le_of_ble_eq_true rfl⟩ rfl (Nat.le_of_ble_eq_true rfl) ⟨Nat.le_of_ble_eq_true rfl, Nat.le_of_ble_eq_true rfl⟩ ?_
                        rintro _ _ ⟨r17, rfl, hO18, rfl⟩
                        obtain rfl : t7 = r17 := (hO18 _ (TL_end hT)).symm
                        show xV _ _ _ _ _ _ _ _ _ _ _ _ _ _ _ _ _ (xH D b τa) _ _ [.int t7]
                        refine xi_iload hC dL_same_648 (pc' := 650) rfl rfl ?_
                        refine xi_icmpne (tgt := 666) hC dL_same_650 (pc' := 653) rfl (by decide) (fun zc650 => ?_) (fun zc650 => ?_)
                        · exact absurd rfl zc650
                        · skip
                          refine xi_aload_n hC dL_same_653 (pc' := 654) rfl rfl rfl ?_
                          refine xi_callV (As := []) (rest := []) (c_X7_unaware l D b (b + (k + 2)) (σ := τa) (S := S) (N := N) (u := u) (w := w) hS hRa (by omega) ) hC dL_same_654 (pc' := 657) rfl xw_m_L_92 xw_c_X7_unaware xw_ins_X7_unaware xw_sel_X7_unaware xw_ini_X7 xd_X7_unaware (xH_at.trans (xsh_7 kd_0)) rfl ⟨Nat.le_of_ble_eq_true rfl, Nat.le_of_ble_eq_true rfl⟩ rfl (Nat.le_of_ble_eq_true rfl) ⟨Nat.le_of_ble_eq_true rfl, Nat.le_of_ble_eq_true rfl⟩ ?_
                          rintro _ _ ⟨r19, rfl, hO20, rfl⟩
                          obtain rfl : r19 = (bitM (unQ S u) u) := hO20 _ _ (sq_1)
                          show xV _ _ _ _ _ _ _ _ _ _ _ _ _ _ _ _ _ (xH D b τa) _ _ [.int (bitM (unQ S u) u)]
                          refine xi_iload hC dL_same_657 (pc' := 659) rfl rfl ?_
                          refine xi_icmpne (tgt := 666) hC dL_same_659 (pc' := 662) rfl (by decide) (fun zc659 => ?_) (fun zc659 => ?_)
                          · exact absurd rfl zc659
                          · skip
                            refine xi_iconst (v := nI 1) hC dL_same_662 (pc' := 663) rfl (by decide +kernel) ?_
                            refine xi_goto (tgt := 667) hC dL_same_663 (by decide) ?_
                            refine xb_ireturn hC dL_same_667 hr (by decide) rfl ?_
                            exact ⟨τa, rfl, hRa, rfl⟩
      · skip
        have hi := zc39
        obtain ⟨a, ha5, hA⟩ := hS.1.2.2.2.2.2.2 i (by omega)
        obtain ⟨v, hv, hV⟩ := hS.1.2.2.1 i (by omega)
        obtain ⟨x, hx⟩ : ∃ x, al S u v i = x := ⟨_, rfl⟩
        have hx3 : x ≤ 3 := by rw [← hx]; exact al_3' S u v i
        have L94 : xV p l e (xR 5 113 2 16) s m args below meth c D b 16 2 16 (MQ below (xQ D b (b + (k + 2)) (fun y' h' => ∃ τ : XM, y' = some (.int (nI 1)) ∧ RR τ S u w ∧ h' = xH D b τ)) args s 2 16 (fun q => b ≤ q)) (b + (k + 2)) (xH D b τa) 94 [some (.ref (b + 0)), some (.int (nI u)), some (.int (nI (xcnt (fun i => 0 < S m_alarmOf i) (i + 1)))), some (.int (nI (xcnt (fun i => S m_hasProof i ≠ 0) (i + 1)))), some (.int (xsum (S m_lettersOf) (i + 1))), some (.int (xsum (S m_doneOf) (i + 1))), some (.int (nI (apc (fkQ S u) u i))), some (.int t7), some (.int (bitM (unQ S u) i)), some (.ref (b + k)), some (.ref (b + (k + 1))), some (.int (nI i)), o12, o13, o14, o15] [] := by
          refine xi_aload_n hC dL_same_94 (pc' := 95) rfl rfl rfl ?_
          refine xi_iconst (v := nI 0) hC dL_same_95 (pc' := 96) rfl (by decide +kernel) ?_
          refine xi_iload hC dL_same_96 (pc' := 98) rfl rfl ?_
          refine xi_iload_n hC dL_same_98 (pc' := 99) rfl rfl rfl ?_
          refine xi_aload hC dL_same_99 (pc' := 101) rfl rfl ?_
          refine xi_callS (As := [.ref (b + 0), .int (nI 0), .int (nI i), .int (nI u), .ref (b + k)]) (rest := []) (c_L_readv l D b (b + (k + 2)) (σ := τa) (S := S) (N := N) (u := u) (w := w) hS hRa (by omega) (t := k) (by omega) la (f := (rG S i)) (by omega) (fun q hq => sv_0 (by omega) hq (by omega))) hC dL_same_101 (pc' := 104) rfl xw_m_L_22 xw_c_L_read xw_sta_L_read xw_ini_L xd_L_read ⟨Nat.le_of_ble_eq_true rfl, Nat.le_of_ble_eq_true rfl⟩ rfl (Nat.le_of_ble_eq_true rfl) ⟨Nat.le_of_ble_eq_true rfl, Nat.le_of_ble_eq_true rfl⟩ ?_
          rintro _ _ ⟨σ21, rfl, heσ21, hfσ21, hlσ21, rfl⟩
          show xV _ _ _ _ _ _ _ _ _ _ _ _ _ _ _ _ _ (xH D b σ21) _ _ []
          have hRσ21 := hRa.hi (by omega) (fun o ho => heσ21 o (by omega))
          have hlσ21_k1 : σ21 (k + 1) 4096 = nI 8 := by rw [heσ21 (k + 1) (by omega)]; exact lb
          refine xi_aload_n hC dL_same_104 (pc' := 105) rfl rfl rfl ?_
          refine xi_iconst (v := nI 1) hC dL_same_105 (pc' := 106) rfl (by decide +kernel) ?_
          refine xi_iload hC dL_same_106 (pc' := 108) rfl rfl ?_
          refine xi_iload_n hC dL_same_108 (pc' := 109) rfl rfl rfl ?_
          refine xi_aload hC dL_same_109 (pc' := 111) rfl rfl ?_
          refine xi_callS (As := [.ref (b + 0), .int (nI 1), .int (nI i), .int (nI u), .ref (b + (k + 1))]) (rest := []) (c_L_readv l D b (b + (k + 2)) (σ := σ21) (S := S) (N := N) (u := u) (w := w) hS hRσ21 (by omega) (t := (k + 1)) (by omega) hlσ21_k1 (f := (rK S i)) (by omega) (fun q hq => sv_1 (by omega) hq (by omega))) hC dL_same_111 (pc' := 114) rfl xw_m_L_22 xw_c_L_read xw_sta_L_read xw_ini_L xd_L_read ⟨Nat.le_of_ble_eq_true rfl, Nat.le_of_ble_eq_true rfl⟩ rfl (Nat.le_of_ble_eq_true rfl) ⟨Nat.le_of_ble_eq_true rfl, Nat.le_of_ble_eq_true rfl⟩ ?_
          rintro _ _ ⟨σ22, rfl, heσ22, hfσ22, hlσ22, rfl⟩
          show xV _ _ _ _ _ _ _ _ _ _ _ _ _ _ _ _ _ (xH D b σ22) _ _ []
          have hRσ22 := hRσ21.hi (by omega) (fun o ho => heσ22 o (by omega))
          have hlσ22_k : σ22 k 4096 = nI 8 := by rw [heσ22 k (by omega)]; exact hlσ21
          have hfσ22_k : ∀ zz, zz < u → σ22 k zz = (rG S i) zz := fun q hq => by rw [heσ22 k (by omega)]; exact hfσ21 q hq
          refine xi_aload hC dL_same_114 (pc' := 116) rfl rfl ?_
          refine xi_aload hC dL_same_116 (pc' := 118) rfl rfl ?_
          refine xi_iload_n hC dL_same_118 (pc' := 119) rfl rfl rfl ?_
          refine xi_callS (As := [.ref (b + k), .ref (b + (k + 1)), .int (nI u)]) (rest := []) (c_L_most l D b (b + (k + 2)) (σ := σ22) (ta := k) (tb := (k + 1)) (u := u) (by omega) (by omega) hlσ22_k hlσ22 (by omega)) hC dL_same_119 (pc' := 122) rfl xw_m_L_28 xw_c_L_most xw_sta_L_most xw_ini_L xd_L_most ⟨Nat.le_of_ble_eq_true rfl, Nat.le_of_ble_eq_true rfl⟩ rfl (Nat.le_of_ble_eq_true rfl) ⟨Nat.le_of_ble_eq_true rfl, Nat.le_of_ble_eq_true rfl⟩ ?_
          rintro _ _ ⟨rfl, rfl⟩
          show xV _ _ _ _ _ _ _ _ _ _ _ _ _ _ _ _ _ (xH D b σ22) _ _ [.int (bI (vle u (σ22 k) (σ22 (k + 1))))]
          refine xtop (y := (bI (vle u (rG S i) (rK S i)))) (bI_congr (vle_congr hfσ22_k hfσ22)) ?_
          have L149 : xV p l e (xR 5 113 2 16) s m args below meth c D b 16 2 16 (MQ below (xQ D b (b + (k + 2)) (fun y' h' => ∃ τ : XM, y' = some (.int (nI 1)) ∧ RR τ S u w ∧ h' = xH D b τ)) args s 2 16 (fun q => b ≤ q)) (b + (k + 2)) (xH D b σ22) 149 [some (.ref (b + 0)), some (.int (nI u)), some (.int (nI (xcnt (fun i => 0 < S m_alarmOf i) (i + 1)))), some (.int (nI (xcnt (fun i => S m_hasProof i ≠ 0) (i + 1)))), some (.int (xsum (S m_lettersOf) (i + 1))), some (.int (xsum (S m_doneOf) (i + 1))), some (.int (nI (apc (fkQ S u) u i))), some (.int t7), some (.int (bitM (unQ S u) i)), some (.ref (b + k)), some (.ref (b + (k + 1))), some (.int (nI i)), o12, o13, o14, o15] [.int (bI (knP S u i 0))] := by
            refine xi_istore (lv' := [some (.ref (b + 0)), some (.int (nI u)), some (.int (nI (xcnt (fun i => 0 < S m_alarmOf i) (i + 1)))), some (.int (nI (xcnt (fun i => S m_hasProof i ≠ 0) (i + 1)))), some (.int (xsum (S m_lettersOf) (i + 1))), some (.int (xsum (S m_doneOf) (i + 1))), some (.int (nI (apc (fkQ S u) u i))), some (.int t7), some (.int (bitM (unQ S u) i)), some (.ref (b + k)), some (.ref (b + (k + 1))), some (.int (nI i)), some (.int (bI (knP S u i 0))), o13, o14, o15]) hC dL_same_149 (pc' := 151) rfl (by decide) rfl ?_
            have L235 : xV p l e (xR 5 113 2 16) s m args below meth c D b 16 2 16 (MQ below (xQ D b (b + (k + 2)) (fun y' h' => ∃ τ : XM, y' = some (.int (nI 1)) ∧ RR τ S u w ∧ h' = xH D b τ)) args s 2 16 (fun q => b ≤ q)) (b + (k + 2)) (xH D b σ22) 235 [some (.ref (b + 0)), some (.int (nI u)), some (.int (nI (xcnt (fun i => 0 < S m_alarmOf i) (i + 1)))), some (.int (nI (xcnt (fun i => S m_hasProof i ≠ 0) (i + 1)))), some (.int (xsum (S m_lettersOf) (i + 1))), some (.int (xsum (S m_doneOf) (i + 1))), some (.int (nI (apc (fkQ S u) u i))), some (.int t7), some (.int (bitM (unQ S u) i)), some (.ref (b + k)), some (.ref (b + (k + 1))), some (.int (nI i)), some (.int (bI (knP S u i 0))), o13, o14, o15] [] := by
              refine xi_iconst (v := nI 0) hC dL_same_235 (pc' := 236) rfl (by decide +kernel) ?_
              refine xi_istore (lv' := [some (.ref (b + 0)), some (.int (nI u)), some (.int (nI (xcnt (fun i => 0 < S m_alarmOf i) (i + 1)))), some (.int (nI (xcnt (fun i => S m_hasProof i ≠ 0) (i + 1)))), some (.int (xsum (S m_lettersOf) (i + 1))), some (.int (xsum (S m_doneOf) (i + 1))), some (.int (nI (apc (fkQ S u) u i))), some (.int t7), some (.int (bitM (unQ S u) i)), some (.ref (b + k)), some (.ref (b + (k + 1))), some (.int (nI i)), some (.int (bI (knP S u i 0))), some (.int (nI 0)), o14, o15]) hC dL_same_236 (pc' := 238) rfl (by decide) rfl ?_
              refine xlv (lv' := [some (.ref (b + 0)), some (.int (nI u)), some (.int (nI (xcnt (fun i => 0 < S m_alarmOf i) (i + 1)))), some (.int (nI (xcnt (fun i => S m_hasProof i ≠ 0) (i + 1)))), some (.int (xsum (S m_lettersOf) (i + 1))), some (.int (xsum (S m_doneOf) (i + 1))), some (.int (nI (apc (fkQ S u) u i + xcnt (fun j => i < j ∧ fkQ S u i j) 0))), some (.int t7), some (.int (bitM (unQ S u) i)), some (.ref (b + k)), some (.ref (b + (k + 1))), some (.int (nI i)), some (.int (bI (knP S u i 0))), some (.int (nI 0)), o14, o15]) (by simp only [xcnt, Nat.add_zero]) ?_
              have L238 : ∀ (d : Nat) (j : Nat) (τj : XM) (t8 : Int32) (o16 : Option Value) (o17 : Option Value), u - j < d → (j ≤ u) → (RR τj S u w) → (τj k 4096 = nI 8) → (τj (k + 1) 4096 = nI 8) → (TL S u i j t8) → xV p l e (xR 5 113 2 16) s m args below meth c D b 16 2 16 (MQ below (xQ D b (b + (k + 2)) (fun y' h' => ∃ τ : XM, y' = some (.int (nI 1)) ∧ RR τ S u w ∧ h' = xH D b τ)) args s 2 16 (fun q => b ≤ q)) (b + (k + 2)) (xH D b τj) 238 [some (.ref (b + 0)), some (.int (nI u)), some (.int (nI (xcnt (fun i => 0 < S m_alarmOf i) (i + 1)))), some (.int (nI (xcnt (fun i => S m_hasProof i ≠ 0) (i + 1)))), some (.int (xsum (S m_lettersOf) (i + 1))), some (.int (xsum (S m_doneOf) (i + 1))), some (.int (nI (apc (fkQ S u) u i + xcnt (fun j => i < j ∧ fkQ S u i j) j))), some (.int t8), some (.int (bitM (unQ S u) i)), some (.ref (b + k)), some (.ref (b + (k + 1))), some (.int (nI i)), some (.int (bI (knP S u i j))), some (.int (nI j)), o16, o17] [] := by
                intro d
                induction d with
                | zero => intro j τj t8 o16 o17 h; exact absurd h (Nat.not_lt_zero _)
                | succ d ih238 =>
                  intro j τj t8 o16 o17 hd238 hj0 hRj la2 lb2 hT2
                  refine xi_iload hC dL_same_238 (pc' := 240) rfl rfl ?_
                  refine xi_iload_n hC dL_same_240 (pc' := 241) rfl rfl rfl ?_
                  refine xn_icmpge (tgt := 455) hC dL_same_241 (pc' := 244) rfl (by decide) (by omega) (by omega) (fun zc241 => ?_) (fun zc241 => ?_)
                  · skip
                    have e9 : u = j := by omega
                    subst e9
                    have L473 : xV p l e (xR 5 113 2 16) s m args below meth c D b 16 2 16 (MQ below (xQ D b (b + (k + 2)) (fun y' h' => ∃ τ : XM, y' = some (.int (nI 1)) ∧ RR τ S u w ∧ h' = xH D b τ)) args s 2 16 (fun q => b ≤ q)) (b + (k + 2)) (xH D b τj) 473 [some (.ref (b + 0)), some (.int (nI u)), some (.int (nI (xcnt (fun i => 0 < S m_alarmOf i) (i + 1)))), some (.int (nI (xcnt (fun i => S m_hasProof i ≠ 0) (i + 1)))), some (.int (xsum (S m_lettersOf) (i + 1))), some (.int (xsum (S m_doneOf) (i + 1))), some (.int (nI (apc (fkQ S u) u i + xcnt (fun j => i < j ∧ fkQ S u i j) u))), some (.int t8), some (.int (bitM (unQ S u) (i + 1))), some (.ref (b + k)), some (.ref (b + (k + 1))), some (.int (nI i)), some (.int (bI (knP S u i u))), some (.int (nI u)), o16, o17] [] := by
                      by_cases hp : S m_hasProof i = 0
                      · skip
                        refine xi_aload_n hC dL_same_473 (pc' := 474) rfl rfl rfl ?_
                        refine xi_iload hC dL_same_474 (pc' := 476) rfl rfl ?_
                        refine xi_iconst (v := nI 2) hC dL_same_476 (pc' := 477) rfl (by decide +kernel) ?_
                        refine xi_callV (As := [.int (nI i), .int (nI 2)]) (rest := []) (c_X7_user l D b (b + (k + 2)) (σ := τj) (S := S) (N := N) (u := u) (w := w) hS hRj (by omega) (x := (nI i)) (y := (nI 2))) hC dL_same_477 (pc' := 480) rfl xw_m_L_18 xw_c_X7_user xw_ins_X7_user xw_sel_X7_user xw_ini_X7 xd_X7_user (xH_at.trans (xsh_7 kd_0)) rfl ⟨Nat.le_of_ble_eq_true rfl, Nat.le_of_ble_eq_true rfl⟩ rfl (Nat.le_of_ble_eq_true rfl) ⟨Nat.le_of_ble_eq_true rfl, Nat.le_of_ble_eq_true rfl⟩ ?_
                        rintro _ _ ⟨r23, rfl, hO24, rfl⟩
                        obtain rfl : r23 = (nI 0) := hO24 _ (su_2f (by omega) (by omega) hp)
                        show xV _ _ _ _ _ _ _ _ _ _ _ _ _ _ _ _ _ (xH D b τj) _ _ [.int (nI 0)]
                        refine xi_iconst (v := nI 1) hC dL_same_480 (pc' := 481) rfl (by decide +kernel) ?_
                        refine xn_icmpne (tgt := 528) hC dL_same_481 (pc' := 484) rfl (by decide) (by omega) (by omega) (fun zc481 => ?_) (fun zc481 => ?_)
                        · skip
                          refine xi_aload_n hC dL_same_528 (pc' := 529) rfl rfl rfl ?_
                          refine xi_iload hC dL_same_529 (pc' := 531) rfl rfl ?_
                          refine xi_iconst (v := nI 2) hC dL_same_531 (pc' := 532) rfl (by decide +kernel) ?_
                          refine xi_iconst (v := nI 0) hC dL_same_532 (pc' := 533) rfl (by decide +kernel) ?_
                          refine xi_callV (As := [.int (nI i), .int (nI 2), .int (nI 0)]) (rest := []) (c_X7_vector l D b (b + (k + 2)) (σ := τj) (S := S) (N := N) (u := u) (w := w) hS hRj (by omega) (x := (nI i)) (y := (nI 2)) (z := (nI 0))) hC dL_same_533 (pc' := 536) rfl xw_m_L_9 xw_c_X7_vector xw_ins_X7_vector xw_sel_X7_vector xw_ini_X7 xd_X7_vector (xH_at.trans (xsh_7 kd_0)) rfl ⟨Nat.le_of_ble_eq_true rfl, Nat.le_of_ble_eq_true rfl⟩ rfl (Nat.le_of_ble_eq_true rfl) ⟨Nat.le_of_ble_eq_true rfl, Nat.le_of_ble_eq_true rfl⟩ ?_
                          rintro _ _ ⟨r25, rfl, hO26, rfl⟩
                          obtain rfl : r25 = (-10005) := hO26 _ (sv_2f (by omega) (by omega) (by omega) hp)
                          show xV _ _ _ _ _ _ _ _ _ _ _ _ _ _ _ _ _ (xH D b τj) _ _ [.int (-10005)]
                          refine xi_sipush (v := -10005) hC dL_same_536 (pc' := 539) rfl (by decide +kernel) ?_
                          refine xi_icmpne (tgt := 556) hC dL_same_539 (pc' := 542) rfl (by decide) (fun zc539 => ?_) (fun zc539 => ?_)
                          · exact absurd rfl zc539
                          · skip
                            refine xi_aload_n hC dL_same_542 (pc' := 543) rfl rfl rfl ?_
                            refine xi_iload hC dL_same_543 (pc' := 545) rfl rfl ?_
                            refine xi_iconst (v := nI 3) hC dL_same_545 (pc' := 546) rfl (by decide +kernel) ?_
                            refine xi_iconst (v := nI 0) hC dL_same_546 (pc' := 547) rfl (by decide +kernel) ?_
                            refine xi_callV (As := [.int (nI i), .int (nI 3), .int (nI 0)]) (rest := []) (c_X7_vector l D b (b + (k + 2)) (σ := τj) (S := S) (N := N) (u := u) (w := w) hS hRj (by omega) (x := (nI i)) (y := (nI 3)) (z := (nI 0))) hC dL_same_547 (pc' := 550) rfl xw_m_L_9 xw_c_X7_vector xw_ins_X7_vector xw_sel_X7_vector xw_ini_X7 xd_X7_vector (xH_at.trans (xsh_7 kd_0)) rfl ⟨Nat.le_of_ble_eq_true rfl, Nat.le_of_ble_eq_true rfl⟩ rfl (Nat.le_of_ble_eq_true rfl) ⟨Nat.le_of_ble_eq_true rfl, Nat.le_of_ble_eq_true rfl⟩ ?_
                            rintro _ _ ⟨r27, rfl, hO28, rfl⟩
                            obtain rfl : r27 = (-10005) := hO28 _ (sv_3f (by omega) (by omega) (by omega) hp)
                            show xV _ _ _ _ _ _ _ _ _ _ _ _ _ _ _ _ _ (xH D b τj) _ _ [.int (-10005)]
                            refine xi_sipush (v := -10005) hC dL_same_550 (pc' := 553) rfl (by decide +kernel) ?_
                            refine xi_icmpeq (tgt := 558) hC dL_same_553 (pc' := 556) rfl (by decide) (fun zc553 => ?_) (fun zc553 => ?_)
                            · skip
                              refine xlv (lv' := [some (.ref (b + 0)), some (.int (nI u)), some (.int (nI (xcnt (fun i => 0 < S m_alarmOf i) (i + 1)))), some (.int (nI (xcnt (fun i => S m_hasProof i ≠ 0) (i + 1)))), some (.int (xsum (S m_lettersOf) (i + 1))), some (.int (xsum (S m_doneOf) (i + 1))), some (.int (nI (apc (fkQ S u) u (i + 1)))), some (.int t8), some (.int (bitM (unQ S u) (i + 1))), some (.ref (b + k)), some (.ref (b + (k + 1))), some (.int (nI i)), some (.int (bI (knP S u i u))), some (.int (nI u)), o16, o17]) (by rw [apc_s]) ?_
                              refine xn_iinc (lv' := [some (.ref (b + 0)), some (.int (nI u)), some (.int (nI (xcnt (fun i => 0 < S m_alarmOf i) (i + 1)))), some (.int (nI (xcnt (fun i => S m_hasProof i ≠ 0) (i + 1)))), some (.int (xsum (S m_lettersOf) (i + 1))), some (.int (xsum (S m_doneOf) (i + 1))), some (.int (nI (apc (fkQ S u) u (i + 1)))), some (.int t8), some (.int (bitM (unQ S u) (i + 1))), some (.ref (b + k)), some (.ref (b + (k + 1))), some (.int (nI (i + 1))), some (.int (bI (knP S u i u))), some (.int (nI u)), o16, o17]) hC dL_same_558 (pc' := 561) rfl rfl (by decide) rfl ?_
                              refine xi_goto (tgt := 36) hC dL_same_561 (by decide) ?_
                              refine ih36 (i + 1) _ _ _ _ _ _ (by omega) ?_ ?_ ?_ ?_ ?_
                              · omega
                              · exact hRj
                              · exact la2
                              · exact lb2
                              · exact TL_row hT2
                            · exact absurd rfl zc553
                        · exact absurd zc481 (by decide)
                      · skip
                        have hap : 0 < a := (alm_pos hA (by omega)).mp ((hJ i hi).2.1 hp)
                        obtain ⟨⟨d, hd, eD⟩, hn1, hn2⟩ := (hJ i hi).2.2 hp
                        refine xi_aload_n hC dL_same_473 (pc' := 474) rfl rfl rfl ?_
                        refine xi_iload hC dL_same_474 (pc' := 476) rfl rfl ?_
                        refine xi_iconst (v := nI 2) hC dL_same_476 (pc' := 477) rfl (by decide +kernel) ?_
                        refine xi_callV (As := [.int (nI i), .int (nI 2)]) (rest := []) (c_X7_user l D b (b + (k + 2)) (σ := τj) (S := S) (N := N) (u := u) (w := w) hS hRj (by omega) (x := (nI i)) (y := (nI 2))) hC dL_same_477 (pc' := 480) rfl xw_m_L_18 xw_c_X7_user xw_ins_X7_user xw_sel_X7_user xw_ini_X7 xd_X7_user (xH_at.trans (xsh_7 kd_0)) rfl ⟨Nat.le_of_ble_eq_true rfl, Nat.le_of_ble_eq_true rfl⟩ rfl (Nat.le_of_ble_eq_true rfl) ⟨Nat.le_of_ble_eq_true rfl, Nat.le_of_ble_eq_true rfl⟩ ?_
                        rintro _ _ ⟨r29, rfl, hO30, rfl⟩
                        obtain rfl : r29 = (nI 1) := hO30 _ (su_2t (by omega) (by omega) hp)
                        show xV _ _ _ _ _ _ _ _ _ _ _ _ _ _ _ _ _ (xH D b τj) _ _ [.int (nI 1)]
                        refine xi_iconst (v := nI 1) hC dL_same_480 (pc' := 481) rfl (by decide +kernel) ?_
                        refine xn_icmpne (tgt := 528) hC dL_same_481 (pc' := 484) rfl (by decide) (by omega) (by omega) (fun zc481 => ?_) (fun zc481 => ?_)
                        · exact absurd zc481 (by decide)
                        · skip
                          refine xi_aload_n hC dL_same_484 (pc' := 485) rfl rfl rfl ?_
                          refine xi_iconst (v := nI 2) hC dL_same_485 (pc' := 486) rfl (by decide +kernel) ?_
                          refine xi_iload hC dL_same_486 (pc' := 488) rfl rfl ?_
                          refine xi_iload_n hC dL_same_488 (pc' := 489) rfl rfl rfl ?_
                          refine xi_aload hC dL_same_489 (pc' := 491) rfl rfl ?_
                          refine xi_callS (As := [.ref (b + 0), .int (nI 2), .int (nI i), .int (nI u), .ref (b + k)]) (rest := []) (c_L_readv l D b (b + (k + 2)) (σ := τj) (S := S) (N := N) (u := u) (w := w) hS hRj (by omega) (t := k) (by omega) la2 (f := (pF S i)) (by omega) (fun q hq => sv_2t (by omega) hq (by omega) hp)) hC dL_same_491 (pc' := 494) rfl xw_m_L_22 xw_c_L_read xw_sta_L_read xw_ini_L xd_L_read ⟨Nat.le_of_ble_eq_true rfl, Nat.le_of_ble_eq_true rfl⟩ rfl (Nat.le_of_ble_eq_true rfl) ⟨Nat.le_of_ble_eq_true rfl, Nat.le_of_ble_eq_true rfl⟩ ?_
                          rintro _ _ ⟨σ31, rfl, heσ31, hfσ31, hlσ31, rfl⟩
                          show xV _ _ _ _ _ _ _ _ _ _ _ _ _ _ _ _ _ (xH D b σ31) _ _ []
                          have hRσ31 := hRj.hi (by omega) (fun o ho => heσ31 o (by omega))
                          have hlσ31_k1 : σ31 (k + 1) 4096 = nI 8 := by rw [heσ31 (k + 1) (by omega)]; exact lb2
                          refine xi_aload_n hC dL_same_494 (pc' := 495) rfl rfl rfl ?_
                          refine xi_iconst (v := nI 3) hC dL_same_495 (pc' := 496) rfl (by decide +kernel) ?_
                          refine xi_iload hC dL_same_496 (pc' := 498) rfl rfl ?_
                          refine xi_iload_n hC dL_same_498 (pc' := 499) rfl rfl rfl ?_
                          refine xi_aload hC dL_same_499 (pc' := 501) rfl rfl ?_
                          refine xi_callS (As := [.ref (b + 0), .int (nI 3), .int (nI i), .int (nI u), .ref (b + (k + 1))]) (rest := []) (c_L_readv l D b (b + (k + 2)) (σ := σ31) (S := S) (N := N) (u := u) (w := w) hS hRσ31 (by omega) (t := (k + 1)) (by omega) hlσ31_k1 (f := (pS S i)) (by omega) (fun q hq => sv_3t (by omega) hq (by omega) hp)) hC dL_same_501 (pc' := 504) rfl xw_m_L_22 xw_c_L_read xw_sta_L_read xw_ini_L xd_L_read ⟨Nat.le_of_ble_eq_true rfl, Nat.le_of_ble_eq_true rfl⟩ rfl (Nat.le_of_ble_eq_true rfl) ⟨Nat.le_of_ble_eq_true rfl, Nat.le_of_ble_eq_true rfl⟩ ?_
                          rintro _ _ ⟨σ32, rfl, heσ32, hfσ32, hlσ32, rfl⟩
                          show xV _ _ _ _ _ _ _ _ _ _ _ _ _ _ _ _ _ (xH D b σ32) _ _ []
                          have hRσ32 := hRσ31.hi (by omega) (fun o ho => heσ32 o (by omega))
                          have hlσ32_k : σ32 k 4096 = nI 8 := by rw [heσ32 k (by omega)]; exact hlσ31
                          have hfσ32_k : ∀ zz, zz < u → σ32 k zz = (pF S i) zz := fun q hq => by rw [heσ32 k (by omega)]; exact hfσ31 q hq
                          refine xi_aload hC dL_same_504 (pc' := 506) rfl rfl ?_
                          refine xi_aload hC dL_same_506 (pc' := 508) rfl rfl ?_
                          refine xi_iload_n hC dL_same_508 (pc' := 509) rfl rfl rfl ?_
                          refine xi_callS (As := [.ref (b + k), .ref (b + (k + 1)), .int (nI u)]) (rest := []) (c_L_most l D b (b + (k + 2)) (σ := σ32) (ta := k) (tb := (k + 1)) (u := u) (by omega) (by omega) hlσ32_k hlσ32 (by omega)) hC dL_same_509 (pc' := 512) rfl xw_m_L_28 xw_c_L_most xw_sta_L_most xw_ini_L xd_L_most ⟨Nat.le_of_ble_eq_true rfl, Nat.le_of_ble_eq_true rfl⟩ rfl (Nat.le_of_ble_eq_true rfl) ⟨Nat.le_of_ble_eq_true rfl, Nat.le_of_ble_eq_true rfl⟩ ?_
                          rintro _ _ ⟨rfl, rfl⟩
                          show xV _ _ _ _ _ _ _ _ _ _ _ _ _ _ _ _ _ (xH D b σ32) _ _ [.int (bI (vle u (σ32 k) (σ32 (k + 1))))]
                          refine xtop (y := (bI (vle u (pF S i) (pS S i)))) (bI_congr (vle_congr hfσ32_k hfσ32)) ?_
                          refine xb_ifne (tgt := 526) hC dL_same_512 (pc' := 515) rfl (by decide) (fun zc512 => ?_) (fun zc512 => ?_)
                          · exact absurd zc512 hn1
                          · skip
                            refine xi_aload hC dL_same_515 (pc' := 517) rfl rfl ?_
                            refine xi_aload hC dL_same_517 (pc' := 519) rfl rfl ?_
                            refine xi_iload_n hC dL_same_519 (pc' := 520) rfl rfl rfl ?_
                            refine xi_callS (As := [.ref (b + (k + 1)), .ref (b + k), .int (nI u)]) (rest := []) (c_L_most l D b (b + (k + 2)) (σ := σ32) (ta := (k + 1)) (tb := k) (u := u) (by omega) (by omega) hlσ32 hlσ32_k (by omega)) hC dL_same_520 (pc' := 523) rfl xw_m_L_28 xw_c_L_most xw_sta_L_most xw_ini_L xd_L_most ⟨Nat.le_of_ble_eq_true rfl, Nat.le_of_ble_eq_true rfl⟩ rfl (Nat.le_of_ble_eq_true rfl) ⟨Nat.le_of_ble_eq_true rfl, Nat.le_of_ble_eq_true rfl⟩ ?_
                            rintro _ _ ⟨rfl, rfl⟩
                            show xV _ _ _ _ _ _ _ _ _ _ _ _ _ _ _ _ _ (xH D b σ32) _ _ [.int (bI (vle u (σ32 (k + 1)) (σ32 k)))]
                            refine xtop (y := (bI (vle u (pS S i) (pF S i)))) (bI_congr (vle_congr hfσ32 hfσ32_k)) ?_
                            refine xb_ifeq (tgt := 558) hC dL_same_523 (pc' := 526) rfl (by decide) (fun zc523 => ?_) (fun zc523 => ?_)
                            · skip
                              refine xlv (lv' := [some (.ref (b + 0)), some (.int (nI u)), some (.int (nI (xcnt (fun i => 0 < S m_alarmOf i) (i + 1)))), some (.int (nI (xcnt (fun i => S m_hasProof i ≠ 0) (i + 1)))), some (.int (xsum (S m_lettersOf) (i + 1))), some (.int (xsum (S m_doneOf) (i + 1))), some (.int (nI (apc (fkQ S u) u (i + 1)))), some (.int t8), some (.int (bitM (unQ S u) (i + 1))), some (.ref (b + k)), some (.ref (b + (k + 1))), some (.int (nI i)), some (.int (bI (knP S u i u))), some (.int (nI u)), o16, o17]) (by rw [apc_s]) ?_
                              refine xn_iinc (lv' := [some (.ref (b + 0)), some (.int (nI u)), some (.int (nI (xcnt (fun i => 0 < S m_alarmOf i) (i + 1)))), some (.int (nI (xcnt (fun i => S m_hasProof i ≠ 0) (i + 1)))), some (.int (xsum (S m_lettersOf) (i + 1))), some (.int (xsum (S m_doneOf) (i + 1))), some (.int (nI (apc (fkQ S u) u (i + 1)))), some (.int t8), some (.int (bitM (unQ S u) (i + 1))), some (.ref (b + k)), some (.ref (b + (k + 1))), some (.int (nI (i + 1))), some (.int (bI (knP S u i u))), some (.int (nI u)), o16, o17]) hC dL_same_558 (pc' := 561) rfl rfl (by decide) rfl ?_
                              refine xi_goto (tgt := 36) hC dL_same_561 (by decide) ?_
                              refine ih36 (i + 1) _ _ _ _ _ _ (by omega) ?_ ?_ ?_ ?_ ?_
                              · omega
                              · exact hRσ32
                              · exact hlσ32_k
                              · exact hlσ32
                              · exact TL_row hT2
                            · exact absurd zc523 hn2
                    refine xi_iload hC dL_same_455 (pc' := 457) rfl rfl ?_
                    refine xi_iload hC dL_same_457 (pc' := 459) rfl rfl ?_
                    refine xb_ifeq (tgt := 469) hC dL_same_459 (pc' := 462) rfl (by decide) (fun zc459 => ?_) (fun zc459 => ?_)
                    · skip
                      refine xi_iconst (v := nI 0) hC dL_same_469 (pc' := 470) rfl (by decide +kernel) ?_
                      refine xi_ior hC dL_same_470 (pc' := 471) rfl ?_
                      refine xtop (y := (bitM (unQ S u) (i + 1))) ((or_0 _).trans (bitM_f (Q := unQ S u) (k := i) zc459).symm) ?_
                      refine xi_istore (lv' := [some (.ref (b + 0)), some (.int (nI u)), some (.int (nI (xcnt (fun i => 0 < S m_alarmOf i) (i + 1)))), some (.int (nI (xcnt (fun i => S m_hasProof i ≠ 0) (i + 1)))), some (.int (xsum (S m_lettersOf) (i + 1))), some (.int (xsum (S m_doneOf) (i + 1))), some (.int (nI (apc (fkQ S u) u i + xcnt (fun j => i < j ∧ fkQ S u i j) u))), some (.int t8), some (.int (bitM (unQ S u) (i + 1))), some (.ref (b + k)), some (.ref (b + (k + 1))), some (.int (nI i)), some (.int (bI (knP S u i u))), some (.int (nI u)), o16, o17]) hC dL_same_471 (pc' := 473) rfl (by decide) rfl ?_
                      refine L473  
                    · skip
                      refine xi_iconst (v := nI 1) hC dL_same_462 (pc' := 463) rfl (by decide +kernel) ?_
                      refine xi_iload hC dL_same_463 (pc' := 465) rfl rfl ?_
                      refine xi_ishl hC dL_same_465 (pc' := 466) rfl ?_
                      refine xi_goto (tgt := 470) hC dL_same_466 (by decide) ?_
                      refine xi_ior hC dL_same_470 (pc' := 471) rfl ?_
                      refine xtop (y := (bitM (unQ S u) (i + 1))) ((bitM_t (Q := unQ S u) (k := i) zc459).symm) ?_
                      refine xi_istore (lv' := [some (.ref (b + 0)), some (.int (nI u)), some (.int (nI (xcnt (fun i => 0 < S m_alarmOf i) (i + 1)))), some (.int (nI (xcnt (fun i => S m_hasProof i ≠ 0) (i + 1)))), some (.int (xsum (S m_lettersOf) (i + 1))), some (.int (xsum (S m_doneOf) (i + 1))), some (.int (nI (apc (fkQ S u) u i + xcnt (fun j => i < j ∧ fkQ S u i j) u))), some (.int t8), some (.int (bitM (unQ S u) (i + 1))), some (.ref (b + k)), some (.ref (b + (k + 1))), some (.int (nI i)), some (.int (bI (knP S u i u))), some (.int (nI u)), o16, o17]) hC dL_same_471 (pc' := 473) rfl (by decide) rfl ?_
                      refine L473  
                  · skip
                    have hj := zc241
                    obtain ⟨aj, haj5, hAj⟩ := hS.1.2.2.2.2.2.2 j (by omega)
                    refine xi_iconst (v := nI 0) hC dL_same_244 (pc' := 245) rfl (by decide +kernel) ?_
                    refine xi_istore (lv' := [some (.ref (b + 0)), some (.int (nI u)), some (.int (nI (xcnt (fun i => 0 < S m_alarmOf i) (i + 1)))), some (.int (nI (xcnt (fun i => S m_hasProof i ≠ 0) (i + 1)))), some (.int (xsum (S m_lettersOf) (i + 1))), some (.int (xsum (S m_doneOf) (i + 1))), some (.int (nI (apc (fkQ S u) u i + xcnt (fun j => i < j ∧ fkQ S u i j) j))), some (.int t8), some (.int (bitM (unQ S u) i)), some (.ref (b + k)), some (.ref (b + (k + 1))), some (.int (nI i)), some (.int (bI (knP S u i j))), some (.int (nI j)), some (.int (nI 0)), o17]) hC dL_same_245 (pc' := 247) rfl (by decide) rfl ?_
                    refine xi_iload hC dL_same_247 (pc' := 249) rfl rfl ?_
                    refine xi_iconst (v := nI 2) hC dL_same_249 (pc' := 250) rfl (by decide +kernel) ?_
                    refine xn_icmpge (tgt := 449) hC dL_same_250 (pc' := 253) rfl (by decide) (by omega) (by omega) (fun zc250 => ?_) (fun zc250 => ?_)
                    · exact absurd zc250 (by decide)
                    · skip
                      refine xi_aload_n hC dL_same_253 (pc' := 254) rfl rfl rfl ?_
                      refine xi_iload hC dL_same_254 (pc' := 256) rfl rfl ?_
                      refine xi_iload hC dL_same_256 (pc' := 258) rfl rfl ?_
                      refine xi_iload_n hC dL_same_258 (pc' := 259) rfl rfl rfl ?_
                      refine xi_aload hC dL_same_259 (pc' := 261) rfl rfl ?_
                      refine xi_callS (As := [.ref (b + 0), .int (nI 0), .int (nI i), .int (nI u), .ref (b + k)]) (rest := []) (c_L_readv l D b (b + (k + 2)) (σ := τj) (S := S) (N := N) (u := u) (w := w) hS hRj (by omega) (t := k) (by omega) la2 (f := (rG S i)) (by omega) (fun q hq => sv_0 (by omega) hq (by omega))) hC dL_same_261 (pc' := 264) rfl xw_m_L_22 xw_c_L_read xw_sta_L_read xw_ini_L xd_L_read ⟨Nat.le_of_ble_eq_true rfl, Nat.le_of_ble_eq_true rfl⟩ rfl (Nat.le_of_ble_eq_true rfl) ⟨Nat.le_of_ble_eq_true rfl, Nat.le_of_ble_eq_true rfl⟩ ?_
                      rintro _ _ ⟨σ33, rfl, heσ33, hfσ33, hlσ33, rfl⟩
                      show xV _ _ _ _ _ _ _ _ _ _ _ _ _ _ _ _ _ (xH D b σ33) _ _ []
                      have hRσ33 := hRj.hi (by omega) (fun o ho => heσ33 o (by omega))
                      have hlσ33_k1 : σ33 (k + 1) 4096 = nI 8 := by rw [heσ33 (k + 1) (by omega)]; exact lb2
                      refine xi_aload_n hC dL_same_264 (pc' := 265) rfl rfl rfl ?_
                      refine xi_iload hC dL_same_265 (pc' := 267) rfl rfl ?_
                      refine xi_iload hC dL_same_267 (pc' := 269) rfl rfl ?_
                      refine xi_iload_n hC dL_same_269 (pc' := 270) rfl rfl rfl ?_
                      refine xi_aload hC dL_same_270 (pc' := 272) rfl rfl ?_
                      refine xi_callS (As := [.ref (b + 0), .int (nI 0), .int (nI j), .int (nI u), .ref (b + (k + 1))]) (rest := []) (c_L_readv l D b (b + (k + 2)) (σ := σ33) (S := S) (N := N) (u := u) (w := w) hS hRσ33 (by omega) (t := (k + 1)) (by omega) hlσ33_k1 (f := (rG S j)) (by omega) (fun q hq => sv_0 (by omega) hq (by omega))) hC dL_same_272 (pc' := 275) rfl xw_m_L_22 xw_c_L_read xw_sta_L_read xw_ini_L xd_L_read ⟨Nat.le_of_ble_eq_true rfl, Nat.le_of_ble_eq_true rfl⟩ rfl (Nat.le_of_ble_eq_true rfl) ⟨Nat.le_of_ble_eq_true rfl, Nat.le_of_ble_eq_true rfl⟩ ?_
                      rintro _ _ ⟨σ34, rfl, heσ34, hfσ34, hlσ34, rfl⟩
                      show xV _ _ _ _ _ _ _ _ _ _ _ _ _ _ _ _ _ (xH D b σ34) _ _ []
                      have hRσ34 := hRσ33.hi (by omega) (fun o ho => heσ34 o (by omega))
                      have hlσ34_k : σ34 k 4096 = nI 8 := by rw [heσ34 k (by omega)]; exact hlσ33
                      have hfσ34_k : ∀ zz, zz < u → σ34 k zz = (rG S i) zz := fun q hq => by rw [heσ34 k (by omega)]; exact hfσ33 q hq
                      refine xi_aload hC dL_same_275 (pc' := 277) rfl rfl ?_
                      refine xi_aload hC dL_same_277 (pc' := 279) rfl rfl ?_
                      refine xi_iload_n hC dL_same_279 (pc' := 280) rfl rfl rfl ?_
                      refine xi_callS (As := [.ref (b + k), .ref (b + (k + 1)), .int (nI u)]) (rest := []) (c_L_most l D b (b + (k + 2)) (σ := σ34) (ta := k) (tb := (k + 1)) (u := u) (by omega) (by omega) hlσ34_k hlσ34 (by omega)) hC dL_same_280 (pc' := 283) rfl xw_m_L_28 xw_c_L_most xw_sta_L_most xw_ini_L xd_L_most ⟨Nat.le_of_ble_eq_true rfl, Nat.le_of_ble_eq_true rfl⟩ rfl (Nat.le_of_ble_eq_true rfl) ⟨Nat.le_of_ble_eq_true rfl, Nat.le_of_ble_eq_true rfl⟩ ?_
                      rintro _ _ ⟨rfl, rfl⟩
                      show xV _ _ _ _ _ _ _ _ _ _ _ _ _ _ _ _ _ (xH D b σ34) _ _ [.int (bI (vle u (σ34 k) (σ34 (k + 1))))]
                      refine xtop (y := (bI (vle u (rG S i) (rG S j)))) (bI_congr (vle_congr hfσ34_k hfσ34)) ?_
                      have L321 : xV p l e (xR 5 113 2 16) s m args below meth c D b 16 2 16 (MQ below (xQ D b (b + (k + 2)) (fun y' h' => ∃ τ : XM, y' = some (.int (nI 1)) ∧ RR τ S u w ∧ h' = xH D b τ)) args s 2 16 (fun q => b ≤ q)) (b + (k + 2)) (xH D b σ34) 321 [some (.ref (b + 0)), some (.int (nI u)), some (.int (nI (xcnt (fun i => 0 < S m_alarmOf i) (i + 1)))), some (.int (nI (xcnt (fun i => S m_hasProof i ≠ 0) (i + 1)))), some (.int (xsum (S m_lettersOf) (i + 1))), some (.int (xsum (S m_doneOf) (i + 1))), some (.int (nI (apc (fkQ S u) u i + xcnt (fun j => i < j ∧ fkQ S u i j) j))), some (.int t8), some (.int (bitM (unQ S u) i)), some (.ref (b + k)), some (.ref (b + (k + 1))), some (.int (nI i)), some (.int (bI (knP S u i j))), some (.int (nI j)), some (.int (nI 0)), o17] [.int (rel u (rG S i) (rG S j))] := by
                        refine xi_istore (lv' := [some (.ref (b + 0)), some (.int (nI u)), some (.int (nI (xcnt (fun i => 0 < S m_alarmOf i) (i + 1)))), some (.int (nI (xcnt (fun i => S m_hasProof i ≠ 0) (i + 1)))), some (.int (xsum (S m_lettersOf) (i + 1))), some (.int (xsum (S m_doneOf) (i + 1))), some (.int (nI (apc (fkQ S u) u i + xcnt (fun j => i < j ∧ fkQ S u i j) j))), some (.int t8), some (.int (bitM (unQ S u) i)), some (.ref (b + k)), some (.ref (b + (k + 1))), some (.int (nI i)), some (.int (bI (knP S u i j))), some (.int (nI j)), some (.int (nI 0)), some (.int (rel u (rG S i) (rG S j)))]) hC dL_same_321 (pc' := 323) rfl (by decide) rfl ?_
                        refine xi_aload_n hC dL_same_323 (pc' := 324) rfl rfl rfl ?_
                        refine xi_iload hC dL_same_324 (pc' := 326) rfl rfl ?_
                        refine xi_iload hC dL_same_326 (pc' := 328) rfl rfl ?_
                        refine xi_iload hC dL_same_328 (pc' := 330) rfl rfl ?_
                        refine xi_iconst (v := nI 1) hC dL_same_330 (pc' := 331) rfl (by decide +kernel) ?_
                        refine xn_icmpne (tgt := 338) hC dL_same_331 (pc' := 334) rfl (by decide) (by omega) (by omega) (fun zc331 => ?_) (fun zc331 => ?_)
                        · skip
                          refine xi_iconst (v := nI 0) hC dL_same_338 (pc' := 339) rfl (by decide +kernel) ?_
                          refine xi_callV (As := [.int (nI i), .int (nI j), .int (nI 0)]) (rest := []) (c_X7_compare l D b (b + (k + 2)) (σ := σ34) (S := S) (N := N) (u := u) (w := w) hS hRσ34 (by omega) (x := (nI i)) (y := (nI j)) (z := (nI 0))) hC dL_same_339 (pc' := 342) rfl xw_m_L_81 xw_c_X7_compare xw_ins_X7_compare xw_sel_X7_compare xw_ini_X7 xd_X7_compare (xH_at.trans (xsh_7 kd_0)) rfl ⟨Nat.le_of_ble_eq_true rfl, Nat.le_of_ble_eq_true rfl⟩ rfl (Nat.le_of_ble_eq_true rfl) ⟨Nat.le_of_ble_eq_true rfl, Nat.le_of_ble_eq_true rfl⟩ ?_
                          rintro _ _ ⟨r35, rfl, hO36, rfl⟩
                          obtain rfl : r35 = (rel u (rG S i) (rG S j)) := hO36 _ (sp_0 (by omega) (by omega) (by omega))
                          show xV _ _ _ _ _ _ _ _ _ _ _ _ _ _ _ _ _ (xH D b σ34) _ _ [.int (rel u (rG S i) (rG S j))]
                          refine xi_iload hC dL_same_342 (pc' := 344) rfl rfl ?_
                          refine xi_icmpeq (tgt := 349) hC dL_same_344 (pc' := 347) rfl (by decide) (fun zc344 => ?_) (fun zc344 => ?_)
                          · skip
                            refine xi_iload hC dL_same_349 (pc' := 351) rfl rfl ?_
                            refine xi_iload hC dL_same_351 (pc' := 353) rfl rfl ?_
                            refine xi_iconst (v := nI 1) hC dL_same_353 (pc' := 354) rfl (by decide +kernel) ?_
                            refine xn_icmpne (tgt := 374) hC dL_same_354 (pc' := 357) rfl (by decide) (by omega) (by omega) (fun zc354 => ?_) (fun zc354 => ?_)
                            · skip
                              refine xi_iconst (v := nI 0) hC dL_same_374 (pc' := 375) rfl (by decide +kernel) ?_
                              refine xn_iadd hC dL_same_375 (pc' := 376) rfl ?_
                              refine xtop (y := nI (apc (fkQ S u) u i + xcnt (fun j => i < j ∧ fkQ S u i j) j)) (by rw [Nat.add_zero]) ?_
                              refine xi_istore (lv' := [some (.ref (b + 0)), some (.int (nI u)), some (.int (nI (xcnt (fun i => 0 < S m_alarmOf i) (i + 1)))), some (.int (nI (xcnt (fun i => S m_hasProof i ≠ 0) (i + 1)))), some (.int (xsum (S m_lettersOf) (i + 1))), some (.int (xsum (S m_doneOf) (i + 1))), some (.int (nI (apc (fkQ S u) u i + xcnt (fun j => i < j ∧ fkQ S u i j) j))), some (.int t8), some (.int (bitM (unQ S u) i)), some (.ref (b + k)), some (.ref (b + (k + 1))), some (.int (nI i)), some (.int (bI (knP S u i j))), some (.int (nI j)), some (.int (nI 0)), some (.int (rel u (rG S i) (rG S j)))]) hC dL_same_376 (pc' := 378) rfl (by decide) rfl ?_
                              refine xi_iload hC dL_same_378 (pc' := 380) rfl rfl ?_
                              refine xi_iconst (v := nI 1) hC dL_same_380 (pc' := 381) rfl (by decide +kernel) ?_
                              refine xn_icmpne (tgt := 416) hC dL_same_381 (pc' := 384) rfl (by decide) (by omega) (by omega) (fun zc381 => ?_) (fun zc381 => ?_)
                              · skip
                                refine xi_iload hC dL_same_416 (pc' := 418) rfl rfl ?_
                                refine xi_istore (lv' := [some (.ref (b + 0)), some (.int (nI u)), some (.int (nI (xcnt (fun i => 0 < S m_alarmOf i) (i + 1)))), some (.int (nI (xcnt (fun i => S m_hasProof i ≠ 0) (i + 1)))), some (.int (xsum (S m_lettersOf) (i + 1))), some (.int (xsum (S m_doneOf) (i + 1))), some (.int (nI (apc (fkQ S u) u i + xcnt (fun j => i < j ∧ fkQ S u i j) j))), some (.int t8), some (.int (bitM (unQ S u) i)), some (.ref (b + k)), some (.ref (b + (k + 1))), some (.int (nI i)), some (.int (bI (knP S u i j))), some (.int (nI j)), some (.int (nI 0)), some (.int (rel u (rG S i) (rG S j)))]) hC dL_same_418 (pc' := 420) rfl (by decide) rfl ?_
                                have L441 : xV p l e (xR 5 113 2 16) s m args below meth c D b 16 2 16 (MQ below (xQ D b (b + (k + 2)) (fun y' h' => ∃ τ : XM, y' = some (.int (nI 1)) ∧ RR τ S u w ∧ h' = xH D b τ)) args s 2 16 (fun q => b ≤ q)) (b + (k + 2)) (xH D b σ34) 441 [some (.ref (b + 0)), some (.int (nI u)), some (.int (nI (xcnt (fun i => 0 < S m_alarmOf i) (i + 1)))), some (.int (nI (xcnt (fun i => S m_hasProof i ≠ 0) (i + 1)))), some (.int (xsum (S m_lettersOf) (i + 1))), some (.int (xsum (S m_doneOf) (i + 1))), some (.int (nI (apc (fkQ S u) u i + xcnt (fun j => i < j ∧ fkQ S u i j) j))), some (.int t8), some (.int (bitM (unQ S u) i)), some (.ref (b + k)), some (.ref (b + (k + 1))), some (.int (nI i)), some (.int (bI (knP S u i j))), some (.int (nI j)), some (.int (nI 0)), some (.int (rel u (rG S i) (rG S j)))] [.int (bI (knP S u i j))] := by
                                  refine xi_istore (lv' := [some (.ref (b + 0)), some (.int (nI u)), some (.int (nI (xcnt (fun i => 0 < S m_alarmOf i) (i + 1)))), some (.int (nI (xcnt (fun i => S m_hasProof i ≠ 0) (i + 1)))), some (.int (xsum (S m_lettersOf) (i + 1))), some (.int (xsum (S m_doneOf) (i + 1))), some (.int (nI (apc (fkQ S u) u i + xcnt (fun j => i < j ∧ fkQ S u i j) j))), some (.int t8), some (.int (bitM (unQ S u) i)), some (.ref (b + k)), some (.ref (b + (k + 1))), some (.int (nI i)), some (.int (bI (knP S u i j))), some (.int (nI j)), some (.int (nI 0)), some (.int (rel u (rG S i) (rG S j)))]) hC dL_same_441 (pc' := 443) rfl (by decide) rfl ?_
                                  refine xn_iinc (lv' := [some (.ref (b + 0)), some (.int (nI u)), some (.int (nI (xcnt (fun i => 0 < S m_alarmOf i) (i + 1)))), some (.int (nI (xcnt (fun i => S m_hasProof i ≠ 0) (i + 1)))), some (.int (xsum (S m_lettersOf) (i + 1))), some (.int (xsum (S m_doneOf) (i + 1))), some (.int (nI (apc (fkQ S u) u i + xcnt (fun j => i < j ∧ fkQ S u i j) j))), some (.int t8), some (.int (bitM (unQ S u) i)), some (.ref (b + k)), some (.ref (b + (k + 1))), some (.int (nI i)), some (.int (bI (knP S u i j))), some (.int (nI j)), some (.int (nI 1)), some (.int (rel u (rG S i) (rG S j)))]) hC dL_same_443 (pc' := 446) rfl rfl (by decide) rfl ?_
                                  refine xi_goto (tgt := 247) hC dL_same_446 (by decide) ?_
                                  refine xi_iload hC dL_same_247 (pc' := 249) rfl rfl ?_
                                  refine xi_iconst (v := nI 2) hC dL_same_249 (pc' := 250) rfl (by decide +kernel) ?_
                                  refine xn_icmpge (tgt := 449) hC dL_same_250 (pc' := 253) rfl (by decide) (by omega) (by omega) (fun zc250 => ?_) (fun zc250 => ?_)
                                  · exact absurd zc250 (by decide)
                                  · skip
                                    refine xi_aload_n hC dL_same_253 (pc' := 254) rfl rfl rfl ?_
                                    refine xi_iload hC dL_same_254 (pc' := 256) rfl rfl ?_
                                    refine xi_iload hC dL_same_256 (pc' := 258) rfl rfl ?_
                                    refine xi_iload_n hC dL_same_258 (pc' := 259) rfl rfl rfl ?_
                                    refine xi_aload hC dL_same_259 (pc' := 261) rfl rfl ?_
                                    refine xi_callS (As := [.ref (b + 0), .int (nI 1), .int (nI i), .int (nI u), .ref (b + k)]) (rest := []) (c_L_readv l D b (b + (k + 2)) (σ := σ34) (S := S) (N := N) (u := u) (w := w) hS hRσ34 (by omega) (t := k) (by omega) hlσ34_k (f := (rK S i)) (by omega) (fun q hq => sv_1 (by omega) hq (by omega))) hC dL_same_261 (pc' := 264) rfl xw_m_L_22 xw_c_L_read xw_sta_L_read xw_ini_L xd_L_read ⟨Nat.le_of_ble_eq_true rfl, Nat.le_of_ble_eq_true rfl⟩ rfl (Nat.le_of_ble_eq_true rfl) ⟨Nat.le_of_ble_eq_true rfl, Nat.le_of_ble_eq_true rfl⟩ ?_
                                    rintro _ _ ⟨σ37, rfl, heσ37, hfσ37, hlσ37, rfl⟩
                                    show xV _ _ _ _ _ _ _ _ _ _ _ _ _ _ _ _ _ (xH D b σ37) _ _ []
                                    have hRσ37 := hRσ34.hi (by omega) (fun o ho => heσ37 o (by omega))
                                    have hlσ37_k1 : σ37 (k + 1) 4096 = nI 8 := by rw [heσ37 (k + 1) (by omega)]; exact hlσ34
                                    have hfσ37_k1 : ∀ zz, zz < u → σ37 (k + 1) zz = (rG S j) zz := fun q hq => by rw [heσ37 (k + 1) (by omega)]; exact hfσ34 q hq
                                    refine xi_aload_n hC dL_same_264 (pc' := 265) rfl rfl rfl ?_
                                    refine xi_iload hC dL_same_265 (pc' := 267) rfl rfl ?_
                                    refine xi_iload hC dL_same_267 (pc' := 269) rfl rfl ?_
                                    refine xi_iload_n hC dL_same_269 (pc' := 270) rfl rfl rfl ?_
                                    refine xi_aload hC dL_same_270 (pc' := 272) rfl rfl ?_
                                    refine xi_callS (As := [.ref (b + 0), .int (nI 1), .int (nI j), .int (nI u), .ref (b + (k + 1))]) (rest := []) (c_L_readv l D b (b + (k + 2)) (σ := σ37) (S := S) (N := N) (u := u) (w := w) hS hRσ37 (by omega) (t := (k + 1)) (by omega) hlσ37_k1 (f := (rK S j)) (by omega) (fun q hq => sv_1 (by omega) hq (by omega))) hC dL_same_272 (pc' := 275) rfl xw_m_L_22 xw_c_L_read xw_sta_L_read xw_ini_L xd_L_read ⟨Nat.le_of_ble_eq_true rfl, Nat.le_of_ble_eq_true rfl⟩ rfl (Nat.le_of_ble_eq_true rfl) ⟨Nat.le_of_ble_eq_true rfl, Nat.le_of_ble_eq_true rfl⟩ ?_
                                    rintro _ _ ⟨σ38, rfl, heσ38, hfσ38, hlσ38, rfl⟩
                                    show xV _ _ _ _ _ _ _ _ _ _ _ _ _ _ _ _ _ (xH D b σ38) _ _ []
                                    have hRσ38 := hRσ37.hi (by omega) (fun o ho => heσ38 o (by omega))
                                    have hlσ38_k : σ38 k 4096 = nI 8 := by rw [heσ38 k (by omega)]; exact hlσ37
                                    have hfσ38_k : ∀ zz, zz < u → σ38 k zz = (rK S i) zz := fun q hq => by rw [heσ38 k (by omega)]; exact hfσ37 q hq
                                    refine xi_aload hC dL_same_275 (pc' := 277) rfl rfl ?_
                                    refine xi_aload hC dL_same_277 (pc' := 279) rfl rfl ?_
                                    refine xi_iload_n hC dL_same_279 (pc' := 280) rfl rfl rfl ?_
                                    refine xi_callS (As := [.ref (b + k), .ref (b + (k + 1)), .int (nI u)]) (rest := []) (c_L_most l D b (b + (k + 2)) (σ := σ38) (ta := k) (tb := (k + 1)) (u := u) (by omega) (by omega) hlσ38_k hlσ38 (by omega)) hC dL_same_280 (pc' := 283) rfl xw_m_L_28 xw_c_L_most xw_sta_L_most xw_ini_L xd_L_most ⟨Nat.le_of_ble_eq_true rfl, Nat.le_of_ble_eq_true rfl⟩ rfl (Nat.le_of_ble_eq_true rfl) ⟨Nat.le_of_ble_eq_true rfl, Nat.le_of_ble_eq_true rfl⟩ ?_
                                    rintro _ _ ⟨rfl, rfl⟩
                                    show xV _ _ _ _ _ _ _ _ _ _ _ _ _ _ _ _ _ (xH D b σ38) _ _ [.int (bI (vle u (σ38 k) (σ38 (k + 1))))]
                                    refine xtop (y := (bI (vle u (rK S i) (rK S j)))) (bI_congr (vle_congr hfσ38_k hfσ38)) ?_
                                    have L321 : xV p l e (xR 5 113 2 16) s m args below meth c D b 16 2 16 (MQ below (xQ D b (b + (k + 2)) (fun y' h' => ∃ τ : XM, y' = some (.int (nI 1)) ∧ RR τ S u w ∧ h' = xH D b τ)) args s 2 16 (fun q => b ≤ q)) (b + (k + 2)) (xH D b σ38) 321 [some (.ref (b + 0)), some (.int (nI u)), some (.int (nI (xcnt (fun i => 0 < S m_alarmOf i) (i + 1)))), some (.int (nI (xcnt (fun i => S m_hasProof i ≠ 0) (i + 1)))), some (.int (xsum (S m_lettersOf) (i + 1))), some (.int (xsum (S m_doneOf) (i + 1))), some (.int (nI (apc (fkQ S u) u i + xcnt (fun j => i < j ∧ fkQ S u i j) j))), some (.int t8), some (.int (bitM (unQ S u) i)), some (.ref (b + k)), some (.ref (b + (k + 1))), some (.int (nI i)), some (.int (bI (knP S u i j))), some (.int (nI j)), some (.int (nI 1)), some (.int (rel u (rG S i) (rG S j)))] [.int (rel u (rK S i) (rK S j))] := by
                                      refine xi_istore (lv' := [some (.ref (b + 0)), some (.int (nI u)), some (.int (nI (xcnt (fun i => 0 < S m_alarmOf i) (i + 1)))), some (.int (nI (xcnt (fun i => S m_hasProof i ≠ 0) (i + 1)))), some (.int (xsum (S m_lettersOf) (i + 1))), some (.int (xsum (S m_doneOf) (i + 1))), some (.int (nI (apc (fkQ S u) u i + xcnt (fun j => i < j ∧ fkQ S u i j) j))), some (.int t8), some (.int (bitM (unQ S u) i)), some (.ref (b + k)), some (.ref (b + (k + 1))), some (.int (nI i)), some (.int (bI (knP S u i j))), some (.int (nI j)), some (.int (nI 1)), some (.int (rel u (rK S i) (rK S j)))]) hC dL_same_321 (pc' := 323) rfl (by decide) rfl ?_
                                      refine xi_aload_n hC dL_same_323 (pc' := 324) rfl rfl rfl ?_
                                      refine xi_iload hC dL_same_324 (pc' := 326) rfl rfl ?_
                                      refine xi_iload hC dL_same_326 (pc' := 328) rfl rfl ?_
                                      refine xi_iload hC dL_same_328 (pc' := 330) rfl rfl ?_
                                      refine xi_iconst (v := nI 1) hC dL_same_330 (pc' := 331) rfl (by decide +kernel) ?_
                                      refine xn_icmpne (tgt := 338) hC dL_same_331 (pc' := 334) rfl (by decide) (by omega) (by omega) (fun zc331 => ?_) (fun zc331 => ?_)
                                      · exact absurd zc331 (by decide)
                                      · skip
                                        refine xi_iconst (v := nI 1) hC dL_same_334 (pc' := 335) rfl (by decide +kernel) ?_
                                        refine xi_goto (tgt := 339) hC dL_same_335 (by decide) ?_
                                        refine xi_callV (As := [.int (nI i), .int (nI j), .int (nI 1)]) (rest := []) (c_X7_compare l D b (b + (k + 2)) (σ := σ38) (S := S) (N := N) (u := u) (w := w) hS hRσ38 (by omega) (x := (nI i)) (y := (nI j)) (z := (nI 1))) hC dL_same_339 (pc' := 342) rfl xw_m_L_81 xw_c_X7_compare xw_ins_X7_compare xw_sel_X7_compare xw_ini_X7 xd_X7_compare (xH_at.trans (xsh_7 kd_0)) rfl ⟨Nat.le_of_ble_eq_true rfl, Nat.le_of_ble_eq_true rfl⟩ rfl (Nat.le_of_ble_eq_true rfl) ⟨Nat.le_of_ble_eq_true rfl, Nat.le_of_ble_eq_true rfl⟩ ?_
                                        rintro _ _ ⟨r39, rfl, hO40, rfl⟩
                                        obtain rfl : r39 = (rel u (rK S i) (rK S j)) := hO40 _ (sp_1 (by omega) (by omega) (by omega))
                                        show xV _ _ _ _ _ _ _ _ _ _ _ _ _ _ _ _ _ (xH D b σ38) _ _ [.int (rel u (rK S i) (rK S j))]
                                        refine xi_iload hC dL_same_342 (pc' := 344) rfl rfl ?_
                                        refine xi_icmpeq (tgt := 349) hC dL_same_344 (pc' := 347) rfl (by decide) (fun zc344 => ?_) (fun zc344 => ?_)
                                        · skip
                                          have L378 : xV p l e (xR 5 113 2 16) s m args below meth c D b 16 2 16 (MQ below (xQ D b (b + (k + 2)) (fun y' h' => ∃ τ : XM, y' = some (.int (nI 1)) ∧ RR τ S u w ∧ h' = xH D b τ)) args s 2 16 (fun q => b ≤ q)) (b + (k + 2)) (xH D b σ38) 378 [some (.ref (b + 0)), some (.int (nI u)), some (.int (nI (xcnt (fun i => 0 < S m_alarmOf i) (i + 1)))), some (.int (nI (xcnt (fun i => S m_hasProof i ≠ 0) (i + 1)))), some (.int (xsum (S m_lettersOf) (i + 1))), some (.int (xsum (S m_doneOf) (i + 1))), some (.int (nI (apc (fkQ S u) u i + xcnt (fun j => i < j ∧ fkQ S u i j) (j + 1)))), some (.int t8), some (.int (bitM (unQ S u) i)), some (.ref (b + k)), some (.ref (b + (k + 1))), some (.int (nI i)), some (.int (bI (knP S u i j))), some (.int (nI j)), some (.int (nI 1)), some (.int (rel u (rK S i) (rK S j)))] [] := by
                                            have L420 : ∀ (t9 : Int32), (TL S u i (j + 1) t9) → xV p l e (xR 5 113 2 16) s m args below meth c D b 16 2 16 (MQ below (xQ D b (b + (k + 2)) (fun y' h' => ∃ τ : XM, y' = some (.int (nI 1)) ∧ RR τ S u w ∧ h' = xH D b τ)) args s 2 16 (fun q => b ≤ q)) (b + (k + 2)) (xH D b σ38) 420 [some (.ref (b + 0)), some (.int (nI u)), some (.int (nI (xcnt (fun i => 0 < S m_alarmOf i) (i + 1)))), some (.int (nI (xcnt (fun i => S m_hasProof i ≠ 0) (i + 1)))), some (.int (xsum (S m_lettersOf) (i + 1))), some (.int (xsum (S m_doneOf) (i + 1))), some (.int (nI (apc (fkQ S u) u i + xcnt (fun j => i < j ∧ fkQ S u i j) (j + 1)))), some (.int t9), some (.int (bitM (unQ S u) i)), some (.ref (b + k)), some (.ref (b + (k + 1))), some (.int (nI i)), some (.int (bI (knP S u i j))), some (.int (nI j)), some (.int (nI 1)), some (.int (rel u (rK S i) (rK S j)))] [] := by
                                              intro t9 hT3
                                              have L441 : xV p l e (xR 5 113 2 16) s m args below meth c D b 16 2 16 (MQ below (xQ D b (b + (k + 2)) (fun y' h' => ∃ τ : XM, y' = some (.int (nI 1)) ∧ RR τ S u w ∧ h' = xH D b τ)) args s 2 16 (fun q => b ≤ q)) (b + (k + 2)) (xH D b σ38) 441 [some (.ref (b + 0)), some (.int (nI u)), some (.int (nI (xcnt (fun i => 0 < S m_alarmOf i) (i + 1)))), some (.int (nI (xcnt (fun i => S m_hasProof i ≠ 0) (i + 1)))), some (.int (xsum (S m_lettersOf) (i + 1))), some (.int (xsum (S m_doneOf) (i + 1))), some (.int (nI (apc (fkQ S u) u i + xcnt (fun j => i < j ∧ fkQ S u i j) (j + 1)))), some (.int t9), some (.int (bitM (unQ S u) i)), some (.ref (b + k)), some (.ref (b + (k + 1))), some (.int (nI i)), some (.int (bI (knP S u i j))), some (.int (nI j)), some (.int (nI 1)), some (.int (rel u (rK S i) (rK S j)))] [.int (bI (knP S u i (j + 1)))] := by
                                                refine xi_istore (lv' := [some (.ref (b + 0)), some (.int (nI u)), some (.int (nI (xcnt (fun i => 0 < S m_alarmOf i) (i + 1)))), some (.int (nI (xcnt (fun i => S m_hasProof i ≠ 0) (i + 1)))), some (.int (xsum (S m_lettersOf) (i + 1))), some (.int (xsum (S m_doneOf) (i + 1))), some (.int (nI (apc (fkQ S u) u i + xcnt (fun j => i < j ∧ fkQ S u i j) (j + 1)))), some (.int t9), some (.int (bitM (unQ S u) i)), some (.ref (b + k)), some (.ref (b + (k + 1))), some (.int (nI i)), some (.int (bI (knP S u i (j + 1)))), some (.int (nI j)), some (.int (nI 1)), some (.int (rel u (rK S i) (rK S j)))]) hC dL_same_441 (pc' := 443) rfl (by decide) rfl ?_
                                                refine xn_iinc (lv' := [some (.ref (b + 0)), some (.int (nI u)), some (.int (nI (xcnt (fun i => 0 < S m_alarmOf i) (i + 1)))), some (.int (nI (xcnt (fun i => S m_hasProof i ≠ 0) (i + 1)))), some (.int (xsum (S m_lettersOf) (i + 1))), some (.int (xsum (S m_doneOf) (i + 1))), some (.int (nI (apc (fkQ S u) u i + xcnt (fun j => i < j ∧ fkQ S u i j) (j + 1)))), some (.int t9), some (.int (bitM (unQ S u) i)), some (.ref (b + k)), some (.ref (b + (k + 1))), some (.int (nI i)), some (.int (bI (knP S u i (j + 1)))), some (.int (nI j)), some (.int (nI 2)), some (.int (rel u (rK S i) (rK S j)))]) hC dL_same_443 (pc' := 446) rfl rfl (by decide) rfl ?_
                                                refine xi_goto (tgt := 247) hC dL_same_446 (by decide) ?_
                                                refine xi_iload hC dL_same_247 (pc' := 249) rfl rfl ?_
                                                refine xi_iconst (v := nI 2) hC dL_same_249 (pc' := 250) rfl (by decide +kernel) ?_
                                                refine xn_icmpge (tgt := 449) hC dL_same_250 (pc' := 253) rfl (by decide) (by omega) (by omega) (fun zc250 => ?_) (fun zc250 => ?_)
                                                · skip
                                                  refine xn_iinc (lv' := [some (.ref (b + 0)), some (.int (nI u)), some (.int (nI (xcnt (fun i => 0 < S m_alarmOf i) (i + 1)))), some (.int (nI (xcnt (fun i => S m_hasProof i ≠ 0) (i + 1)))), some (.int (xsum (S m_lettersOf) (i + 1))), some (.int (xsum (S m_doneOf) (i + 1))), some (.int (nI (apc (fkQ S u) u i + xcnt (fun j => i < j ∧ fkQ S u i j) (j + 1)))), some (.int t9), some (.int (bitM (unQ S u) i)), some (.ref (b + k)), some (.ref (b + (k + 1))), some (.int (nI i)), some (.int (bI (knP S u i (j + 1)))), some (.int (nI (j + 1))), some (.int (nI 2)), some (.int (rel u (rK S i) (rK S j)))]) hC dL_same_449 (pc' := 452) rfl rfl (by decide) rfl ?_
                                                  refine xi_goto (tgt := 238) hC dL_same_452 (by decide) ?_
                                                  refine ih238 (j + 1) _ _ _ _ (by omega) ?_ ?_ ?_ ?_ ?_
                                                  · omega
                                                  · exact hRσ38
                                                  · exact hlσ38_k
                                                  · exact hlσ38
                                                  · exact hT3
                                                · exact absurd zc250 (by decide)
                                              refine xi_iload hC dL_same_420 (pc' := 422) rfl rfl ?_
                                              refine xb_ifeq (tgt := 440) hC dL_same_422 (pc' := 425) rfl (by decide) (fun zc422 => ?_) (fun zc422 => ?_)
                                              · skip
                                                refine xi_iconst (v := nI 0) hC dL_same_440 (pc' := 441) rfl (by decide +kernel) ?_
                                                refine xtop (y := (bI (knP S u i (j + 1)))) ((bI_f (fun q => zc422 (knP_s.mp q).1)).symm) ?_
                                                refine L441  
                                              · skip
                                                refine xi_iload hC dL_same_425 (pc' := 427) rfl rfl ?_
                                                refine xn_ifeq (tgt := 436) hC dL_same_427 (pc' := 430) rfl (by decide) (by omega) (fun zc427 => ?_) (fun zc427 => ?_)
                                                · exact absurd zc427 (by decide)
                                                · skip
                                                  refine xi_iload hC dL_same_430 (pc' := 432) rfl rfl ?_
                                                  refine xi_iconst (v := nI 2) hC dL_same_432 (pc' := 433) rfl (by decide +kernel) ?_
                                                  refine xi_icmpge (tgt := 440) hC dL_same_433 (pc' := 436) rfl (by decide) (fun zc433 => ?_) (fun zc433 => ?_)
                                                  · skip
                                                    refine xi_iconst (v := nI 0) hC dL_same_440 (pc' := 441) rfl (by decide +kernel) ?_
                                                    refine xtop (y := (bI (knP S u i (j + 1)))) ((bI_f (fun q => (knP_s.mp q).2 (rel_lt2.mp zc433))).symm) ?_
                                                    refine L441  
                                                  · skip
                                                    refine xi_iconst (v := nI 1) hC dL_same_436 (pc' := 437) rfl (by decide +kernel) ?_
                                                    refine xi_goto (tgt := 441) hC dL_same_437 (by decide) ?_
                                                    refine xtop (y := (bI (knP S u i (j + 1)))) ((bI_t (knP_s.mpr ⟨zc422, fun q => zc433 (rel_lt2.mpr q)⟩)).symm) ?_
                                                    refine L441  
                                            refine xi_iload hC dL_same_378 (pc' := 380) rfl rfl ?_
                                            refine xi_iconst (v := nI 1) hC dL_same_380 (pc' := 381) rfl (by decide +kernel) ?_
                                            refine xn_icmpne (tgt := 416) hC dL_same_381 (pc' := 384) rfl (by decide) (by omega) (by omega) (fun zc381 => ?_) (fun zc381 => ?_)
                                            · exact absurd zc381 (by decide)
                                            · skip
                                              refine xi_iload hC dL_same_384 (pc' := 386) rfl rfl ?_
                                              refine xi_iconst (v := nI 2) hC dL_same_386 (pc' := 387) rfl (by decide +kernel) ?_
                                              refine xi_icmpne (tgt := 416) hC dL_same_387 (pc' := 390) rfl (by decide) (fun zc387 => ?_) (fun zc387 => ?_)
                                              · skip
                                                refine xi_iload hC dL_same_416 (pc' := 418) rfl rfl ?_
                                                refine xi_istore (lv' := [some (.ref (b + 0)), some (.int (nI u)), some (.int (nI (xcnt (fun i => 0 < S m_alarmOf i) (i + 1)))), some (.int (nI (xcnt (fun i => S m_hasProof i ≠ 0) (i + 1)))), some (.int (xsum (S m_lettersOf) (i + 1))), some (.int (xsum (S m_doneOf) (i + 1))), some (.int (nI (apc (fkQ S u) u i + xcnt (fun j => i < j ∧ fkQ S u i j) (j + 1)))), some (.int t8), some (.int (bitM (unQ S u) i)), some (.ref (b + k)), some (.ref (b + (k + 1))), some (.int (nI i)), some (.int (bI (knP S u i j))), some (.int (nI j)), some (.int (nI 1)), some (.int (rel u (rK S i) (rK S j)))]) hC dL_same_418 (pc' := 420) rfl (by decide) rfl ?_
                                                refine L420 _ ?_
                                                · exact TL_skip hT2 (fun q => zc387 q.2)
                                              · skip
                                                refine xi_aload_n hC dL_same_390 (pc' := 391) rfl rfl rfl ?_
                                                refine xi_iload hC dL_same_391 (pc' := 393) rfl rfl ?_
                                                refine xi_iconst (v := nI 1) hC dL_same_393 (pc' := 394) rfl (by decide +kernel) ?_
                                                refine xi_callV (As := [.int (nI j), .int (nI 1)]) (rest := []) (c_X7_user l D b (b + (k + 2)) (σ := σ38) (S := S) (N := N) (u := u) (w := w) hS hRσ38 (by omega) (x := (nI j)) (y := (nI 1))) hC dL_same_394 (pc' := 397) rfl xw_m_L_18 xw_c_X7_user xw_ins_X7_user xw_sel_X7_user xw_ini_X7 xd_X7_user (xH_at.trans (xsh_7 kd_0)) rfl ⟨Nat.le_of_ble_eq_true rfl, Nat.le_of_ble_eq_true rfl⟩ rfl (Nat.le_of_ble_eq_true rfl) ⟨Nat.le_of_ble_eq_true rfl, Nat.le_of_ble_eq_true rfl⟩ ?_
                                                rintro _ _ ⟨r41, rfl, hO42, rfl⟩
                                                obtain rfl : r41 = (nI aj) := hO42 _ (su_1 (by omega) (by omega) hAj)
                                                show xV _ _ _ _ _ _ _ _ _ _ _ _ _ _ _ _ _ (xH D b σ38) _ _ [.int (nI aj)]
                                                refine xn_ifne (tgt := 416) hC dL_same_397 (pc' := 400) rfl (by decide) (by omega) (fun zc397 => ?_) (fun zc397 => ?_)
                                                · skip
                                                  refine xi_iload hC dL_same_416 (pc' := 418) rfl rfl ?_
                                                  refine xi_istore (lv' := [some (.ref (b + 0)), some (.int (nI u)), some (.int (nI (xcnt (fun i => 0 < S m_alarmOf i) (i + 1)))), some (.int (nI (xcnt (fun i => S m_hasProof i ≠ 0) (i + 1)))), some (.int (xsum (S m_lettersOf) (i + 1))), some (.int (xsum (S m_doneOf) (i + 1))), some (.int (nI (apc (fkQ S u) u i + xcnt (fun j => i < j ∧ fkQ S u i j) (j + 1)))), some (.int t8), some (.int (bitM (unQ S u) i)), some (.ref (b + k)), some (.ref (b + (k + 1))), some (.int (nI i)), some (.int (bI (knP S u i j))), some (.int (nI j)), some (.int (nI 1)), some (.int (rel u (rK S i) (rK S j)))]) hC dL_same_418 (pc' := 420) rfl (by decide) rfl ?_
                                                  refine L420 _ ?_
                                                  · exact TL_skip hT2 (fun q => zc397 ((tlQ_iff hAj haj5).mp q).1)
                                                · skip
                                                  refine xi_iload hC dL_same_400 (pc' := 402) rfl rfl ?_
                                                  refine xi_ifge (tgt := 416) hC dL_same_402 (pc' := 405) rfl (by decide) (fun zc402 => ?_) (fun zc402 => ?_)
                                                  · skip
                                                    refine xi_iload hC dL_same_416 (pc' := 418) rfl rfl ?_
                                                    refine xi_istore (lv' := [some (.ref (b + 0)), some (.int (nI u)), some (.int (nI (xcnt (fun i => 0 < S m_alarmOf i) (i + 1)))), some (.int (nI (xcnt (fun i => S m_hasProof i ≠ 0) (i + 1)))), some (.int (xsum (S m_lettersOf) (i + 1))), some (.int (xsum (S m_doneOf) (i + 1))), some (.int (nI (apc (fkQ S u) u i + xcnt (fun j => i < j ∧ fkQ S u i j) (j + 1)))), some (.int t8), some (.int (bitM (unQ S u) i)), some (.ref (b + k)), some (.ref (b + (k + 1))), some (.int (nI i)), some (.int (bI (knP S u i j))), some (.int (nI j)), some (.int (nI 1)), some (.int (rel u (rK S i) (rK S j)))]) hC dL_same_418 (pc' := 420) rfl (by decide) rfl ?_
                                                    refine L420 _ ?_
                                                    · exact TL_old hT2 zc402
                                                  · skip
                                                    refine xi_bipush (v := nI 10) hC dL_same_405 (pc' := 407) rfl (by decide +kernel) ?_
                                                    refine xi_iload hC dL_same_407 (pc' := 409) rfl rfl ?_
                                                    refine xn_imul hC dL_same_409 (pc' := 410) rfl ?_
                                                    refine xi_iload hC dL_same_410 (pc' := 412) rfl rfl ?_
                                                    refine xn_iadd hC dL_same_412 (pc' := 413) rfl ?_
                                                    refine xi_goto (tgt := 418) hC dL_same_413 (by decide) ?_
                                                    refine xi_istore (lv' := [some (.ref (b + 0)), some (.int (nI u)), some (.int (nI (xcnt (fun i => 0 < S m_alarmOf i) (i + 1)))), some (.int (nI (xcnt (fun i => S m_hasProof i ≠ 0) (i + 1)))), some (.int (xsum (S m_lettersOf) (i + 1))), some (.int (xsum (S m_doneOf) (i + 1))), some (.int (nI (apc (fkQ S u) u i + xcnt (fun j => i < j ∧ fkQ S u i j) (j + 1)))), some (.int (nI ((10 * i) + j))), some (.int (bitM (unQ S u) i)), some (.ref (b + k)), some (.ref (b + (k + 1))), some (.int (nI i)), some (.int (bI (knP S u i j))), some (.int (nI j)), some (.int (nI 1)), some (.int (rel u (rK S i) (rK S j)))]) hC dL_same_418 (pc' := 420) rfl (by decide) rfl ?_
                                                    refine L420 _ ?_
                                                    · exact TL_new (by omega) hT2 zc402 hi hj ((tlQ_iff hAj haj5).mpr ⟨zc397, zc387⟩)
                                          refine xi_iload hC dL_same_349 (pc' := 351) rfl rfl ?_
                                          refine xi_iload hC dL_same_351 (pc' := 353) rfl rfl ?_
                                          refine xi_iconst (v := nI 1) hC dL_same_353 (pc' := 354) rfl (by decide +kernel) ?_
                                          refine xn_icmpne (tgt := 374) hC dL_same_354 (pc' := 357) rfl (by decide) (by omega) (by omega) (fun zc354 => ?_) (fun zc354 => ?_)
                                          · exact absurd zc354 (by decide)
                                          · skip
                                            refine xi_iload hC dL_same_357 (pc' := 359) rfl rfl ?_
                                            refine xi_iconst (v := nI 2) hC dL_same_359 (pc' := 360) rfl (by decide +kernel) ?_
                                            refine xi_icmpne (tgt := 374) hC dL_same_360 (pc' := 363) rfl (by decide) (fun zc360 => ?_) (fun zc360 => ?_)
                                            · skip
                                              refine xi_iconst (v := nI 0) hC dL_same_374 (pc' := 375) rfl (by decide +kernel) ?_
                                              refine xn_iadd hC dL_same_375 (pc' := 376) rfl ?_
                                              refine xtop (y := nI (apc (fkQ S u) u i + xcnt (fun j => i < j ∧ fkQ S u i j) j)) (by rw [Nat.add_zero]) ?_
                                              refine xtop (y := (nI (apc (fkQ S u) u i + xcnt (fun j => i < j ∧ fkQ S u i j) (j + 1)))) (by rw [xcnt_f (P := fun j => i < j ∧ fkQ S u i j) (fun q => zc360 q.2)]) ?_
                                              refine xi_istore (lv' := [some (.ref (b + 0)), some (.int (nI u)), some (.int (nI (xcnt (fun i => 0 < S m_alarmOf i) (i + 1)))), some (.int (nI (xcnt (fun i => S m_hasProof i ≠ 0) (i + 1)))), some (.int (xsum (S m_lettersOf) (i + 1))), some (.int (xsum (S m_doneOf) (i + 1))), some (.int (nI (apc (fkQ S u) u i + xcnt (fun j => i < j ∧ fkQ S u i j) (j + 1)))), some (.int t8), some (.int (bitM (unQ S u) i)), some (.ref (b + k)), some (.ref (b + (k + 1))), some (.int (nI i)), some (.int (bI (knP S u i j))), some (.int (nI j)), some (.int (nI 1)), some (.int (rel u (rK S i) (rK S j)))]) hC dL_same_376 (pc' := 378) rfl (by decide) rfl ?_
                                              refine L378  
                                            · skip
                                              refine xi_iload hC dL_same_363 (pc' := 365) rfl rfl ?_
                                              refine xi_iload hC dL_same_365 (pc' := 367) rfl rfl ?_
                                              refine xn_icmpge (tgt := 374) hC dL_same_367 (pc' := 370) rfl (by decide) (by omega) (by omega) (fun zc367 => ?_) (fun zc367 => ?_)
                                              · skip
                                                refine xi_iconst (v := nI 0) hC dL_same_374 (pc' := 375) rfl (by decide +kernel) ?_
                                                refine xn_iadd hC dL_same_375 (pc' := 376) rfl ?_
                                                refine xtop (y := nI (apc (fkQ S u) u i + xcnt (fun j => i < j ∧ fkQ S u i j) j)) (by rw [Nat.add_zero]) ?_
                                                refine xtop (y := (nI (apc (fkQ S u) u i + xcnt (fun j => i < j ∧ fkQ S u i j) (j + 1)))) (by rw [xcnt_f (P := fun j => i < j ∧ fkQ S u i j) (fun q => absurd q.1 (by omega))]) ?_
                                                refine xi_istore (lv' := [some (.ref (b + 0)), some (.int (nI u)), some (.int (nI (xcnt (fun i => 0 < S m_alarmOf i) (i + 1)))), some (.int (nI (xcnt (fun i => S m_hasProof i ≠ 0) (i + 1)))), some (.int (xsum (S m_lettersOf) (i + 1))), some (.int (xsum (S m_doneOf) (i + 1))), some (.int (nI (apc (fkQ S u) u i + xcnt (fun j => i < j ∧ fkQ S u i j) (j + 1)))), some (.int t8), some (.int (bitM (unQ S u) i)), some (.ref (b + k)), some (.ref (b + (k + 1))), some (.int (nI i)), some (.int (bI (knP S u i j))), some (.int (nI j)), some (.int (nI 1)), some (.int (rel u (rK S i) (rK S j)))]) hC dL_same_376 (pc' := 378) rfl (by decide) rfl ?_
                                                refine L378  
                                              · skip
                                                refine xi_iconst (v := nI 1) hC dL_same_370 (pc' := 371) rfl (by decide +kernel) ?_
                                                refine xi_goto (tgt := 375) hC dL_same_371 (by decide) ?_
                                                refine xn_iadd hC dL_same_375 (pc' := 376) rfl ?_
                                                refine xtop (y := (nI (apc (fkQ S u) u i + xcnt (fun j => i < j ∧ fkQ S u i j) (j + 1)))) (by rw [xcnt_t (P := fun j => i < j ∧ fkQ S u i j) ⟨zc367, zc360⟩, Nat.add_assoc]) ?_
                                                refine xi_istore (lv' := [some (.ref (b + 0)), some (.int (nI u)), some (.int (nI (xcnt (fun i => 0 < S m_alarmOf i) (i + 1)))), some (.int (nI (xcnt (fun i => S m_hasProof i ≠ 0) (i + 1)))), some (.int (xsum (S m_lettersOf) (i + 1))), some (.int (xsum (S m_doneOf) (i + 1))), some (.int (nI (apc (fkQ S u) u i + xcnt (fun j => i < j ∧ fkQ S u i j) (j + 1)))), some (.int t8), some (.int (bitM (unQ S u) i)), some (.ref (b + k)), some (.ref (b + (k + 1))), some (.int (nI i)), some (.int (bI (knP S u i j))), some (.int (nI j)), some (.int (nI 1)), some (.int (rel u (rK S i) (rK S j)))]) hC dL_same_376 (pc' := 378) rfl (by decide) rfl ?_
                                                refine L378  
                                        · exact absurd rfl zc344
                                    refine xb_ifeq (tgt := 305) hC dL_same_283 (pc' := 286) rfl (by decide) (fun zc283 => ?_) (fun zc283 => ?_)
                                    · skip
                                      refine xi_aload hC dL_same_305 (pc' := 307) rfl rfl ?_
                                      refine xi_aload hC dL_same_307 (pc' := 309) rfl rfl ?_
                                      refine xi_iload_n hC dL_same_309 (pc' := 310) rfl rfl rfl ?_
                                      refine xi_callS (As := [.ref (b + (k + 1)), .ref (b + k), .int (nI u)]) (rest := []) (c_L_most l D b (b + (k + 2)) (σ := σ38) (ta := (k + 1)) (tb := k) (u := u) (by omega) (by omega) hlσ38 hlσ38_k (by omega)) hC dL_same_310 (pc' := 313) rfl xw_m_L_28 xw_c_L_most xw_sta_L_most xw_ini_L xd_L_most ⟨Nat.le_of_ble_eq_true rfl, Nat.le_of_ble_eq_true rfl⟩ rfl (Nat.le_of_ble_eq_true rfl) ⟨Nat.le_of_ble_eq_true rfl, Nat.le_of_ble_eq_true rfl⟩ ?_
                                      rintro _ _ ⟨rfl, rfl⟩
                                      show xV _ _ _ _ _ _ _ _ _ _ _ _ _ _ _ _ _ (xH D b σ38) _ _ [.int (bI (vle u (σ38 (k + 1)) (σ38 k)))]
                                      refine xtop (y := (bI (vle u (rK S j) (rK S i)))) (bI_congr (vle_congr hfσ38 hfσ38_k)) ?_
                                      refine xb_ifeq (tgt := 320) hC dL_same_313 (pc' := 316) rfl (by decide) (fun zc313 => ?_) (fun zc313 => ?_)
                                      · skip
                                        refine xi_iconst (v := nI 2) hC dL_same_320 (pc' := 321) rfl (by decide +kernel) ?_
                                        refine xtop (y := (rel u (rK S i) (rK S j))) (((by decide : nI 2 = 2).trans (rel_11 zc283 zc313).symm)) ?_
                                        refine L321  
                                      · skip
                                        refine xi_iconst (v := nI 1) hC dL_same_316 (pc' := 317) rfl (by decide +kernel) ?_
                                        refine xi_goto (tgt := 321) hC dL_same_317 (by decide) ?_
                                        refine xtop (y := (rel u (rK S i) (rK S j))) (((by decide : nI 1 = 1).trans (rel_10 zc283 zc313).symm)) ?_
                                        refine L321  
                                    · skip
                                      refine xi_aload hC dL_same_286 (pc' := 288) rfl rfl ?_
                                      refine xi_aload hC dL_same_288 (pc' := 290) rfl rfl ?_
                                      refine xi_iload_n hC dL_same_290 (pc' := 291) rfl rfl rfl ?_
                                      refine xi_callS (As := [.ref (b + (k + 1)), .ref (b + k), .int (nI u)]) (rest := []) (c_L_most l D b (b + (k + 2)) (σ := σ38) (ta := (k + 1)) (tb := k) (u := u) (by omega) (by omega) hlσ38 hlσ38_k (by omega)) hC dL_same_291 (pc' := 294) rfl xw_m_L_28 xw_c_L_most xw_sta_L_most xw_ini_L xd_L_most ⟨Nat.le_of_ble_eq_true rfl, Nat.le_of_ble_eq_true rfl⟩ rfl (Nat.le_of_ble_eq_true rfl) ⟨Nat.le_of_ble_eq_true rfl, Nat.le_of_ble_eq_true rfl⟩ ?_
                                      rintro _ _ ⟨rfl, rfl⟩
                                      show xV _ _ _ _ _ _ _ _ _ _ _ _ _ _ _ _ _ (xH D b σ38) _ _ [.int (bI (vle u (σ38 (k + 1)) (σ38 k)))]
                                      refine xtop (y := (bI (vle u (rK S j) (rK S i)))) (bI_congr (vle_congr hfσ38 hfσ38_k)) ?_
                                      refine xb_ifeq (tgt := 301) hC dL_same_294 (pc' := 297) rfl (by decide) (fun zc294 => ?_) (fun zc294 => ?_)
                                      · skip
                                        refine xi_iconst (v := -1) hC dL_same_301 (pc' := 302) rfl (by decide +kernel) ?_
                                        refine xi_goto (tgt := 321) hC dL_same_302 (by decide) ?_
                                        refine xtop (y := (rel u (rK S i) (rK S j))) (((rel_01 zc283 zc294).symm)) ?_
                                        refine L321  
                                      · skip
                                        refine xi_iconst (v := nI 0) hC dL_same_297 (pc' := 298) rfl (by decide +kernel) ?_
                                        refine xi_goto (tgt := 321) hC dL_same_298 (by decide) ?_
                                        refine xtop (y := (rel u (rK S i) (rK S j))) (((by decide : nI 0 = 0).trans (rel_00 zc283 zc294).symm)) ?_
                                        refine L321  
                                refine xi_iload hC dL_same_420 (pc' := 422) rfl rfl ?_
                                refine xb_ifeq (tgt := 440) hC dL_same_422 (pc' := 425) rfl (by decide) (fun zc422 => ?_) (fun zc422 => ?_)
                                · skip
                                  refine xi_iconst (v := nI 0) hC dL_same_440 (pc' := 441) rfl (by decide +kernel) ?_
                                  refine xtop (y := (bI (knP S u i j))) ((bI_f zc422).symm) ?_
                                  refine L441  
                                · skip
                                  refine xi_iload hC dL_same_425 (pc' := 427) rfl rfl ?_
                                  refine xn_ifeq (tgt := 436) hC dL_same_427 (pc' := 430) rfl (by decide) (by omega) (fun zc427 => ?_) (fun zc427 => ?_)
                                  · skip
                                    refine xi_iconst (v := nI 1) hC dL_same_436 (pc' := 437) rfl (by decide +kernel) ?_
                                    refine xi_goto (tgt := 441) hC dL_same_437 (by decide) ?_
                                    refine xtop (y := (bI (knP S u i j))) ((bI_t zc422).symm) ?_
                                    refine L441  
                                  · exact absurd zc427 (by decide)
                              · exact absurd zc381 (by decide)
                            · exact absurd zc354 (by decide)
                          · exact absurd rfl zc344
                        · exact absurd zc331 (by decide)
                      refine xb_ifeq (tgt := 305) hC dL_same_283 (pc' := 286) rfl (by decide) (fun zc283 => ?_) (fun zc283 => ?_)
                      · skip
                        refine xi_aload hC dL_same_305 (pc' := 307) rfl rfl ?_
                        refine xi_aload hC dL_same_307 (pc' := 309) rfl rfl ?_
                        refine xi_iload_n hC dL_same_309 (pc' := 310) rfl rfl rfl ?_
                        refine xi_callS (As := [.ref (b + (k + 1)), .ref (b + k), .int (nI u)]) (rest := []) (c_L_most l D b (b + (k + 2)) (σ := σ34) (ta := (k + 1)) (tb := k) (u := u) (by omega) (by omega) hlσ34 hlσ34_k (by omega)) hC dL_same_310 (pc' := 313) rfl xw_m_L_28 xw_c_L_most xw_sta_L_most xw_ini_L xd_L_most ⟨Nat.le_of_ble_eq_true rfl, Nat.le_of_ble_eq_true rfl⟩ rfl (Nat.le_of_ble_eq_true rfl) ⟨Nat.le_of_ble_eq_true rfl, Nat.le_of_ble_eq_true rfl⟩ ?_
                        rintro _ _ ⟨rfl, rfl⟩
                        show xV _ _ _ _ _ _ _ _ _ _ _ _ _ _ _ _ _ (xH D b σ34) _ _ [.int (bI (vle u (σ34 (k + 1)) (σ34 k)))]
                        refine xtop (y := (bI (vle u (rG S j) (rG S i)))) (bI_congr (vle_congr hfσ34 hfσ34_k)) ?_
                        refine xb_ifeq (tgt := 320) hC dL_same_313 (pc' := 316) rfl (by decide) (fun zc313 => ?_) (fun zc313 => ?_)
                        · skip
                          refine xi_iconst (v := nI 2) hC dL_same_320 (pc' := 321) rfl (by decide +kernel) ?_
                          refine xtop (y := (rel u (rG S i) (rG S j))) (((by decide : nI 2 = 2).trans (rel_11 zc283 zc313).symm)) ?_
                          refine L321  
                        · skip
                          refine xi_iconst (v := nI 1) hC dL_same_316 (pc' := 317) rfl (by decide +kernel) ?_
                          refine xi_goto (tgt := 321) hC dL_same_317 (by decide) ?_
                          refine xtop (y := (rel u (rG S i) (rG S j))) (((by decide : nI 1 = 1).trans (rel_10 zc283 zc313).symm)) ?_
                          refine L321  
                      · skip
                        refine xi_aload hC dL_same_286 (pc' := 288) rfl rfl ?_
                        refine xi_aload hC dL_same_288 (pc' := 290) rfl rfl ?_
                        refine xi_iload_n hC dL_same_290 (pc' := 291) rfl rfl rfl ?_
                        refine xi_callS (As := [.ref (b + (k + 1)), .ref (b + k), .int (nI u)]) (rest := []) (c_L_most l D b (b + (k + 2)) (σ := σ34) (ta := (k + 1)) (tb := k) (u := u) (by omega) (by omega) hlσ34 hlσ34_k (by omega)) hC dL_same_291 (pc' := 294) rfl xw_m_L_28 xw_c_L_most xw_sta_L_most xw_ini_L xd_L_most ⟨Nat.le_of_ble_eq_true rfl, Nat.le_of_ble_eq_true rfl⟩ rfl (Nat.le_of_ble_eq_true rfl) ⟨Nat.le_of_ble_eq_true rfl, Nat.le_of_ble_eq_true rfl⟩ ?_
                        rintro _ _ ⟨rfl, rfl⟩
                        show xV _ _ _ _ _ _ _ _ _ _ _ _ _ _ _ _ _ (xH D b σ34) _ _ [.int (bI (vle u (σ34 (k + 1)) (σ34 k)))]
                        refine xtop (y := (bI (vle u (rG S j) (rG S i)))) (bI_congr (vle_congr hfσ34 hfσ34_k)) ?_
                        refine xb_ifeq (tgt := 301) hC dL_same_294 (pc' := 297) rfl (by decide) (fun zc294 => ?_) (fun zc294 => ?_)
                        · skip
                          refine xi_iconst (v := -1) hC dL_same_301 (pc' := 302) rfl (by decide +kernel) ?_
                          refine xi_goto (tgt := 321) hC dL_same_302 (by decide) ?_
                          refine xtop (y := (rel u (rG S i) (rG S j))) (((rel_01 zc283 zc294).symm)) ?_
                          refine L321  
                        · skip
                          refine xi_iconst (v := nI 0) hC dL_same_297 (pc' := 298) rfl (by decide +kernel) ?_
                          refine xi_goto (tgt := 321) hC dL_same_298 (by decide) ?_
                          refine xtop (y := (rel u (rG S i) (rG S j))) (((by decide : nI 0 = 0).trans (rel_00 zc283 zc294).symm)) ?_
                          refine L321  
              refine L238 _ 0 _ _ _ _ (Nat.lt_succ_self _) ?_ ?_ ?_ ?_ ?_
              · omega
              · exact hRσ22
              · exact hlσ22_k
              · exact hlσ22
              · exact hT
            refine xi_aload hC dL_same_151 (pc' := 153) rfl rfl ?_
            refine xi_aload hC dL_same_153 (pc' := 155) rfl rfl ?_
            refine xi_iload_n hC dL_same_155 (pc' := 156) rfl rfl rfl ?_
            refine xi_callS (As := [.ref (b + k), .ref (b + (k + 1)), .int (nI u)]) (rest := []) (c_L_most l D b (b + (k + 2)) (σ := σ22) (ta := k) (tb := (k + 1)) (u := u) (by omega) (by omega) hlσ22_k hlσ22 (by omega)) hC dL_same_156 (pc' := 159) rfl xw_m_L_28 xw_c_L_most xw_sta_L_most xw_ini_L xd_L_most ⟨Nat.le_of_ble_eq_true rfl, Nat.le_of_ble_eq_true rfl⟩ rfl (Nat.le_of_ble_eq_true rfl) ⟨Nat.le_of_ble_eq_true rfl, Nat.le_of_ble_eq_true rfl⟩ ?_
            rintro _ _ ⟨rfl, rfl⟩
            show xV _ _ _ _ _ _ _ _ _ _ _ _ _ _ _ _ _ (xH D b σ22) _ _ [.int (bI (vle u (σ22 k) (σ22 (k + 1))))]
            refine xtop (y := (bI (vle u (rG S i) (rK S i)))) (bI_congr (vle_congr hfσ22_k hfσ22)) ?_
            refine xb_ifeq (tgt := 233) hC dL_same_159 (pc' := 162) rfl (by decide) (fun zc159 => ?_) (fun zc159 => ?_)
            · exact absurd (hJ i hi).1 zc159
            · skip
              by_cases hp : S m_hasProof i = 0
              · skip
                refine xi_aload_n hC dL_same_162 (pc' := 163) rfl rfl rfl ?_
                refine xi_iload hC dL_same_163 (pc' := 165) rfl rfl ?_
                refine xi_iconst (v := nI 2) hC dL_same_165 (pc' := 166) rfl (by decide +kernel) ?_
                refine xi_callV (As := [.int (nI i), .int (nI 2)]) (rest := []) (c_X7_user l D b (b + (k + 2)) (σ := σ22) (S := S) (N := N) (u := u) (w := w) hS hRσ22 (by omega) (x := (nI i)) (y := (nI 2))) hC dL_same_166 (pc' := 169) rfl xw_m_L_18 xw_c_X7_user xw_ins_X7_user xw_sel_X7_user xw_ini_X7 xd_X7_user (xH_at.trans (xsh_7 kd_0)) rfl ⟨Nat.le_of_ble_eq_true rfl, Nat.le_of_ble_eq_true rfl⟩ rfl (Nat.le_of_ble_eq_true rfl) ⟨Nat.le_of_ble_eq_true rfl, Nat.le_of_ble_eq_true rfl⟩ ?_
                rintro _ _ ⟨r43, rfl, hO44, rfl⟩
                obtain rfl : r43 = (nI 0) := hO44 _ (su_2f (by omega) (by omega) hp)
                show xV _ _ _ _ _ _ _ _ _ _ _ _ _ _ _ _ _ (xH D b σ22) _ _ [.int (nI 0)]
                refine xn_ifle (tgt := 182) hC dL_same_169 (pc' := 172) rfl (by decide) (by omega) (fun zc169 => ?_) (fun zc169 => ?_)
                · skip
                  refine xi_aload_n hC dL_same_182 (pc' := 183) rfl rfl rfl ?_
                  refine xi_iload hC dL_same_183 (pc' := 185) rfl rfl ?_
                  refine xi_bipush (v := nI 7) hC dL_same_185 (pc' := 187) rfl (by decide +kernel) ?_
                  refine xi_callV (As := [.int (nI i), .int (nI 7)]) (rest := []) (c_X7_user l D b (b + (k + 2)) (σ := σ22) (S := S) (N := N) (u := u) (w := w) hS hRσ22 (by omega) (x := (nI i)) (y := (nI 7))) hC dL_same_187 (pc' := 190) rfl xw_m_L_18 xw_c_X7_user xw_ins_X7_user xw_sel_X7_user xw_ini_X7 xd_X7_user (xH_at.trans (xsh_7 kd_0)) rfl ⟨Nat.le_of_ble_eq_true rfl, Nat.le_of_ble_eq_true rfl⟩ rfl (Nat.le_of_ble_eq_true rfl) ⟨Nat.le_of_ble_eq_true rfl, Nat.le_of_ble_eq_true rfl⟩ ?_
                  rintro _ _ ⟨r45, rfl, hO46, rfl⟩
                  obtain rfl : r45 = (-10005) := hO46 _ (su_7f (by omega) (by omega) hp)
                  show xV _ _ _ _ _ _ _ _ _ _ _ _ _ _ _ _ _ (xH D b σ22) _ _ [.int (-10005)]
                  refine xi_sipush (v := -10005) hC dL_same_190 (pc' := 193) rfl (by decide +kernel) ?_
                  refine xi_icmpne (tgt := 200) hC dL_same_193 (pc' := 196) rfl (by decide) (fun zc193 => ?_) (fun zc193 => ?_)
                  · exact absurd rfl zc193
                  · skip
                    refine xi_iconst (v := nI 1) hC dL_same_196 (pc' := 197) rfl (by decide +kernel) ?_
                    refine xi_goto (tgt := 201) hC dL_same_197 (by decide) ?_
                    refine xi_aload_n hC dL_same_201 (pc' := 202) rfl rfl rfl ?_
                    refine xi_iload hC dL_same_202 (pc' := 204) rfl rfl ?_
                    refine xi_iconst (v := nI 2) hC dL_same_204 (pc' := 205) rfl (by decide +kernel) ?_
                    refine xi_callV (As := [.int (nI i), .int (nI 2)]) (rest := [.int (nI 1)]) (c_X7_user l D b (b + (k + 2)) (σ := σ22) (S := S) (N := N) (u := u) (w := w) hS hRσ22 (by omega) (x := (nI i)) (y := (nI 2))) hC dL_same_205 (pc' := 208) rfl xw_m_L_18 xw_c_X7_user xw_ins_X7_user xw_sel_X7_user xw_ini_X7 xd_X7_user (xH_at.trans (xsh_7 kd_0)) rfl ⟨Nat.le_of_ble_eq_true rfl, Nat.le_of_ble_eq_true rfl⟩ rfl (Nat.le_of_ble_eq_true rfl) ⟨Nat.le_of_ble_eq_true rfl, Nat.le_of_ble_eq_true rfl⟩ ?_
                    rintro _ _ ⟨r47, rfl, hO48, rfl⟩
                    obtain rfl : r47 = (nI 0) := hO48 _ (su_2f (by omega) (by omega) hp)
                    show xV _ _ _ _ _ _ _ _ _ _ _ _ _ _ _ _ _ (xH D b σ22) _ _ [.int (nI 0), .int (nI 1)]
                    refine xn_ifne (tgt := 215) hC dL_same_208 (pc' := 211) rfl (by decide) (by omega) (fun zc208 => ?_) (fun zc208 => ?_)
                    · exact absurd zc208 (by decide)
                    · skip
                      refine xi_iconst (v := nI 1) hC dL_same_211 (pc' := 212) rfl (by decide +kernel) ?_
                      refine xi_goto (tgt := 216) hC dL_same_212 (by decide) ?_
                      refine xn_icmpne (tgt := 233) hC dL_same_216 (pc' := 219) rfl (by decide) (by omega) (by omega) (fun zc216 => ?_) (fun zc216 => ?_)
                      · exact absurd zc216 (by decide)
                      · skip
                        refine xi_aload_n hC dL_same_219 (pc' := 220) rfl rfl rfl ?_
                        refine xi_iload hC dL_same_220 (pc' := 222) rfl rfl ?_
                        refine xi_bipush (v := nI 8) hC dL_same_222 (pc' := 224) rfl (by decide +kernel) ?_
                        refine xi_callV (As := [.int (nI i), .int (nI 8)]) (rest := []) (c_X7_user l D b (b + (k + 2)) (σ := σ22) (S := S) (N := N) (u := u) (w := w) hS hRσ22 (by omega) (x := (nI i)) (y := (nI 8))) hC dL_same_224 (pc' := 227) rfl xw_m_L_18 xw_c_X7_user xw_ins_X7_user xw_sel_X7_user xw_ini_X7 xd_X7_user (xH_at.trans (xsh_7 kd_0)) rfl ⟨Nat.le_of_ble_eq_true rfl, Nat.le_of_ble_eq_true rfl⟩ rfl (Nat.le_of_ble_eq_true rfl) ⟨Nat.le_of_ble_eq_true rfl, Nat.le_of_ble_eq_true rfl⟩ ?_
                        rintro _ _ ⟨r49, rfl, hO50, rfl⟩
                        obtain rfl : r49 = (-10002) := hO50 _ (su_8 (by omega) (by omega))
                        show xV _ _ _ _ _ _ _ _ _ _ _ _ _ _ _ _ _ (xH D b σ22) _ _ [.int (-10002)]
                        refine xi_sipush (v := -10002) hC dL_same_227 (pc' := 230) rfl (by decide +kernel) ?_
                        refine xi_icmpeq (tgt := 235) hC dL_same_230 (pc' := 233) rfl (by decide) (fun zc230 => ?_) (fun zc230 => ?_)
                        · skip
                          refine L235  
                        · exact absurd rfl zc230
                · first | exact zc169.elim | exact absurd zc169 (by decide)
              · skip
                have hap : 0 < a := (alm_pos hA (by omega)).mp ((hJ i hi).2.1 hp)
                obtain ⟨⟨d, hd, eD⟩, hn1, hn2⟩ := (hJ i hi).2.2 hp
                refine xi_aload_n hC dL_same_162 (pc' := 163) rfl rfl rfl ?_
                refine xi_iload hC dL_same_163 (pc' := 165) rfl rfl ?_
                refine xi_iconst (v := nI 2) hC dL_same_165 (pc' := 166) rfl (by decide +kernel) ?_
                refine xi_callV (As := [.int (nI i), .int (nI 2)]) (rest := []) (c_X7_user l D b (b + (k + 2)) (σ := σ22) (S := S) (N := N) (u := u) (w := w) hS hRσ22 (by omega) (x := (nI i)) (y := (nI 2))) hC dL_same_166 (pc' := 169) rfl xw_m_L_18 xw_c_X7_user xw_ins_X7_user xw_sel_X7_user xw_ini_X7 xd_X7_user (xH_at.trans (xsh_7 kd_0)) rfl ⟨Nat.le_of_ble_eq_true rfl, Nat.le_of_ble_eq_true rfl⟩ rfl (Nat.le_of_ble_eq_true rfl) ⟨Nat.le_of_ble_eq_true rfl, Nat.le_of_ble_eq_true rfl⟩ ?_
                rintro _ _ ⟨r51, rfl, hO52, rfl⟩
                obtain rfl : r51 = (nI 1) := hO52 _ (su_2t (by omega) (by omega) hp)
                show xV _ _ _ _ _ _ _ _ _ _ _ _ _ _ _ _ _ (xH D b σ22) _ _ [.int (nI 1)]
                refine xn_ifle (tgt := 182) hC dL_same_169 (pc' := 172) rfl (by decide) (by omega) (fun zc169 => ?_) (fun zc169 => ?_)
                · first | exact zc169.elim | exact absurd zc169 (by decide)
                · skip
                  refine xi_aload_n hC dL_same_172 (pc' := 173) rfl rfl rfl ?_
                  refine xi_iload hC dL_same_173 (pc' := 175) rfl rfl ?_
                  refine xi_iconst (v := nI 1) hC dL_same_175 (pc' := 176) rfl (by decide +kernel) ?_
                  refine xi_callV (As := [.int (nI i), .int (nI 1)]) (rest := []) (c_X7_user l D b (b + (k + 2)) (σ := σ22) (S := S) (N := N) (u := u) (w := w) hS hRσ22 (by omega) (x := (nI i)) (y := (nI 1))) hC dL_same_176 (pc' := 179) rfl xw_m_L_18 xw_c_X7_user xw_ins_X7_user xw_sel_X7_user xw_ini_X7 xd_X7_user (xH_at.trans (xsh_7 kd_0)) rfl ⟨Nat.le_of_ble_eq_true rfl, Nat.le_of_ble_eq_true rfl⟩ rfl (Nat.le_of_ble_eq_true rfl) ⟨Nat.le_of_ble_eq_true rfl, Nat.le_of_ble_eq_true rfl⟩ ?_
                  rintro _ _ ⟨r53, rfl, hO54, rfl⟩
                  obtain rfl : r53 = (nI a) := hO54 _ (su_1 (by omega) (by omega) hA)
                  show xV _ _ _ _ _ _ _ _ _ _ _ _ _ _ _ _ _ (xH D b σ22) _ _ [.int (nI a)]
                  refine xn_ifeq (tgt := 233) hC dL_same_179 (pc' := 182) rfl (by decide) (by omega) (fun zc179 => ?_) (fun zc179 => ?_)
                  · exact absurd zc179 (by omega)
                  · skip
                    refine xi_aload_n hC dL_same_182 (pc' := 183) rfl rfl rfl ?_
                    refine xi_iload hC dL_same_183 (pc' := 185) rfl rfl ?_
                    refine xi_bipush (v := nI 7) hC dL_same_185 (pc' := 187) rfl (by decide +kernel) ?_
                    refine xi_callV (As := [.int (nI i), .int (nI 7)]) (rest := []) (c_X7_user l D b (b + (k + 2)) (σ := σ22) (S := S) (N := N) (u := u) (w := w) hS hRσ22 (by omega) (x := (nI i)) (y := (nI 7))) hC dL_same_187 (pc' := 190) rfl xw_m_L_18 xw_c_X7_user xw_ins_X7_user xw_sel_X7_user xw_ini_X7 xd_X7_user (xH_at.trans (xsh_7 kd_0)) rfl ⟨Nat.le_of_ble_eq_true rfl, Nat.le_of_ble_eq_true rfl⟩ rfl (Nat.le_of_ble_eq_true rfl) ⟨Nat.le_of_ble_eq_true rfl, Nat.le_of_ble_eq_true rfl⟩ ?_
                    rintro _ _ ⟨r55, rfl, hO56, rfl⟩
                    obtain rfl : r55 = (nI d) := hO56 _ (su_7t (by omega) (by omega) hp eD)
                    show xV _ _ _ _ _ _ _ _ _ _ _ _ _ _ _ _ _ (xH D b σ22) _ _ [.int (nI d)]
                    refine xi_sipush (v := -10005) hC dL_same_190 (pc' := 193) rfl (by decide +kernel) ?_
                    refine xi_icmpne (tgt := 200) hC dL_same_193 (pc' := 196) rfl (by decide) (fun zc193 => ?_) (fun zc193 => ?_)
                    · skip
                      refine xi_iconst (v := nI 0) hC dL_same_200 (pc' := 201) rfl (by decide +kernel) ?_
                      refine xi_aload_n hC dL_same_201 (pc' := 202) rfl rfl rfl ?_
                      refine xi_iload hC dL_same_202 (pc' := 204) rfl rfl ?_
                      refine xi_iconst (v := nI 2) hC dL_same_204 (pc' := 205) rfl (by decide +kernel) ?_
                      refine xi_callV (As := [.int (nI i), .int (nI 2)]) (rest := [.int (nI 0)]) (c_X7_user l D b (b + (k + 2)) (σ := σ22) (S := S) (N := N) (u := u) (w := w) hS hRσ22 (by omega) (x := (nI i)) (y := (nI 2))) hC dL_same_205 (pc' := 208) rfl xw_m_L_18 xw_c_X7_user xw_ins_X7_user xw_sel_X7_user xw_ini_X7 xd_X7_user (xH_at.trans (xsh_7 kd_0)) rfl ⟨Nat.le_of_ble_eq_true rfl, Nat.le_of_ble_eq_true rfl⟩ rfl (Nat.le_of_ble_eq_true rfl) ⟨Nat.le_of_ble_eq_true rfl, Nat.le_of_ble_eq_true rfl⟩ ?_
                      rintro _ _ ⟨r57, rfl, hO58, rfl⟩
                      obtain rfl : r57 = (nI 1) := hO58 _ (su_2t (by omega) (by omega) hp)
                      show xV _ _ _ _ _ _ _ _ _ _ _ _ _ _ _ _ _ (xH D b σ22) _ _ [.int (nI 1), .int (nI 0)]
                      refine xn_ifne (tgt := 215) hC dL_same_208 (pc' := 211) rfl (by decide) (by omega) (fun zc208 => ?_) (fun zc208 => ?_)
                      · skip
                        refine xi_iconst (v := nI 0) hC dL_same_215 (pc' := 216) rfl (by decide +kernel) ?_
                        refine xn_icmpne (tgt := 233) hC dL_same_216 (pc' := 219) rfl (by decide) (by omega) (by omega) (fun zc216 => ?_) (fun zc216 => ?_)
                        · exact absurd zc216 (by decide)
                        · skip
                          refine xi_aload_n hC dL_same_219 (pc' := 220) rfl rfl rfl ?_
                          refine xi_iload hC dL_same_220 (pc' := 222) rfl rfl ?_
                          refine xi_bipush (v := nI 8) hC dL_same_222 (pc' := 224) rfl (by decide +kernel) ?_
                          refine xi_callV (As := [.int (nI i), .int (nI 8)]) (rest := []) (c_X7_user l D b (b + (k + 2)) (σ := σ22) (S := S) (N := N) (u := u) (w := w) hS hRσ22 (by omega) (x := (nI i)) (y := (nI 8))) hC dL_same_224 (pc' := 227) rfl xw_m_L_18 xw_c_X7_user xw_ins_X7_user xw_sel_X7_user xw_ini_X7 xd_X7_user (xH_at.trans (xsh_7 kd_0)) rfl ⟨Nat.le_of_ble_eq_true rfl, Nat.le_of_ble_eq_true rfl⟩ rfl (Nat.le_of_ble_eq_true rfl) ⟨Nat.le_of_ble_eq_true rfl, Nat.le_of_ble_eq_true rfl⟩ ?_
                          rintro _ _ ⟨r59, rfl, hO60, rfl⟩
                          obtain rfl : r59 = (-10002) := hO60 _ (su_8 (by omega) (by omega))
                          show xV _ _ _ _ _ _ _ _ _ _ _ _ _ _ _ _ _ (xH D b σ22) _ _ [.int (-10002)]
                          refine xi_sipush (v := -10002) hC dL_same_227 (pc' := 230) rfl (by decide +kernel) ?_
                          refine xi_icmpeq (tgt := 235) hC dL_same_230 (pc' := 233) rfl (by decide) (fun zc230 => ?_) (fun zc230 => ?_)
                          · skip
                            refine L235  
                          · exact absurd rfl zc230
                      · exact absurd zc208 (by decide)
                    · exact absurd zc193 (nI_ne (by omega))
          refine xb_ifeq (tgt := 148) hC dL_same_122 (pc' := 125) rfl (by decide) (fun zc122 => ?_) (fun zc122 => ?_)
          · exact absurd (hJ i hi).1 zc122
          · skip
            refine xi_aload_n hC dL_same_125 (pc' := 126) rfl rfl rfl ?_
            refine xi_iload hC dL_same_126 (pc' := 128) rfl rfl ?_
            refine xi_iconst (v := nI 1) hC dL_same_128 (pc' := 129) rfl (by decide +kernel) ?_
            refine xi_callV (As := [.int (nI i), .int (nI 1)]) (rest := []) (c_X7_user l D b (b + (k + 2)) (σ := σ22) (S := S) (N := N) (u := u) (w := w) hS hRσ22 (by omega) (x := (nI i)) (y := (nI 1))) hC dL_same_129 (pc' := 132) rfl xw_m_L_18 xw_c_X7_user xw_ins_X7_user xw_sel_X7_user xw_ini_X7 xd_X7_user (xH_at.trans (xsh_7 kd_0)) rfl ⟨Nat.le_of_ble_eq_true rfl, Nat.le_of_ble_eq_true rfl⟩ rfl (Nat.le_of_ble_eq_true rfl) ⟨Nat.le_of_ble_eq_true rfl, Nat.le_of_ble_eq_true rfl⟩ ?_
            rintro _ _ ⟨r61, rfl, hO62, rfl⟩
            obtain rfl : r61 = (nI a) := hO62 _ (su_1 (by omega) (by omega) hA)
            show xV _ _ _ _ _ _ _ _ _ _ _ _ _ _ _ _ _ (xH D b σ22) _ _ [.int (nI a)]
            refine xn_ifne (tgt := 148) hC dL_same_132 (pc' := 135) rfl (by decide) (by omega) (fun zc132 => ?_) (fun zc132 => ?_)
            · skip
              refine xi_iconst (v := nI 0) hC dL_same_148 (pc' := 149) rfl (by decide +kernel) ?_
              refine xtop (y := (bI (knP S u i 0))) ((bI_f (knP_a hA (by omega) ha5)).symm) ?_
              refine L149  
            · skip
              refine xi_aload_n hC dL_same_135 (pc' := 136) rfl rfl rfl ?_
              refine xi_iload hC dL_same_136 (pc' := 138) rfl rfl ?_
              refine xi_callV (As := [.int (nI i)]) (rest := []) (c_X7_check l D b (b + (k + 2)) (σ := σ22) (S := S) (N := N) (u := u) (w := w) hS hRσ22 (by omega) (x := (nI i))) hC dL_same_138 (pc' := 141) rfl xw_m_L_36 xw_c_X7_check xw_ins_X7_check xw_sel_X7_check xw_ini_X7 xd_X7_check (xH_at.trans (xsh_7 kd_0)) rfl ⟨Nat.le_of_ble_eq_true rfl, Nat.le_of_ble_eq_true rfl⟩ rfl (Nat.le_of_ble_eq_true rfl) ⟨Nat.le_of_ble_eq_true rfl, Nat.le_of_ble_eq_true rfl⟩ ?_
              rintro _ _ ⟨r63, rfl, hO64, rfl⟩
              obtain rfl : r63 = (nI x) := hO64 _ _ (sk_0 (by omega) (by omega) (by rw [hA, zc132]) (by omega) hV hx)
              show xV _ _ _ _ _ _ _ _ _ _ _ _ _ _ _ _ _ (xH D b σ22) _ _ [.int (nI x)]
              refine xn_ifne (tgt := 148) hC dL_same_141 (pc' := 144) rfl (by decide) (by omega) (fun zc141 => ?_) (fun zc141 => ?_)
              · skip
                refine xi_iconst (v := nI 0) hC dL_same_148 (pc' := 149) rfl (by decide +kernel) ?_
                refine xtop (y := (bI (knP S u i 0))) ((bI_f (knP_x (by omega) hV (by rw [hx]; exact zc141))).symm) ?_
                refine L149  
              · skip
                refine xi_iconst (v := nI 1) hC dL_same_144 (pc' := 145) rfl (by decide +kernel) ?_
                refine xi_goto (tgt := 149) hC dL_same_145 (by decide) ?_
                refine xtop (y := (bI (knP S u i 0))) ((bI_t (knP_0 (by omega) (by rw [hA, zc132]) hV (by rw [hx]; exact zc141))).symm) ?_
                refine L149  
        refine xi_iload_n hC dL_same_42 (pc' := 43) rfl rfl rfl ?_
        refine xi_aload_n hC dL_same_43 (pc' := 44) rfl rfl rfl ?_
        refine xi_iload hC dL_same_44 (pc' := 46) rfl rfl ?_
        refine xi_iconst (v := nI 1) hC dL_same_46 (pc' := 47) rfl (by decide +kernel) ?_
        refine xi_callV (As := [.int (nI i), .int (nI 1)]) (rest := [.int (nI (xcnt (fun i => 0 < S m_alarmOf i) i))]) (c_X7_user l D b (b + (k + 2)) (σ := τa) (S := S) (N := N) (u := u) (w := w) hS hRa (by omega) (x := (nI i)) (y := (nI 1))) hC dL_same_47 (pc' := 50) rfl xw_m_L_18 xw_c_X7_user xw_ins_X7_user xw_sel_X7_user xw_ini_X7 xd_X7_user (xH_at.trans (xsh_7 kd_0)) rfl ⟨Nat.le_of_ble_eq_true rfl, Nat.le_of_ble_eq_true rfl⟩ rfl (Nat.le_of_ble_eq_true rfl) ⟨Nat.le_of_ble_eq_true rfl, Nat.le_of_ble_eq_true rfl⟩ ?_
        rintro _ _ ⟨r65, rfl, hO66, rfl⟩
        obtain rfl : r65 = (nI a) := hO66 _ (su_1 (by omega) (by omega) hA)
        show xV _ _ _ _ _ _ _ _ _ _ _ _ _ _ _ _ _ (xH D b τa) _ _ [.int (nI a), .int (nI (xcnt (fun i => 0 < S m_alarmOf i) i))]
        refine xn_ifle (tgt := 57) hC dL_same_50 (pc' := 53) rfl (by decide) (by omega) (fun zc50 => ?_) (fun zc50 => ?_)
        · skip
          refine xi_iconst (v := nI 0) hC dL_same_57 (pc' := 58) rfl (by decide +kernel) ?_
          refine xn_iadd hC dL_same_58 (pc' := 59) rfl ?_
          refine xtop (y := nI (xcnt (fun i => 0 < S m_alarmOf i) i)) (by rw [Nat.add_zero]) ?_
          refine xtop (y := (nI (xcnt (fun i => 0 < S m_alarmOf i) (i + 1)))) (by rw [xcnt_f (P := fun i => 0 < S m_alarmOf i) (fun q => absurd ((alm_pos hA (by omega)).mp q) (by omega))]) ?_
          refine xi_istore_n (lv' := [some (.ref (b + 0)), some (.int (nI u)), some (.int (nI (xcnt (fun i => 0 < S m_alarmOf i) (i + 1)))), some (.int (nI (xcnt (fun i => S m_hasProof i ≠ 0) i))), some (.int (xsum (S m_lettersOf) i)), some (.int (xsum (S m_doneOf) i)), some (.int (nI (apc (fkQ S u) u i))), some (.int t7), some (.int (bitM (unQ S u) i)), some (.ref (b + k)), some (.ref (b + (k + 1))), some (.int (nI i)), o12, o13, o14, o15]) hC dL_same_59 (pc' := 60) rfl rfl (by decide) rfl ?_
          by_cases hp : S m_hasProof i = 0
          · skip
            refine xi_iload_n hC dL_same_60 (pc' := 61) rfl rfl rfl ?_
            refine xi_aload_n hC dL_same_61 (pc' := 62) rfl rfl rfl ?_
            refine xi_iload hC dL_same_62 (pc' := 64) rfl rfl ?_
            refine xi_iconst (v := nI 2) hC dL_same_64 (pc' := 65) rfl (by decide +kernel) ?_
            refine xi_callV (As := [.int (nI i), .int (nI 2)]) (rest := [.int (nI (xcnt (fun i => S m_hasProof i ≠ 0) i))]) (c_X7_user l D b (b + (k + 2)) (σ := τa) (S := S) (N := N) (u := u) (w := w) hS hRa (by omega) (x := (nI i)) (y := (nI 2))) hC dL_same_65 (pc' := 68) rfl xw_m_L_18 xw_c_X7_user xw_ins_X7_user xw_sel_X7_user xw_ini_X7 xd_X7_user (xH_at.trans (xsh_7 kd_0)) rfl ⟨Nat.le_of_ble_eq_true rfl, Nat.le_of_ble_eq_true rfl⟩ rfl (Nat.le_of_ble_eq_true rfl) ⟨Nat.le_of_ble_eq_true rfl, Nat.le_of_ble_eq_true rfl⟩ ?_
            rintro _ _ ⟨r67, rfl, hO68, rfl⟩
            obtain rfl : r67 = (nI 0) := hO68 _ (su_2f (by omega) (by omega) hp)
            show xV _ _ _ _ _ _ _ _ _ _ _ _ _ _ _ _ _ (xH D b τa) _ _ [.int (nI 0), .int (nI (xcnt (fun i => S m_hasProof i ≠ 0) i))]
            refine xn_iadd hC dL_same_68 (pc' := 69) rfl ?_
            refine xtop (y := nI (xcnt (fun i => S m_hasProof i ≠ 0) i)) (by rw [Nat.add_zero]) ?_
            refine xtop (y := (nI (xcnt (fun i => S m_hasProof i ≠ 0) (i + 1)))) (by rw [xcnt_f (P := fun i => S m_hasProof i ≠ 0) (fun q => q hp)]) ?_
            refine xi_istore_n (lv' := [some (.ref (b + 0)), some (.int (nI u)), some (.int (nI (xcnt (fun i => 0 < S m_alarmOf i) (i + 1)))), some (.int (nI (xcnt (fun i => S m_hasProof i ≠ 0) (i + 1)))), some (.int (xsum (S m_lettersOf) i)), some (.int (xsum (S m_doneOf) i)), some (.int (nI (apc (fkQ S u) u i))), some (.int t7), some (.int (bitM (unQ S u) i)), some (.ref (b + k)), some (.ref (b + (k + 1))), some (.int (nI i)), o12, o13, o14, o15]) hC dL_same_69 (pc' := 70) rfl rfl (by decide) rfl ?_
            refine xi_iload hC dL_same_70 (pc' := 72) rfl rfl ?_
            refine xi_aload_n hC dL_same_72 (pc' := 73) rfl rfl rfl ?_
            refine xi_iload hC dL_same_73 (pc' := 75) rfl rfl ?_
            refine xi_iconst (v := nI 3) hC dL_same_75 (pc' := 76) rfl (by decide +kernel) ?_
            refine xi_callV (As := [.int (nI i), .int (nI 3)]) (rest := [.int (xsum (S m_lettersOf) i)]) (c_X7_user l D b (b + (k + 2)) (σ := τa) (S := S) (N := N) (u := u) (w := w) hS hRa (by omega) (x := (nI i)) (y := (nI 3))) hC dL_same_76 (pc' := 79) rfl xw_m_L_18 xw_c_X7_user xw_ins_X7_user xw_sel_X7_user xw_ini_X7 xd_X7_user (xH_at.trans (xsh_7 kd_0)) rfl ⟨Nat.le_of_ble_eq_true rfl, Nat.le_of_ble_eq_true rfl⟩ rfl (Nat.le_of_ble_eq_true rfl) ⟨Nat.le_of_ble_eq_true rfl, Nat.le_of_ble_eq_true rfl⟩ ?_
            rintro _ _ ⟨r69, rfl, hO70, rfl⟩
            obtain rfl : r69 = (S m_lettersOf i) := hO70 _ (su_3i (by omega) (by omega))
            show xV _ _ _ _ _ _ _ _ _ _ _ _ _ _ _ _ _ (xH D b τa) _ _ [.int (S m_lettersOf i), .int (xsum (S m_lettersOf) i)]
            refine xi_iadd hC dL_same_79 (pc' := 80) rfl ?_
            refine xi_istore (lv' := [some (.ref (b + 0)), some (.int (nI u)), some (.int (nI (xcnt (fun i => 0 < S m_alarmOf i) (i + 1)))), some (.int (nI (xcnt (fun i => S m_hasProof i ≠ 0) (i + 1)))), some (.int ((xsum (S m_lettersOf) i) + (S m_lettersOf i))), some (.int (xsum (S m_doneOf) i)), some (.int (nI (apc (fkQ S u) u i))), some (.int t7), some (.int (bitM (unQ S u) i)), some (.ref (b + k)), some (.ref (b + (k + 1))), some (.int (nI i)), o12, o13, o14, o15]) hC dL_same_80 (pc' := 82) rfl (by decide) rfl ?_
            refine xi_iload hC dL_same_82 (pc' := 84) rfl rfl ?_
            refine xi_aload_n hC dL_same_84 (pc' := 85) rfl rfl rfl ?_
            refine xi_iload hC dL_same_85 (pc' := 87) rfl rfl ?_
            refine xi_iconst (v := nI 4) hC dL_same_87 (pc' := 88) rfl (by decide +kernel) ?_
            refine xi_callV (As := [.int (nI i), .int (nI 4)]) (rest := [.int (xsum (S m_doneOf) i)]) (c_X7_user l D b (b + (k + 2)) (σ := τa) (S := S) (N := N) (u := u) (w := w) hS hRa (by omega) (x := (nI i)) (y := (nI 4))) hC dL_same_88 (pc' := 91) rfl xw_m_L_18 xw_c_X7_user xw_ins_X7_user xw_sel_X7_user xw_ini_X7 xd_X7_user (xH_at.trans (xsh_7 kd_0)) rfl ⟨Nat.le_of_ble_eq_true rfl, Nat.le_of_ble_eq_true rfl⟩ rfl (Nat.le_of_ble_eq_true rfl) ⟨Nat.le_of_ble_eq_true rfl, Nat.le_of_ble_eq_true rfl⟩ ?_
            rintro _ _ ⟨r71, rfl, hO72, rfl⟩
            obtain rfl : r71 = (S m_doneOf i) := hO72 _ (su_4 (by omega) (by omega))
            show xV _ _ _ _ _ _ _ _ _ _ _ _ _ _ _ _ _ (xH D b τa) _ _ [.int (S m_doneOf i), .int (xsum (S m_doneOf) i)]
            refine xi_iadd hC dL_same_91 (pc' := 92) rfl ?_
            refine xi_istore (lv' := [some (.ref (b + 0)), some (.int (nI u)), some (.int (nI (xcnt (fun i => 0 < S m_alarmOf i) (i + 1)))), some (.int (nI (xcnt (fun i => S m_hasProof i ≠ 0) (i + 1)))), some (.int ((xsum (S m_lettersOf) i) + (S m_lettersOf i))), some (.int ((xsum (S m_doneOf) i) + (S m_doneOf i))), some (.int (nI (apc (fkQ S u) u i))), some (.int t7), some (.int (bitM (unQ S u) i)), some (.ref (b + k)), some (.ref (b + (k + 1))), some (.int (nI i)), o12, o13, o14, o15]) hC dL_same_92 (pc' := 94) rfl (by decide) rfl ?_
            refine L94  
          · skip
            have hap : 0 < a := (alm_pos hA (by omega)).mp ((hJ i hi).2.1 hp)
            obtain ⟨⟨d, hd, eD⟩, hn1, hn2⟩ := (hJ i hi).2.2 hp
            refine xi_iload_n hC dL_same_60 (pc' := 61) rfl rfl rfl ?_
            refine xi_aload_n hC dL_same_61 (pc' := 62) rfl rfl rfl ?_
            refine xi_iload hC dL_same_62 (pc' := 64) rfl rfl ?_
            refine xi_iconst (v := nI 2) hC dL_same_64 (pc' := 65) rfl (by decide +kernel) ?_
            refine xi_callV (As := [.int (nI i), .int (nI 2)]) (rest := [.int (nI (xcnt (fun i => S m_hasProof i ≠ 0) i))]) (c_X7_user l D b (b + (k + 2)) (σ := τa) (S := S) (N := N) (u := u) (w := w) hS hRa (by omega) (x := (nI i)) (y := (nI 2))) hC dL_same_65 (pc' := 68) rfl xw_m_L_18 xw_c_X7_user xw_ins_X7_user xw_sel_X7_user xw_ini_X7 xd_X7_user (xH_at.trans (xsh_7 kd_0)) rfl ⟨Nat.le_of_ble_eq_true rfl, Nat.le_of_ble_eq_true rfl⟩ rfl (Nat.le_of_ble_eq_true rfl) ⟨Nat.le_of_ble_eq_true rfl, Nat.le_of_ble_eq_true rfl⟩ ?_
            rintro _ _ ⟨r73, rfl, hO74, rfl⟩
            obtain rfl : r73 = (nI 1) := hO74 _ (su_2t (by omega) (by omega) hp)
            show xV _ _ _ _ _ _ _ _ _ _ _ _ _ _ _ _ _ (xH D b τa) _ _ [.int (nI 1), .int (nI (xcnt (fun i => S m_hasProof i ≠ 0) i))]
            refine xn_iadd hC dL_same_68 (pc' := 69) rfl ?_
            refine xtop (y := (nI (xcnt (fun i => S m_hasProof i ≠ 0) (i + 1)))) (by rw [xcnt_t (P := fun i => S m_hasProof i ≠ 0) hp]) ?_
            refine xi_istore_n (lv' := [some (.ref (b + 0)), some (.int (nI u)), some (.int (nI (xcnt (fun i => 0 < S m_alarmOf i) (i + 1)))), some (.int (nI (xcnt (fun i => S m_hasProof i ≠ 0) (i + 1)))), some (.int (xsum (S m_lettersOf) i)), some (.int (xsum (S m_doneOf) i)), some (.int (nI (apc (fkQ S u) u i))), some (.int t7), some (.int (bitM (unQ S u) i)), some (.ref (b + k)), some (.ref (b + (k + 1))), some (.int (nI i)), o12, o13, o14, o15]) hC dL_same_69 (pc' := 70) rfl rfl (by decide) rfl ?_
            refine xi_iload hC dL_same_70 (pc' := 72) rfl rfl ?_
            refine xi_aload_n hC dL_same_72 (pc' := 73) rfl rfl rfl ?_
            refine xi_iload hC dL_same_73 (pc' := 75) rfl rfl ?_
            refine xi_iconst (v := nI 3) hC dL_same_75 (pc' := 76) rfl (by decide +kernel) ?_
            refine xi_callV (As := [.int (nI i), .int (nI 3)]) (rest := [.int (xsum (S m_lettersOf) i)]) (c_X7_user l D b (b + (k + 2)) (σ := τa) (S := S) (N := N) (u := u) (w := w) hS hRa (by omega) (x := (nI i)) (y := (nI 3))) hC dL_same_76 (pc' := 79) rfl xw_m_L_18 xw_c_X7_user xw_ins_X7_user xw_sel_X7_user xw_ini_X7 xd_X7_user (xH_at.trans (xsh_7 kd_0)) rfl ⟨Nat.le_of_ble_eq_true rfl, Nat.le_of_ble_eq_true rfl⟩ rfl (Nat.le_of_ble_eq_true rfl) ⟨Nat.le_of_ble_eq_true rfl, Nat.le_of_ble_eq_true rfl⟩ ?_
            rintro _ _ ⟨r75, rfl, hO76, rfl⟩
            obtain rfl : r75 = (S m_lettersOf i) := hO76 _ (su_3i (by omega) (by omega))
            show xV _ _ _ _ _ _ _ _ _ _ _ _ _ _ _ _ _ (xH D b τa) _ _ [.int (S m_lettersOf i), .int (xsum (S m_lettersOf) i)]
            refine xi_iadd hC dL_same_79 (pc' := 80) rfl ?_
            refine xi_istore (lv' := [some (.ref (b + 0)), some (.int (nI u)), some (.int (nI (xcnt (fun i => 0 < S m_alarmOf i) (i + 1)))), some (.int (nI (xcnt (fun i => S m_hasProof i ≠ 0) (i + 1)))), some (.int ((xsum (S m_lettersOf) i) + (S m_lettersOf i))), some (.int (xsum (S m_doneOf) i)), some (.int (nI (apc (fkQ S u) u i))), some (.int t7), some (.int (bitM (unQ S u) i)), some (.ref (b + k)), some (.ref (b + (k + 1))), some (.int (nI i)), o12, o13, o14, o15]) hC dL_same_80 (pc' := 82) rfl (by decide) rfl ?_
            refine xi_iload hC dL_same_82 (pc' := 84) rfl rfl ?_
            refine xi_aload_n hC dL_same_84 (pc' := 85) rfl rfl rfl ?_
            refine xi_iload hC dL_same_85 (pc' := 87) rfl rfl ?_
            refine xi_iconst (v := nI 4) hC dL_same_87 (pc' := 88) rfl (by decide +kernel) ?_
            refine xi_callV (As := [.int (nI i), .int (nI 4)]) (rest := [.int (xsum (S m_doneOf) i)]) (c_X7_user l D b (b + (k + 2)) (σ := τa) (S := S) (N := N) (u := u) (w := w) hS hRa (by omega) (x := (nI i)) (y := (nI 4))) hC dL_same_88 (pc' := 91) rfl xw_m_L_18 xw_c_X7_user xw_ins_X7_user xw_sel_X7_user xw_ini_X7 xd_X7_user (xH_at.trans (xsh_7 kd_0)) rfl ⟨Nat.le_of_ble_eq_true rfl, Nat.le_of_ble_eq_true rfl⟩ rfl (Nat.le_of_ble_eq_true rfl) ⟨Nat.le_of_ble_eq_true rfl, Nat.le_of_ble_eq_true rfl⟩ ?_
            rintro _ _ ⟨r77, rfl, hO78, rfl⟩
            obtain rfl : r77 = (S m_doneOf i) := hO78 _ (su_4 (by omega) (by omega))
            show xV _ _ _ _ _ _ _ _ _ _ _ _ _ _ _ _ _ (xH D b τa) _ _ [.int (S m_doneOf i), .int (xsum (S m_doneOf) i)]
            refine xi_iadd hC dL_same_91 (pc' := 92) rfl ?_
            refine xi_istore (lv' := [some (.ref (b + 0)), some (.int (nI u)), some (.int (nI (xcnt (fun i => 0 < S m_alarmOf i) (i + 1)))), some (.int (nI (xcnt (fun i => S m_hasProof i ≠ 0) (i + 1)))), some (.int ((xsum (S m_lettersOf) i) + (S m_lettersOf i))), some (.int ((xsum (S m_doneOf) i) + (S m_doneOf i))), some (.int (nI (apc (fkQ S u) u i))), some (.int t7), some (.int (bitM (unQ S u) i)), some (.ref (b + k)), some (.ref (b + (k + 1))), some (.int (nI i)), o12, o13, o14, o15]) hC dL_same_92 (pc' := 94) rfl (by decide) rfl ?_
            refine L94  
        · skip
          refine xi_iconst (v := nI 1) hC dL_same_53 (pc' := 54) rfl (by decide +kernel) ?_
          refine xi_goto (tgt := 58) hC dL_same_54 (by decide) ?_
          refine xn_iadd hC dL_same_58 (pc' := 59) rfl ?_
          refine xtop (y := (nI (xcnt (fun i => 0 < S m_alarmOf i) (i + 1)))) (by rw [xcnt_t (P := fun i => 0 < S m_alarmOf i) ((alm_pos hA (by omega)).mpr zc50)]) ?_
          refine xi_istore_n (lv' := [some (.ref (b + 0)), some (.int (nI u)), some (.int (nI (xcnt (fun i => 0 < S m_alarmOf i) (i + 1)))), some (.int (nI (xcnt (fun i => S m_hasProof i ≠ 0) i))), some (.int (xsum (S m_lettersOf) i)), some (.int (xsum (S m_doneOf) i)), some (.int (nI (apc (fkQ S u) u i))), some (.int t7), some (.int (bitM (unQ S u) i)), some (.ref (b + k)), some (.ref (b + (k + 1))), some (.int (nI i)), o12, o13, o14, o15]) hC dL_same_59 (pc' := 60) rfl rfl (by decide) rfl ?_
          by_cases hp : S m_hasProof i = 0
          · skip
            refine xi_iload_n hC dL_same_60 (pc' := 61) rfl rfl rfl ?_
            refine xi_aload_n hC dL_same_61 (pc' := 62) rfl rfl rfl ?_
            refine xi_iload hC dL_same_62 (pc' := 64) rfl rfl ?_
            refine xi_iconst (v := nI 2) hC dL_same_64 (pc' := 65) rfl (by decide +kernel) ?_
            refine xi_callV (As := [.int (nI i), .int (nI 2)]) (rest := [.int (nI (xcnt (fun i => S m_hasProof i ≠ 0) i))]) (c_X7_user l D b (b + (k + 2)) (σ := τa) (S := S) (N := N) (u := u) (w := w) hS hRa (by omega) (x := (nI i)) (y := (nI 2))) hC dL_same_65 (pc' := 68) rfl xw_m_L_18 xw_c_X7_user xw_ins_X7_user xw_sel_X7_user xw_ini_X7 xd_X7_user (xH_at.trans (xsh_7 kd_0)) rfl ⟨Nat.le_of_ble_eq_true rfl, Nat.le_of_ble_eq_true rfl⟩ rfl (Nat.le_of_ble_eq_true rfl) ⟨Nat.le_of_ble_eq_true rfl, Nat.le_of_ble_eq_true rfl⟩ ?_
            rintro _ _ ⟨r79, rfl, hO80, rfl⟩
            obtain rfl : r79 = (nI 0) := hO80 _ (su_2f (by omega) (by omega) hp)
            show xV _ _ _ _ _ _ _ _ _ _ _ _ _ _ _ _ _ (xH D b τa) _ _ [.int (nI 0), .int (nI (xcnt (fun i => S m_hasProof i ≠ 0) i))]
            refine xn_iadd hC dL_same_68 (pc' := 69) rfl ?_
            refine xtop (y := nI (xcnt (fun i => S m_hasProof i ≠ 0) i)) (by rw [Nat.add_zero]) ?_
            refine xtop (y := (nI (xcnt (fun i => S m_hasProof i ≠ 0) (i + 1)))) (by rw [xcnt_f (P := fun i => S m_hasProof i ≠ 0) (fun q => q hp)]) ?_
            refine xi_istore_n (lv' := [some (.ref (b + 0)), some (.int (nI u)), some (.int (nI (xcnt (fun i => 0 < S m_alarmOf i) (i + 1)))), some (.int (nI (xcnt (fun i => S m_hasProof i ≠ 0) (i + 1)))), some (.int (xsum (S m_lettersOf) i)), some (.int (xsum (S m_doneOf) i)), some (.int (nI (apc (fkQ S u) u i))), some (.int t7), some (.int (bitM (unQ S u) i)), some (.ref (b + k)), some (.ref (b + (k + 1))), some (.int (nI i)), o12, o13, o14, o15]) hC dL_same_69 (pc' := 70) rfl rfl (by decide) rfl ?_
            refine xi_iload hC dL_same_70 (pc' := 72) rfl rfl ?_
            refine xi_aload_n hC dL_same_72 (pc' := 73) rfl rfl rfl ?_
            refine xi_iload hC dL_same_73 (pc' := 75) rfl rfl ?_
            refine xi_iconst (v := nI 3) hC dL_same_75 (pc' := 76) rfl (by decide +kernel) ?_
            refine xi_callV (As := [.int (nI i), .int (nI 3)]) (rest := [.int (xsum (S m_lettersOf) i)]) (c_X7_user l D b (b + (k + 2)) (σ := τa) (S := S) (N := N) (u := u) (w := w) hS hRa (by omega) (x := (nI i)) (y := (nI 3))) hC dL_same_76 (pc' := 79) rfl xw_m_L_18 xw_c_X7_user xw_ins_X7_user xw_sel_X7_user xw_ini_X7 xd_X7_user (xH_at.trans (xsh_7 kd_0)) rfl ⟨Nat.le_of_ble_eq_true rfl, Nat.le_of_ble_eq_true rfl⟩ rfl (Nat.le_of_ble_eq_true rfl) ⟨Nat.le_of_ble_eq_true rfl, Nat.le_of_ble_eq_true rfl⟩ ?_
            rintro _ _ ⟨r81, rfl, hO82, rfl⟩
            obtain rfl : r81 = (S m_lettersOf i) := hO82 _ (su_3i (by omega) (by omega))
            show xV _ _ _ _ _ _ _ _ _ _ _ _ _ _ _ _ _ (xH D b τa) _ _ [.int (S m_lettersOf i), .int (xsum (S m_lettersOf) i)]
            refine xi_iadd hC dL_same_79 (pc' := 80) rfl ?_
            refine xi_istore (lv' := [some (.ref (b + 0)), some (.int (nI u)), some (.int (nI (xcnt (fun i => 0 < S m_alarmOf i) (i + 1)))), some (.int (nI (xcnt (fun i => S m_hasProof i ≠ 0) (i + 1)))), some (.int ((xsum (S m_lettersOf) i) + (S m_lettersOf i))), some (.int (xsum (S m_doneOf) i)), some (.int (nI (apc (fkQ S u) u i))), some (.int t7), some (.int (bitM (unQ S u) i)), some (.ref (b + k)), some (.ref (b + (k + 1))), some (.int (nI i)), o12, o13, o14, o15]) hC dL_same_80 (pc' := 82) rfl (by decide) rfl ?_
            refine xi_iload hC dL_same_82 (pc' := 84) rfl rfl ?_
            refine xi_aload_n hC dL_same_84 (pc' := 85) rfl rfl rfl ?_
            refine xi_iload hC dL_same_85 (pc' := 87) rfl rfl ?_
            refine xi_iconst (v := nI 4) hC dL_same_87 (pc' := 88) rfl (by decide +kernel) ?_
            refine xi_callV (As := [.int (nI i), .int (nI 4)]) (rest := [.int (xsum (S m_doneOf) i)]) (c_X7_user l D b (b + (k + 2)) (σ := τa) (S := S) (N := N) (u := u) (w := w) hS hRa (by omega) (x := (nI i)) (y := (nI 4))) hC dL_same_88 (pc' := 91) rfl xw_m_L_18 xw_c_X7_user xw_ins_X7_user xw_sel_X7_user xw_ini_X7 xd_X7_user (xH_at.trans (xsh_7 kd_0)) rfl ⟨Nat.le_of_ble_eq_true rfl, Nat.le_of_ble_eq_true rfl⟩ rfl (Nat.le_of_ble_eq_true rfl) ⟨Nat.le_of_ble_eq_true rfl, Nat.le_of_ble_eq_true rfl⟩ ?_
            rintro _ _ ⟨r83, rfl, hO84, rfl⟩
            obtain rfl : r83 = (S m_doneOf i) := hO84 _ (su_4 (by omega) (by omega))
            show xV _ _ _ _ _ _ _ _ _ _ _ _ _ _ _ _ _ (xH D b τa) _ _ [.int (S m_doneOf i), .int (xsum (S m_doneOf) i)]
            refine xi_iadd hC dL_same_91 (pc' := 92) rfl ?_
            refine xi_istore (lv' := [some (.ref (b + 0)), some (.int (nI u)), some (.int (nI (xcnt (fun i => 0 < S m_alarmOf i) (i + 1)))), some (.int (nI (xcnt (fun i => S m_hasProof i ≠ 0) (i + 1)))), some (.int ((xsum (S m_lettersOf) i) + (S m_lettersOf i))), some (.int ((xsum (S m_doneOf) i) + (S m_doneOf i))), some (.int (nI (apc (fkQ S u) u i))), some (.int t7), some (.int (bitM (unQ S u) i)), some (.ref (b + k)), some (.ref (b + (k + 1))), some (.int (nI i)), o12, o13, o14, o15]) hC dL_same_92 (pc' := 94) rfl (by decide) rfl ?_
            refine L94  
          · skip
            have hap : 0 < a := (alm_pos hA (by omega)).mp ((hJ i hi).2.1 hp)
            obtain ⟨⟨d, hd, eD⟩, hn1, hn2⟩ := (hJ i hi).2.2 hp
            refine xi_iload_n hC dL_same_60 (pc' := 61) rfl rfl rfl ?_
            refine xi_aload_n hC dL_same_61 (pc' := 62) rfl rfl rfl ?_
            refine xi_iload hC dL_same_62 (pc' := 64) rfl rfl ?_
            refine xi_iconst (v := nI 2) hC dL_same_64 (pc' := 65) rfl (by decide +kernel) ?_
            refine xi_callV (As := [.int (nI i), .int (nI 2)]) (rest := [.int (nI (xcnt (fun i => S m_hasProof i ≠ 0) i))]) (c_X7_user l D b (b + (k + 2)) (σ := τa) (S := S) (N := N) (u := u) (w := w) hS hRa (by omega) (x := (nI i)) (y := (nI 2))) hC dL_same_65 (pc' := 68) rfl xw_m_L_18 xw_c_X7_user xw_ins_X7_user xw_sel_X7_user xw_ini_X7 xd_X7_user (xH_at.trans (xsh_7 kd_0)) rfl ⟨Nat.le_of_ble_eq_true rfl, Nat.le_of_ble_eq_true rfl⟩ rfl (Nat.le_of_ble_eq_true rfl) ⟨Nat.le_of_ble_eq_true rfl, Nat.le_of_ble_eq_true rfl⟩ ?_
            rintro _ _ ⟨r85, rfl, hO86, rfl⟩
            obtain rfl : r85 = (nI 1) := hO86 _ (su_2t (by omega) (by omega) hp)
            show xV _ _ _ _ _ _ _ _ _ _ _ _ _ _ _ _ _ (xH D b τa) _ _ [.int (nI 1), .int (nI (xcnt (fun i => S m_hasProof i ≠ 0) i))]
            refine xn_iadd hC dL_same_68 (pc' := 69) rfl ?_
            refine xtop (y := (nI (xcnt (fun i => S m_hasProof i ≠ 0) (i + 1)))) (by rw [xcnt_t (P := fun i => S m_hasProof i ≠ 0) hp]) ?_
            refine xi_istore_n (lv' := [some (.ref (b + 0)), some (.int (nI u)), some (.int (nI (xcnt (fun i => 0 < S m_alarmOf i) (i + 1)))), some (.int (nI (xcnt (fun i => S m_hasProof i ≠ 0) (i + 1)))), some (.int (xsum (S m_lettersOf) i)), some (.int (xsum (S m_doneOf) i)), some (.int (nI (apc (fkQ S u) u i))), some (.int t7), some (.int (bitM (unQ S u) i)), some (.ref (b + k)), some (.ref (b + (k + 1))), some (.int (nI i)), o12, o13, o14, o15]) hC dL_same_69 (pc' := 70) rfl rfl (by decide) rfl ?_
            refine xi_iload hC dL_same_70 (pc' := 72) rfl rfl ?_
            refine xi_aload_n hC dL_same_72 (pc' := 73) rfl rfl rfl ?_
            refine xi_iload hC dL_same_73 (pc' := 75) rfl rfl ?_
            refine xi_iconst (v := nI 3) hC dL_same_75 (pc' := 76) rfl (by decide +kernel) ?_
            refine xi_callV (As := [.int (nI i), .int (nI 3)]) (rest := [.int (xsum (S m_lettersOf) i)]) (c_X7_user l D b (b + (k + 2)) (σ := τa) (S := S) (N := N) (u := u) (w := w) hS hRa (by omega) (x := (nI i)) (y := (nI 3))) hC dL_same_76 (pc' := 79) rfl xw_m_L_18 xw_c_X7_user xw_ins_X7_user xw_sel_X7_user xw_ini_X7 xd_X7_user (xH_at.trans (xsh_7 kd_0)) rfl ⟨Nat.le_of_ble_eq_true rfl, Nat.le_of_ble_eq_true rfl⟩ rfl (Nat.le_of_ble_eq_true rfl) ⟨Nat.le_of_ble_eq_true rfl, Nat.le_of_ble_eq_true rfl⟩ ?_
            rintro _ _ ⟨r87, rfl, hO88, rfl⟩
            obtain rfl : r87 = (S m_lettersOf i) := hO88 _ (su_3i (by omega) (by omega))
            show xV _ _ _ _ _ _ _ _ _ _ _ _ _ _ _ _ _ (xH D b τa) _ _ [.int (S m_lettersOf i), .int (xsum (S m_lettersOf) i)]
            refine xi_iadd hC dL_same_79 (pc' := 80) rfl ?_
            refine xi_istore (lv' := [some (.ref (b + 0)), some (.int (nI u)), some (.int (nI (xcnt (fun i => 0 < S m_alarmOf i) (i + 1)))), some (.int (nI (xcnt (fun i => S m_hasProof i ≠ 0) (i + 1)))), some (.int ((xsum (S m_lettersOf) i) + (S m_lettersOf i))), some (.int (xsum (S m_doneOf) i)), some (.int (nI (apc (fkQ S u) u i))), some (.int t7), some (.int (bitM (unQ S u) i)), some (.ref (b + k)), some (.ref (b + (k + 1))), some (.int (nI i)), o12, o13, o14, o15]) hC dL_same_80 (pc' := 82) rfl (by decide) rfl ?_
            refine xi_iload hC dL_same_82 (pc' := 84) rfl rfl ?_
            refine xi_aload_n hC dL_same_84 (pc' := 85) rfl rfl rfl ?_
            refine xi_iload hC dL_same_85 (pc' := 87) rfl rfl ?_
            refine xi_iconst (v := nI 4) hC dL_same_87 (pc' := 88) rfl (by decide +kernel) ?_
            refine xi_callV (As := [.int (nI i), .int (nI 4)]) (rest := [.int (xsum (S m_doneOf) i)]) (c_X7_user l D b (b + (k + 2)) (σ := τa) (S := S) (N := N) (u := u) (w := w) hS hRa (by omega) (x := (nI i)) (y := (nI 4))) hC dL_same_88 (pc' := 91) rfl xw_m_L_18 xw_c_X7_user xw_ins_X7_user xw_sel_X7_user xw_ini_X7 xd_X7_user (xH_at.trans (xsh_7 kd_0)) rfl ⟨Nat.le_of_ble_eq_true rfl, Nat.le_of_ble_eq_true rfl⟩ rfl (Nat.le_of_ble_eq_true rfl) ⟨Nat.le_of_ble_eq_true rfl, Nat.le_of_ble_eq_true rfl⟩ ?_
            rintro _ _ ⟨r89, rfl, hO90, rfl⟩
            obtain rfl : r89 = (S m_doneOf i) := hO90 _ (su_4 (by omega) (by omega))
            show xV _ _ _ _ _ _ _ _ _ _ _ _ _ _ _ _ _ (xH D b τa) _ _ [.int (S m_doneOf i), .int (xsum (S m_doneOf) i)]
            refine xi_iadd hC dL_same_91 (pc' := 92) rfl ?_
            refine xi_istore (lv' := [some (.ref (b + 0)), some (.int (nI u)), some (.int (nI (xcnt (fun i => 0 < S m_alarmOf i) (i + 1)))), some (.int (nI (xcnt (fun i => S m_hasProof i ≠ 0) (i + 1)))), some (.int ((xsum (S m_lettersOf) i) + (S m_lettersOf i))), some (.int ((xsum (S m_doneOf) i) + (S m_doneOf i))), some (.int (nI (apc (fkQ S u) u i))), some (.int t7), some (.int (bitM (unQ S u) i)), some (.ref (b + k)), some (.ref (b + (k + 1))), some (.int (nI i)), o12, o13, o14, o15]) hC dL_same_92 (pc' := 94) rfl (by decide) rfl ?_
            refine L94  
  refine L36 _ 0 _ _ _ _ _ _ (Nat.lt_succ_self _) ?_ ?_ ?_ ?_ ?_
  · omega
  · exact hRσ2
  · exact hlσ2_k
  · exact hlσ2
  · exact TL_0
