/-! ===== p29: stores ===== -/
set_option maxRecDepth 100000 in
set_option maxHeartbeats 8000000 in
theorem c_L_stores (l : Launch) (D : XD) (b k : Nat) {σ S : XM} {N u w : Nat} (hS : SI N S u w) (hR : RR σ S u w) (hJ : JJ N S u) (hN : N + 4 < 2 ^ 31) {g h : Int32} (hk : 585 ≤ k) : xM l yL_stores cL_stores 13 (some .boolean) 4 90 1 36 D b (b + k) [.ref (b + 0), .int (nI u), .int g, .int h] (xH D b σ) (b + (k + 1)) (fun y' h' => ∃ (τ T : XM) (w' : Nat), y' = some (.int (nI 1)) ∧ SI (N + 1) T u w' ∧ RR τ T u w' ∧ JJ (N + 1) T u ∧ h' = xH D b τ) := by
  refine xM.of (lv := [some (.ref (b + 0)), some (.int (nI u)), some (.int g), some (.int h), none, none, none, none, none, none, none, none, none]) (by decide +kernel) rfl (List.forall_mem_cons.mpr ⟨rfl, List.forall_mem_cons.mpr ⟨rfl, List.forall_mem_cons.mpr ⟨rfl, List.forall_mem_cons.mpr ⟨rfl, fun _ h => absurd h List.not_mem_nil⟩⟩⟩⟩) (Nat.le_of_ble_eq_true rfl) rfl ?_
  intro p e s m args below meth c hC hr hnm
  have hu := hS.1.1.2
  have hw := hS.1.2.1.2
  have huu : u * u ≤ 25 := Nat.mul_le_mul hu.2 hu.2
  refine xi_aload_n hC dL_stores_0 (pc' := 1) rfl rfl rfl ?_
  refine xi_iconst (v := nI 1) hC dL_stores_1 (pc' := 2) rfl (by decide +kernel) ?_
  refine xi_callV (As := [.int (nI 1)]) (rest := []) (c_X7_count l D b (b + k) (σ := σ) (S := S) (N := N) (u := u) (w := w) hS hR (by omega) (x := (nI 1))) hC dL_stores_2 (pc' := 5) rfl xw_m_L_40 xw_c_X7_count xw_ins_X7_count xw_sel_X7_count xw_ini_X7 xd_X7_count (xH_at.trans (xsh_7 kd_0)) rfl ⟨Nat.le_of_ble_eq_true rfl, Nat.le_of_ble_eq_true rfl⟩ rfl (Nat.le_of_ble_eq_true rfl) ⟨Nat.le_of_ble_eq_true rfl, Nat.le_of_ble_eq_true rfl⟩ ?_
  rintro _ _ ⟨r1, rfl, hO2, rfl⟩
  obtain rfl : r1 = (nI w) := hO2 _ (sc_1)
  show xV _ _ _ _ _ _ _ _ _ _ _ _ _ _ _ _ _ (xH D b σ) _ _ [.int (nI w)]
  refine xi_istore (lv' := [some (.ref (b + 0)), some (.int (nI u)), some (.int g), some (.int h), some (.int (nI w)), none, none, none, none, none, none, none, none]) hC dL_stores_5 (pc' := 7) rfl (by decide) rfl ?_
  refine xi_iload_n hC dL_stores_7 (pc' := 8) rfl rfl rfl ?_
  refine xi_iload hC dL_stores_8 (pc' := 10) rfl rfl ?_
  refine xi_callS (As := [.int g, .int (nI w)]) (rest := []) (c_L_low l D b (b + k) (h := (xH D b σ)) (x := g) (k := w) (by omega) (by omega)) hC dL_stores_10 (pc' := 13) rfl xw_m_L_46 xw_c_L_low xw_sta_L_low xw_ini_L xd_L_low ⟨Nat.le_of_ble_eq_true rfl, Nat.le_of_ble_eq_true rfl⟩ rfl (Nat.le_of_ble_eq_true rfl) ⟨Nat.le_of_ble_eq_true rfl, Nat.le_of_ble_eq_true rfl⟩ ?_
  rintro _ _ ⟨⟨j3, hj3, rfl⟩, rfl⟩
  show xV _ _ _ _ _ _ _ _ _ _ _ _ _ _ _ _ _ (xH D b σ) _ _ [.int (nI j3)]
  obtain ⟨kp, hkp5, hkp⟩ := hS.1.2.2.2.1 j3 hj3
  refine xi_istore (lv' := [some (.ref (b + 0)), some (.int (nI u)), some (.int g), some (.int h), some (.int (nI w)), some (.int (nI j3)), none, none, none, none, none, none, none]) hC dL_stores_13 (pc' := 15) rfl (by decide) rfl ?_
  refine xi_bipush (v := nI 36) hC dL_stores_15 (pc' := 17) rfl (by decide +kernel) ?_
  refine xn_L (k0 := k) (N := 36) hC dL_stores_17 (pc' := 19) rfl rfl (by omega) (by decide) rfl ⟨Nat.le_of_ble_eq_true rfl, Nat.le_of_ble_eq_true rfl⟩ ?_
  have hlσ4 : su σ k (zL 36) k 4096 = nI 36 := by rw [su_s]; exact zL_len
  have heσ4 : ∀ o, o ≠ k → su σ k (zL 36) o = σ o := fun o ho => su_n ho
  generalize su σ k (zL 36) = σ4 at hlσ4 heσ4 ⊢
  have hRσ4 := hR.hi (by omega) (fun o ho => heσ4 o (by omega))
  refine xi_astore (lv' := [some (.ref (b + 0)), some (.int (nI u)), some (.int g), some (.int h), some (.int (nI w)), some (.int (nI j3)), some (.ref (b + k)), none, none, none, none, none, none]) hC dL_stores_19 (pc' := 21) rfl (by decide) rfl ?_
  refine xi_iconst (v := nI 0) hC dL_stores_21 (pc' := 22) rfl (by decide +kernel) ?_
  refine xi_istore (lv' := [some (.ref (b + 0)), some (.int (nI u)), some (.int g), some (.int h), some (.int (nI w)), some (.int (nI j3)), some (.ref (b + k)), some (.int (nI 0)), none, none, none, none, none]) hC dL_stores_22 (pc' := 24) rfl (by decide) rfl ?_
  have L24 : ∀ (d : Nat) (x : Nat) (τa : XM), u * u - x < d → (x ≤ u * u) → (RR τa S u w) → (τa k 4096 = nI 36) → (∀ q, q < x → τa k q = (rV S j3 (q / u) (q % u))) → xV p l e (xR 4 90 1 36) s m args below meth c D b 13 1 36 (MQ below (xQ D b (b + (k + 1)) (fun y' h' => ∃ (τ T : XM) (w' : Nat), y' = some (.int (nI 1)) ∧ SI (N + 1) T u w' ∧ RR τ T u w' ∧ JJ (N + 1) T u ∧ h' = xH D b τ)) args s 1 36 (fun q => b ≤ q)) (b + (k + 1)) (xH D b τa) 24 [some (.ref (b + 0)), some (.int (nI u)), some (.int g), some (.int h), some (.int (nI w)), some (.int (nI j3)), some (.ref (b + k)), some (.int (nI x)), none, none, none, none, none] [] := by
    intro d
    induction d with
    | zero => intro x τa h; exact absurd h (Nat.not_lt_zero _)
    | succ d ih24 =>
      intro x τa hd24 hx1 hRa hla hfa
      refine xi_iload hC dL_stores_24 (pc' := 26) rfl rfl ?_
      refine xi_iload_n hC dL_stores_26 (pc' := 27) rfl rfl rfl ?_
      refine xi_iload_n hC dL_stores_27 (pc' := 28) rfl rfl rfl ?_
      refine xn_imul hC dL_stores_28 (pc' := 29) rfl ?_
      refine xn_icmpge (tgt := 57) hC dL_stores_29 (pc' := 32) rfl (by decide) (by omega) (by omega) (fun zc29 => ?_) (fun zc29 => ?_)
      · skip
        have hfk : ∀ q, q < u * u → τa k q = (rV S j3 (q / u) (q % u)) := fun q hq => hfa q (by omega)
        refine xi_aload_n hC dL_stores_57 (pc' := 58) rfl rfl rfl ?_
        refine xi_iload hC dL_stores_58 (pc' := 60) rfl rfl ?_
        refine xi_iconst (v := nI 0) hC dL_stores_60 (pc' := 61) rfl (by decide +kernel) ?_
        refine xi_callV (As := [.int (nI j3), .int (nI 0)]) (rest := []) (c_X7_view l D b (b + (k + 1)) (σ := τa) (S := S) (N := N) (u := u) (w := w) hS hRa (by omega) (x := (nI j3)) (y := (nI 0))) hC dL_stores_61 (pc' := 64) rfl xw_m_L_43 xw_c_X7_view xw_ins_X7_view xw_sel_X7_view xw_ini_X7 xd_X7_view (xH_at.trans (xsh_7 kd_0)) rfl ⟨Nat.le_of_ble_eq_true rfl, Nat.le_of_ble_eq_true rfl⟩ rfl (Nat.le_of_ble_eq_true rfl) ⟨Nat.le_of_ble_eq_true rfl, Nat.le_of_ble_eq_true rfl⟩ ?_
        rintro _ _ ⟨r5, rfl, hO6, rfl⟩
        obtain rfl : r5 = (attM S (nI j3) u) := hO6 _ _ (sw_0 (by omega) (by omega))
        show xV _ _ _ _ _ _ _ _ _ _ _ _ _ _ _ _ _ (xH D b τa) _ _ [.int (attM S (nI j3) u)]
        refine xi_istore (lv' := [some (.ref (b + 0)), some (.int (nI u)), some (.int g), some (.int h), some (.int (nI w)), some (.int (nI j3)), some (.ref (b + k)), some (.int (attM S (nI j3) u)), none, none, none, none, none]) hC dL_stores_64 (pc' := 66) rfl (by decide) rfl ?_
        refine xi_aload_n hC dL_stores_66 (pc' := 67) rfl rfl rfl ?_
        refine xi_iload hC dL_stores_67 (pc' := 69) rfl rfl ?_
        refine xi_iconst (v := nI 1) hC dL_stores_69 (pc' := 70) rfl (by decide +kernel) ?_
        refine xi_callV (As := [.int (nI j3), .int (nI 1)]) (rest := []) (c_X7_view l D b (b + (k + 1)) (σ := τa) (S := S) (N := N) (u := u) (w := w) hS hRa (by omega) (x := (nI j3)) (y := (nI 1))) hC dL_stores_70 (pc' := 73) rfl xw_m_L_43 xw_c_X7_view xw_ins_X7_view xw_sel_X7_view xw_ini_X7 xd_X7_view (xH_at.trans (xsh_7 kd_0)) rfl ⟨Nat.le_of_ble_eq_true rfl, Nat.le_of_ble_eq_true rfl⟩ rfl (Nat.le_of_ble_eq_true rfl) ⟨Nat.le_of_ble_eq_true rfl, Nat.le_of_ble_eq_true rfl⟩ ?_
        rintro _ _ ⟨r7, rfl, hO8, rfl⟩
        obtain rfl : r7 = (nI kp) := hO8 _ _ (sw_1 hj3 (by omega) hkp)
        show xV _ _ _ _ _ _ _ _ _ _ _ _ _ _ _ _ _ (xH D b τa) _ _ [.int (nI kp)]
        refine xi_istore (lv' := [some (.ref (b + 0)), some (.int (nI u)), some (.int g), some (.int h), some (.int (nI w)), some (.int (nI j3)), some (.ref (b + k)), some (.int (attM S (nI j3) u)), some (.int (nI kp)), none, none, none, none]) hC dL_stores_73 (pc' := 75) rfl (by decide) rfl ?_
        refine xi_iload_n hC dL_stores_75 (pc' := 76) rfl rfl rfl ?_
        refine xi_iconst (v := nI 4) hC dL_stores_76 (pc' := 77) rfl (by decide +kernel) ?_
        refine xi_callS (As := [.int h, .int (nI 4)]) (rest := []) (c_L_low l D b (b + (k + 1)) (h := (xH D b τa)) (x := h) (k := 4) (by omega) (by omega)) hC dL_stores_77 (pc' := 80) rfl xw_m_L_46 xw_c_L_low xw_sta_L_low xw_ini_L xd_L_low ⟨Nat.le_of_ble_eq_true rfl, Nat.le_of_ble_eq_true rfl⟩ rfl (Nat.le_of_ble_eq_true rfl) ⟨Nat.le_of_ble_eq_true rfl, Nat.le_of_ble_eq_true rfl⟩ ?_
        rintro _ _ ⟨⟨j9, hj9, rfl⟩, rfl⟩
        show xV _ _ _ _ _ _ _ _ _ _ _ _ _ _ _ _ _ (xH D b τa) _ _ [.int (nI j9)]
        refine xi_istore (lv' := [some (.ref (b + 0)), some (.int (nI u)), some (.int g), some (.int h), some (.int (nI w)), some (.int (nI j3)), some (.ref (b + k)), some (.int (attM S (nI j3) u)), some (.int (nI kp)), some (.int (nI j9)), none, none, none]) hC dL_stores_80 (pc' := 82) rfl (by decide) rfl ?_
        refine xi_iload hC dL_stores_82 (pc' := 84) rfl rfl ?_
        refine xn_ifne (tgt := 290) hC dL_stores_84 (pc' := 87) rfl (by decide) (by omega) (fun zc84 => ?_) (fun zc84 => ?_)
        · skip
          refine xi_iload hC dL_stores_290 (pc' := 292) rfl rfl ?_
          refine xi_iconst (v := nI 1) hC dL_stores_292 (pc' := 293) rfl (by decide +kernel) ?_
          refine xn_icmpne (tgt := 371) hC dL_stores_293 (pc' := 296) rfl (by decide) (by omega) (by omega) (fun zc293 => ?_) (fun zc293 => ?_)
          · skip
            refine xi_iload hC dL_stores_371 (pc' := 373) rfl rfl ?_
            refine xi_iconst (v := nI 2) hC dL_stores_373 (pc' := 374) rfl (by decide +kernel) ?_
            refine xn_icmpne (tgt := 483) hC dL_stores_374 (pc' := 377) rfl (by decide) (by omega) (by omega) (fun zc374 => ?_) (fun zc374 => ?_)
            · skip
              refine xi_iload_n hC dL_stores_483 (pc' := 484) rfl rfl rfl ?_
              refine xi_iconst (v := nI 3) hC dL_stores_484 (pc' := 485) rfl (by decide +kernel) ?_
              refine xi_ishr hC dL_stores_485 (pc' := 486) rfl ?_
              refine xi_iload hC dL_stores_486 (pc' := 488) rfl rfl ?_
              refine xi_callS (As := [.int (h >>> ((nI 3) &&& 31)), .int (nI w)]) (rest := []) (c_L_low l D b (b + (k + 1)) (h := (xH D b τa)) (x := (h >>> ((nI 3) &&& 31))) (k := w) (by omega) (by omega)) hC dL_stores_488 (pc' := 491) rfl xw_m_L_46 xw_c_L_low xw_sta_L_low xw_ini_L xd_L_low ⟨Nat.le_of_ble_eq_true rfl, Nat.le_of_ble_eq_true rfl⟩ rfl (Nat.le_of_ble_eq_true rfl) ⟨Nat.le_of_ble_eq_true rfl, Nat.le_of_ble_eq_true rfl⟩ ?_
              rintro _ _ ⟨⟨j10, hj10, rfl⟩, rfl⟩
              show xV _ _ _ _ _ _ _ _ _ _ _ _ _ _ _ _ _ (xH D b τa) _ _ [.int (nI j10)]
              refine xi_istore (lv' := [some (.ref (b + 0)), some (.int (nI u)), some (.int g), some (.int h), some (.int (nI w)), some (.int (nI j3)), some (.ref (b + k)), some (.int (attM S (nI j3) u)), some (.int (nI kp)), some (.int (nI j9)), some (.int (nI j10)), none, none]) hC dL_stores_491 (pc' := 493) rfl (by decide) rfl ?_
              by_cases hvo : j3 = j10
              · skip
                refine xi_iload hC dL_stores_493 (pc' := 495) rfl rfl ?_
                refine xi_iload hC dL_stores_495 (pc' := 497) rfl rfl ?_
                refine xn_icmpne (tgt := 520) hC dL_stores_497 (pc' := 500) rfl (by decide) (by omega) (by omega) (fun zc497 => ?_) (fun zc497 => ?_)
                · exact absurd hvo (by omega)
                · skip
                  refine xi_aload_n hC dL_stores_500 (pc' := 501) rfl rfl rfl ?_
                  refine xi_iload hC dL_stores_501 (pc' := 503) rfl rfl ?_
                  refine xi_iload hC dL_stores_503 (pc' := 505) rfl rfl ?_
                  refine xi_callV (As := [.int (nI j3), .int (nI j10)]) (rest := []) (c_X7_mix l D b (b + (k + 1)) (σ := τa) (S := S) (N := N) (u := u) (w := w) hS hRa (by omega) (x := (nI j3)) (y := (nI j10))) hC dL_stores_505 (pc' := 508) rfl xw_m_L_78 xw_c_X7_mix xw_ins_X7_mix xw_sel_X7_mix xw_ini_X7 xd_X7_mix (xH_at.trans (xsh_7 kd_0)) rfl ⟨Nat.le_of_ble_eq_true rfl, Nat.le_of_ble_eq_true rfl⟩ rfl (Nat.le_of_ble_eq_true rfl) ⟨Nat.le_of_ble_eq_true rfl, Nat.le_of_ble_eq_true rfl⟩ ?_
                  rintro _ _ ⟨r11, σ12, rfl, hHσ12, hO14, rfl⟩
                  obtain ⟨rT13, T13, hZT13⟩ := ex_mix (S := S) (u := u) (w := w) (x := (nI j3)) (y := (nI j10)) hS.1
                  obtain ⟨eT13, hRσ12⟩ := hO14 rT13 T13 hZT13
                  obtain ⟨e2T13, e3T13⟩ := m_eq hZT13 hj3 hj10 hvo
                  have e4T13 := e3T13.symm
                  subst e4T13
                  obtain rfl : r11 = (-10002) := eT13.trans e2T13
                  have hlσ12_k : σ12 k 4096 = nI 36 := by rw [hHσ12 k (by omega)]; exact hla
                  show xV _ _ _ _ _ _ _ _ _ _ _ _ _ _ _ _ _ (xH D b σ12) _ _ [.int (-10002)]
                  refine xi_sipush (v := -10002) hC dL_stores_508 (pc' := 511) rfl (by decide +kernel) ?_
                  refine xi_icmpne (tgt := 518) hC dL_stores_511 (pc' := 514) rfl (by decide) (fun zc511 => ?_) (fun zc511 => ?_)
                  · exact absurd rfl zc511
                  · skip
                    refine xi_iconst (v := nI 1) hC dL_stores_514 (pc' := 515) rfl (by decide +kernel) ?_
                    refine xi_goto (tgt := 519) hC dL_stores_515 (by decide) ?_
                    refine xb_ireturn hC dL_stores_519 hr (by decide) rfl ?_
                    exact ⟨σ12, S, w, rfl, (hS).up (by omega), hRσ12, (hJ).up (by omega), rfl⟩
              · skip
                refine xi_iload hC dL_stores_493 (pc' := 495) rfl rfl ?_
                refine xi_iload hC dL_stores_495 (pc' := 497) rfl rfl ?_
                refine xn_icmpne (tgt := 520) hC dL_stores_497 (pc' := 500) rfl (by decide) (by omega) (by omega) (fun zc497 => ?_) (fun zc497 => ?_)
                · skip
                  refine xi_iconst (v := nI 0) hC dL_stores_520 (pc' := 521) rfl (by decide +kernel) ?_
                  refine xi_istore (lv' := [some (.ref (b + 0)), some (.int (nI u)), some (.int g), some (.int h), some (.int (nI w)), some (.int (nI j3)), some (.ref (b + k)), some (.int (attM S (nI j3) u)), some (.int (nI kp)), some (.int (nI j9)), some (.int (nI j10)), some (.int (nI 0)), none]) hC dL_stores_521 (pc' := 523) rfl (by decide) rfl ?_
                  refine xi_iconst (v := nI 0) hC dL_stores_523 (pc' := 524) rfl (by decide +kernel) ?_
                  refine xi_istore (lv' := [some (.ref (b + 0)), some (.int (nI u)), some (.int g), some (.int h), some (.int (nI w)), some (.int (nI j3)), some (.ref (b + k)), some (.int (attM S (nI j3) u)), some (.int (nI kp)), some (.int (nI j9)), some (.int (nI j10)), some (.int (nI 0)), some (.int (nI 0))]) hC dL_stores_524 (pc' := 526) rfl (by decide) rfl ?_
                  have L526 : ∀ (d : Nat) (i9 : Nat), u - i9 < d → (i9 ≤ u) → xV p l e (xR 4 90 1 36) s m args below meth c D b 13 1 36 (MQ below (xQ D b (b + (k + 1)) (fun y' h' => ∃ (τ T : XM) (w' : Nat), y' = some (.int (nI 1)) ∧ SI (N + 1) T u w' ∧ RR τ T u w' ∧ JJ (N + 1) T u ∧ h' = xH D b τ)) args s 1 36 (fun q => b ≤ q)) (b + (k + 1)) (xH D b τa) 526 [some (.ref (b + 0)), some (.int (nI u)), some (.int g), some (.int h), some (.int (nI w)), some (.int (nI j3)), some (.ref (b + k)), some (.int (attM S (nI j3) u)), some (.int (nI kp)), some (.int (nI j9)), some (.int (nI j10)), some (.int (nI (xcnt (mixC S j3 j10) i9))), some (.int (nI i9))] [] := by
                    intro d
                    induction d with
                    | zero => intro i9 h; exact absurd h (Nat.not_lt_zero _)
                    | succ d ih526 =>
                      intro i9 hd526 hi9
                      refine xi_iload hC dL_stores_526 (pc' := 528) rfl rfl ?_
                      refine xi_iload_n hC dL_stores_528 (pc' := 529) rfl rfl rfl ?_
                      refine xn_icmpge (tgt := 571) hC dL_stores_529 (pc' := 532) rfl (by decide) (by omega) (by omega) (fun zc529 => ?_) (fun zc529 => ?_)
                      · skip
                        refine xi_aload_n hC dL_stores_571 (pc' := 572) rfl rfl rfl ?_
                        refine xi_iload hC dL_stores_572 (pc' := 574) rfl rfl ?_
                        refine xi_iconst (v := nI 0) hC dL_stores_574 (pc' := 575) rfl (by decide +kernel) ?_
                        refine xi_callV (As := [.int (nI j10), .int (nI 0)]) (rest := []) (c_X7_view l D b (b + (k + 1)) (σ := τa) (S := S) (N := N) (u := u) (w := w) hS hRa (by omega) (x := (nI j10)) (y := (nI 0))) hC dL_stores_575 (pc' := 578) rfl xw_m_L_43 xw_c_X7_view xw_ins_X7_view xw_sel_X7_view xw_ini_X7 xd_X7_view (xH_at.trans (xsh_7 kd_0)) rfl ⟨Nat.le_of_ble_eq_true rfl, Nat.le_of_ble_eq_true rfl⟩ rfl (Nat.le_of_ble_eq_true rfl) ⟨Nat.le_of_ble_eq_true rfl, Nat.le_of_ble_eq_true rfl⟩ ?_
                        rintro _ _ ⟨r15, rfl, hO16, rfl⟩
                        obtain rfl : r15 = (attM S (nI j10) u) := hO16 _ _ (sw_0 (by omega) (by omega))
                        show xV _ _ _ _ _ _ _ _ _ _ _ _ _ _ _ _ _ (xH D b τa) _ _ [.int (attM S (nI j10) u)]
                        refine xi_istore (lv' := [some (.ref (b + 0)), some (.int (nI u)), some (.int g), some (.int h), some (.int (nI w)), some (.int (nI j3)), some (.ref (b + k)), some (.int (attM S (nI j3) u)), some (.int (nI kp)), some (.int (nI j9)), some (.int (nI j10)), some (.int (nI (xcnt (mixC S j3 j10) i9))), some (.int (attM S (nI j10) u))]) hC dL_stores_578 (pc' := 580) rfl (by decide) rfl ?_
                        refine xi_aload_n hC dL_stores_580 (pc' := 581) rfl rfl rfl ?_
                        refine xi_iload hC dL_stores_581 (pc' := 583) rfl rfl ?_
                        refine xi_iload hC dL_stores_583 (pc' := 585) rfl rfl ?_
                        refine xi_callV (As := [.int (nI j3), .int (nI j10)]) (rest := []) (c_X7_mix l D b (b + (k + 1)) (σ := τa) (S := S) (N := N) (u := u) (w := w) hS hRa (by omega) (x := (nI j3)) (y := (nI j10))) hC dL_stores_585 (pc' := 588) rfl xw_m_L_78 xw_c_X7_mix xw_ins_X7_mix xw_sel_X7_mix xw_ini_X7 xd_X7_mix (xH_at.trans (xsh_7 kd_0)) rfl ⟨Nat.le_of_ble_eq_true rfl, Nat.le_of_ble_eq_true rfl⟩ rfl (Nat.le_of_ble_eq_true rfl) ⟨Nat.le_of_ble_eq_true rfl, Nat.le_of_ble_eq_true rfl⟩ ?_
                        rintro _ _ ⟨r17, σ18, rfl, hHσ18, hO20, rfl⟩
                        obtain ⟨rT19, T19, hZT19⟩ := ex_mix (S := S) (u := u) (w := w) (x := (nI j3)) (y := (nI j10)) hS.1
                        obtain ⟨eT19, hRσ18⟩ := hO20 rT19 T19 hZT19
                        obtain ⟨e2T19, fm1, fm2, fm3, fm4⟩ := m_ok hZT19 hS.1 hj3 hj10 hvo
                        obtain rfl : r17 = nI (xcnt (mixC S j3 j10) i9) := eT19.trans (e2T19.trans (by rw [show i9 = u by omega]))
                        have hST19 := SI_mix hS hZT19
                        have hJT19 := JJ_mix hJ hZT19
                        have hlσ18_k : σ18 k 4096 = nI 36 := by rw [hHσ18 k (by omega)]; exact hla
                        show xV _ _ _ _ _ _ _ _ _ _ _ _ _ _ _ _ _ (xH D b σ18) _ _ [.int (nI (xcnt (mixC S j3 j10) i9))]
                        refine xi_iload hC dL_stores_588 (pc' := 590) rfl rfl ?_
                        refine xi_icmpne (tgt := 643) hC dL_stores_590 (pc' := 593) rfl (by decide) (fun zc590 => ?_) (fun zc590 => ?_)
                        · exact absurd rfl zc590
                        · skip
                          refine xi_aload_n hC dL_stores_593 (pc' := 594) rfl rfl rfl ?_
                          refine xi_iload hC dL_stores_594 (pc' := 596) rfl rfl ?_
                          refine xi_iconst (v := nI 0) hC dL_stores_596 (pc' := 597) rfl (by decide +kernel) ?_
                          refine xi_callV (As := [.int (nI j3), .int (nI 0)]) (rest := []) (c_X7_view l D b (b + (k + 1)) (σ := σ18) (S := T19) (N := N) (u := u) (w := w) hST19 hRσ18 (by omega) (x := (nI j3)) (y := (nI 0))) hC dL_stores_597 (pc' := 600) rfl xw_m_L_43 xw_c_X7_view xw_ins_X7_view xw_sel_X7_view xw_ini_X7 xd_X7_view (xH_at.trans (xsh_7 kd_0)) rfl ⟨Nat.le_of_ble_eq_true rfl, Nat.le_of_ble_eq_true rfl⟩ rfl (Nat.le_of_ble_eq_true rfl) ⟨Nat.le_of_ble_eq_true rfl, Nat.le_of_ble_eq_true rfl⟩ ?_
                          rintro _ _ ⟨r21, rfl, hO22, rfl⟩
                          obtain rfl : r21 = ((attM S (nI j3) u) ||| (attM S (nI j10) u)) := (hO22 _ _ (sw_0 (by omega) (by omega))).trans (fm1)
                          show xV _ _ _ _ _ _ _ _ _ _ _ _ _ _ _ _ _ (xH D b σ18) _ _ [.int ((attM S (nI j3) u) ||| (attM S (nI j10) u))]
                          refine xi_iload hC dL_stores_600 (pc' := 602) rfl rfl ?_
                          refine xi_iload hC dL_stores_602 (pc' := 604) rfl rfl ?_
                          refine xi_ior hC dL_stores_604 (pc' := 605) rfl ?_
                          refine xi_icmpne (tgt := 643) hC dL_stores_605 (pc' := 608) rfl (by decide) (fun zc605 => ?_) (fun zc605 => ?_)
                          · exact absurd rfl zc605
                          · skip
                            refine xi_aload_n hC dL_stores_608 (pc' := 609) rfl rfl rfl ?_
                            refine xi_iload hC dL_stores_609 (pc' := 611) rfl rfl ?_
                            refine xi_iconst (v := nI 0) hC dL_stores_611 (pc' := 612) rfl (by decide +kernel) ?_
                            refine xi_callV (As := [.int (nI j10), .int (nI 0)]) (rest := []) (c_X7_view l D b (b + (k + 1)) (σ := σ18) (S := T19) (N := N) (u := u) (w := w) hST19 hRσ18 (by omega) (x := (nI j10)) (y := (nI 0))) hC dL_stores_612 (pc' := 615) rfl xw_m_L_43 xw_c_X7_view xw_ins_X7_view xw_sel_X7_view xw_ini_X7 xd_X7_view (xH_at.trans (xsh_7 kd_0)) rfl ⟨Nat.le_of_ble_eq_true rfl, Nat.le_of_ble_eq_true rfl⟩ rfl (Nat.le_of_ble_eq_true rfl) ⟨Nat.le_of_ble_eq_true rfl, Nat.le_of_ble_eq_true rfl⟩ ?_
                            rintro _ _ ⟨r23, rfl, hO24, rfl⟩
                            obtain rfl : r23 = (nI 0) := (hO24 _ _ (sw_0 (by omega) (by omega))).trans (fm2)
                            show xV _ _ _ _ _ _ _ _ _ _ _ _ _ _ _ _ _ (xH D b σ18) _ _ [.int (nI 0)]
                            refine xn_ifne (tgt := 643) hC dL_stores_615 (pc' := 618) rfl (by decide) (by omega) (fun zc615 => ?_) (fun zc615 => ?_)
                            · exact absurd zc615 (by decide)
                            · skip
                              refine xi_aload_n hC dL_stores_618 (pc' := 619) rfl rfl rfl ?_
                              refine xi_iload hC dL_stores_619 (pc' := 621) rfl rfl ?_
                              refine xi_iconst (v := nI 1) hC dL_stores_621 (pc' := 622) rfl (by decide +kernel) ?_
                              refine xi_callV (As := [.int (nI j3), .int (nI 1)]) (rest := []) (c_X7_view l D b (b + (k + 1)) (σ := σ18) (S := T19) (N := N) (u := u) (w := w) hST19 hRσ18 (by omega) (x := (nI j3)) (y := (nI 1))) hC dL_stores_622 (pc' := 625) rfl xw_m_L_43 xw_c_X7_view xw_ins_X7_view xw_sel_X7_view xw_ini_X7 xd_X7_view (xH_at.trans (xsh_7 kd_0)) rfl ⟨Nat.le_of_ble_eq_true rfl, Nat.le_of_ble_eq_true rfl⟩ rfl (Nat.le_of_ble_eq_true rfl) ⟨Nat.le_of_ble_eq_true rfl, Nat.le_of_ble_eq_true rfl⟩ ?_
                              rintro _ _ ⟨r25, rfl, hO26, rfl⟩
                              obtain rfl : r25 = (nI 0) := hO26 _ _ (sw_1 (by omega) (by omega) fm3)
                              show xV _ _ _ _ _ _ _ _ _ _ _ _ _ _ _ _ _ (xH D b σ18) _ _ [.int (nI 0)]
                              refine xn_ifne (tgt := 643) hC dL_stores_625 (pc' := 628) rfl (by decide) (by omega) (fun zc625 => ?_) (fun zc625 => ?_)
                              · exact absurd zc625 (by decide)
                              · skip
                                refine xi_aload_n hC dL_stores_628 (pc' := 629) rfl rfl rfl ?_
                                refine xi_iload hC dL_stores_629 (pc' := 631) rfl rfl ?_
                                refine xi_iload hC dL_stores_631 (pc' := 633) rfl rfl ?_
                                refine xi_callV (As := [.int (nI j3), .int (nI j10)]) (rest := []) (c_X7_mix l D b (b + (k + 1)) (σ := σ18) (S := T19) (N := N) (u := u) (w := w) hST19 hRσ18 (by omega) (x := (nI j3)) (y := (nI j10))) hC dL_stores_633 (pc' := 636) rfl xw_m_L_78 xw_c_X7_mix xw_ins_X7_mix xw_sel_X7_mix xw_ini_X7 xd_X7_mix (xH_at.trans (xsh_7 kd_0)) rfl ⟨Nat.le_of_ble_eq_true rfl, Nat.le_of_ble_eq_true rfl⟩ rfl (Nat.le_of_ble_eq_true rfl) ⟨Nat.le_of_ble_eq_true rfl, Nat.le_of_ble_eq_true rfl⟩ ?_
                                rintro _ _ ⟨r27, σ28, rfl, hHσ28, hO30, rfl⟩
                                obtain ⟨rT29, T29, hZT29⟩ := ex_mix (S := T19) (u := u) (w := w) (x := (nI j3)) (y := (nI j10)) hST19.1
                                obtain ⟨eT29, hRσ28⟩ := hO30 rT29 T29 hZT29
                                obtain ⟨e2T29, -⟩ := m_ok hZT29 hST19.1 hj3 hj10 hvo
                                obtain rfl : r27 = nI 0 := eT29.trans (e2T29.trans (by rw [fm4]))
                                have hST29 := SI_mix hST19 hZT29
                                have hJT29 := JJ_mix hJT19 hZT29
                                have hlσ28_k : σ28 k 4096 = nI 36 := by rw [hHσ28 k (by omega)]; exact hlσ18_k
                                show xV _ _ _ _ _ _ _ _ _ _ _ _ _ _ _ _ _ (xH D b σ28) _ _ [.int (nI 0)]
                                refine xn_ifne (tgt := 643) hC dL_stores_636 (pc' := 639) rfl (by decide) (by omega) (fun zc636 => ?_) (fun zc636 => ?_)
                                · exact absurd zc636 (by decide)
                                · skip
                                  refine xi_iconst (v := nI 1) hC dL_stores_639 (pc' := 640) rfl (by decide +kernel) ?_
                                  refine xi_goto (tgt := 644) hC dL_stores_640 (by decide) ?_
                                  refine xb_ireturn hC dL_stores_644 hr (by decide) rfl ?_
                                  exact ⟨σ28, T29, w, rfl, (hST29).up (by omega), hRσ28, (hJT29).up (by omega), rfl⟩
                      · skip
                        refine xi_iload hC dL_stores_532 (pc' := 534) rfl rfl ?_
                        refine xi_aload_n hC dL_stores_534 (pc' := 535) rfl rfl rfl ?_
                        refine xi_iload hC dL_stores_535 (pc' := 537) rfl rfl ?_
                        refine xi_iload hC dL_stores_537 (pc' := 539) rfl rfl ?_
                        refine xi_iload hC dL_stores_539 (pc' := 541) rfl rfl ?_
                        refine xi_callV (As := [.int (nI j10), .int (nI i9), .int (nI i9)]) (rest := [.int (nI (xcnt (mixC S j3 j10) i9))]) (c_X7_entry l D b (b + (k + 1)) (σ := τa) (S := S) (N := N) (u := u) (w := w) hS hRa (by omega) (x := (nI j10)) (y := (nI i9)) (z := (nI i9))) hC dL_stores_541 (pc' := 544) rfl xw_m_L_15 xw_c_X7_entry xw_ins_X7_entry xw_sel_X7_entry xw_ini_X7 xd_X7_entry (xH_at.trans (xsh_7 kd_0)) rfl ⟨Nat.le_of_ble_eq_true rfl, Nat.le_of_ble_eq_true rfl⟩ rfl (Nat.le_of_ble_eq_true rfl) ⟨Nat.le_of_ble_eq_true rfl, Nat.le_of_ble_eq_true rfl⟩ ?_
                        rintro _ _ ⟨r31, rfl, hO32, rfl⟩
                        obtain rfl : r31 = (rV S j10 i9 i9) := hO32 _ (se_1 hj10 (by omega) (by omega) (by omega) (by omega))
                        show xV _ _ _ _ _ _ _ _ _ _ _ _ _ _ _ _ _ (xH D b τa) _ _ [.int (rV S j10 i9 i9), .int (nI (xcnt (mixC S j3 j10) i9))]
                        refine xi_aload_n hC dL_stores_544 (pc' := 545) rfl rfl rfl ?_
                        refine xi_iload hC dL_stores_545 (pc' := 547) rfl rfl ?_
                        refine xi_iload hC dL_stores_547 (pc' := 549) rfl rfl ?_
                        refine xi_iload hC dL_stores_549 (pc' := 551) rfl rfl ?_
                        refine xi_callV (As := [.int (nI j3), .int (nI i9), .int (nI i9)]) (rest := [.int (rV S j10 i9 i9), .int (nI (xcnt (mixC S j3 j10) i9))]) (c_X7_entry l D b (b + (k + 1)) (σ := τa) (S := S) (N := N) (u := u) (w := w) hS hRa (by omega) (x := (nI j3)) (y := (nI i9)) (z := (nI i9))) hC dL_stores_551 (pc' := 554) rfl xw_m_L_15 xw_c_X7_entry xw_ins_X7_entry xw_sel_X7_entry xw_ini_X7 xd_X7_entry (xH_at.trans (xsh_7 kd_0)) rfl ⟨Nat.le_of_ble_eq_true rfl, Nat.le_of_ble_eq_true rfl⟩ rfl (Nat.le_of_ble_eq_true rfl) ⟨Nat.le_of_ble_eq_true rfl, Nat.le_of_ble_eq_true rfl⟩ ?_
                        rintro _ _ ⟨r33, rfl, hO34, rfl⟩
                        obtain rfl : r33 = (rV S j3 i9 i9) := hO34 _ (se_1 hj3 (by omega) (by omega) (by omega) (by omega))
                        show xV _ _ _ _ _ _ _ _ _ _ _ _ _ _ _ _ _ (xH D b τa) _ _ [.int (rV S j3 i9 i9), .int (rV S j10 i9 i9), .int (nI (xcnt (mixC S j3 j10) i9))]
                        refine xi_icmple (tgt := 561) hC dL_stores_554 (pc' := 557) rfl (by decide) (fun zc554 => ?_) (fun zc554 => ?_)
                        · skip
                          refine xi_iconst (v := nI 0) hC dL_stores_561 (pc' := 562) rfl (by decide +kernel) ?_
                          refine xn_iadd hC dL_stores_562 (pc' := 563) rfl ?_
                          refine xtop (y := nI (xcnt (mixC S j3 j10) i9)) (by rw [Nat.add_zero]) ?_
                          refine xtop (y := nI (xcnt (mixC S j3 j10) (i9 + 1))) (by rw [xcnt_f (i_not_lt.mpr zc554)]) ?_
                          refine xi_istore (lv' := [some (.ref (b + 0)), some (.int (nI u)), some (.int g), some (.int h), some (.int (nI w)), some (.int (nI j3)), some (.ref (b + k)), some (.int (attM S (nI j3) u)), some (.int (nI kp)), some (.int (nI j9)), some (.int (nI j10)), some (.int (nI (xcnt (mixC S j3 j10) (i9 + 1)))), some (.int (nI i9))]) hC dL_stores_563 (pc' := 565) rfl (by decide) rfl ?_
                          refine xn_iinc (lv' := [some (.ref (b + 0)), some (.int (nI u)), some (.int g), some (.int h), some (.int (nI w)), some (.int (nI j3)), some (.ref (b + k)), some (.int (attM S (nI j3) u)), some (.int (nI kp)), some (.int (nI j9)), some (.int (nI j10)), some (.int (nI (xcnt (mixC S j3 j10) (i9 + 1)))), some (.int (nI (i9 + 1)))]) hC dL_stores_565 (pc' := 568) rfl rfl (by decide) rfl ?_
                          refine xi_goto (tgt := 526) hC dL_stores_568 (by decide) ?_
                          refine ih526 (i9 + 1) (by omega) ?_
                          · omega
                        · skip
                          refine xi_iconst (v := nI 1) hC dL_stores_557 (pc' := 558) rfl (by decide +kernel) ?_
                          refine xi_goto (tgt := 562) hC dL_stores_558 (by decide) ?_
                          refine xn_iadd hC dL_stores_562 (pc' := 563) rfl ?_
                          refine xtop (y := nI (xcnt (mixC S j3 j10) (i9 + 1))) (by rw [xcnt_t (i_not_le.mp zc554)]) ?_
                          refine xi_istore (lv' := [some (.ref (b + 0)), some (.int (nI u)), some (.int g), some (.int h), some (.int (nI w)), some (.int (nI j3)), some (.ref (b + k)), some (.int (attM S (nI j3) u)), some (.int (nI kp)), some (.int (nI j9)), some (.int (nI j10)), some (.int (nI (xcnt (mixC S j3 j10) (i9 + 1)))), some (.int (nI i9))]) hC dL_stores_563 (pc' := 565) rfl (by decide) rfl ?_
                          refine xn_iinc (lv' := [some (.ref (b + 0)), some (.int (nI u)), some (.int g), some (.int h), some (.int (nI w)), some (.int (nI j3)), some (.ref (b + k)), some (.int (attM S (nI j3) u)), some (.int (nI kp)), some (.int (nI j9)), some (.int (nI j10)), some (.int (nI (xcnt (mixC S j3 j10) (i9 + 1)))), some (.int (nI (i9 + 1)))]) hC dL_stores_565 (pc' := 568) rfl rfl (by decide) rfl ?_
                          refine xi_goto (tgt := 526) hC dL_stores_568 (by decide) ?_
                          refine ih526 (i9 + 1) (by omega) ?_
                          · omega
                  refine L526 _ 0 (Nat.lt_succ_self _) ?_
                  · omega
                · exact absurd (by omega) hvo
            · skip
              refine xi_iconst (v := nI 1) hC dL_stores_377 (pc' := 378) rfl (by decide +kernel) ?_
              refine xi_iload_n hC dL_stores_378 (pc' := 379) rfl rfl rfl ?_
              refine xi_iconst (v := nI 3) hC dL_stores_379 (pc' := 380) rfl (by decide +kernel) ?_
              refine xi_ishr hC dL_stores_380 (pc' := 381) rfl ?_
              refine xi_iconst (v := nI 5) hC dL_stores_381 (pc' := 382) rfl (by decide +kernel) ?_
              refine xi_callS (As := [.int (h >>> ((nI 3) &&& 31)), .int (nI 5)]) (rest := [.int (nI 1)]) (c_L_low l D b (b + (k + 1)) (h := (xH D b τa)) (x := (h >>> ((nI 3) &&& 31))) (k := 5) (by omega) (by omega)) hC dL_stores_382 (pc' := 385) rfl xw_m_L_46 xw_c_L_low xw_sta_L_low xw_ini_L xd_L_low ⟨Nat.le_of_ble_eq_true rfl, Nat.le_of_ble_eq_true rfl⟩ rfl (Nat.le_of_ble_eq_true rfl) ⟨Nat.le_of_ble_eq_true rfl, Nat.le_of_ble_eq_true rfl⟩ ?_
              rintro _ _ ⟨⟨j35, hj35, rfl⟩, rfl⟩
              show xV _ _ _ _ _ _ _ _ _ _ _ _ _ _ _ _ _ (xH D b τa) _ _ [.int (nI j35), .int (nI 1)]
              refine xn_iadd hC dL_stores_385 (pc' := 386) rfl ?_
              refine xi_istore (lv' := [some (.ref (b + 0)), some (.int (nI u)), some (.int g), some (.int h), some (.int (nI w)), some (.int (nI j3)), some (.ref (b + k)), some (.int (attM S (nI j3) u)), some (.int (nI kp)), some (.int (nI j9)), some (.int (nI (1 + j35))), none, none]) hC dL_stores_386 (pc' := 388) rfl (by decide) rfl ?_
              rcases Nat.lt_or_ge kp (1 + j35) with hkz | hkz
              · skip
                refine xi_aload_n hC dL_stores_388 (pc' := 389) rfl rfl rfl ?_
                refine xi_iload hC dL_stores_389 (pc' := 391) rfl rfl ?_
                refine xi_iload hC dL_stores_391 (pc' := 393) rfl rfl ?_
                refine xi_callV (As := [.int (nI j3), .int (nI (1 + j35))]) (rest := []) (c_X7_rollBack l D b (b + (k + 1)) (σ := τa) (S := S) (N := N) (u := u) (w := w) hS hRa (by omega) (x := (nI j3)) (y := (nI (1 + j35)))) hC dL_stores_393 (pc' := 396) rfl xw_m_L_75 xw_c_X7_rollBack xw_ins_X7_rollBack xw_sel_X7_rollBack xw_ini_X7 xd_X7_rollBack (xH_at.trans (xsh_7 kd_0)) rfl ⟨Nat.le_of_ble_eq_true rfl, Nat.le_of_ble_eq_true rfl⟩ rfl (Nat.le_of_ble_eq_true rfl) ⟨Nat.le_of_ble_eq_true rfl, Nat.le_of_ble_eq_true rfl⟩ ?_
                rintro _ _ ⟨r36, σ37, rfl, hHσ37, hO39, rfl⟩
                obtain ⟨rT38, T38, hZT38⟩ := ex_roll (S := S) (u := u) (w := w) (x := (nI j3)) (y := (nI (1 + j35))) hS.1
                obtain ⟨eT38, hRσ37⟩ := hO39 rT38 T38 hZT38
                obtain ⟨e2T38, e3T38⟩ := b_none hZT38 hj3 (by omega) (by omega) hkp5 hkp hkz
                have e4T38 := e3T38.symm
                subst e4T38
                obtain rfl : r36 = (-10005) := eT38.trans e2T38
                have fk0 := hkp
                have hlσ37_k : σ37 k 4096 = nI 36 := by rw [hHσ37 k (by omega)]; exact hla
                show xV _ _ _ _ _ _ _ _ _ _ _ _ _ _ _ _ _ (xH D b σ37) _ _ [.int (-10005)]
                refine xi_istore (lv' := [some (.ref (b + 0)), some (.int (nI u)), some (.int g), some (.int h), some (.int (nI w)), some (.int (nI j3)), some (.ref (b + k)), some (.int (attM S (nI j3) u)), some (.int (nI kp)), some (.int (nI j9)), some (.int (nI (1 + j35))), some (.int (-10005)), none]) hC dL_stores_396 (pc' := 398) rfl (by decide) rfl ?_
                refine xi_iload hC dL_stores_398 (pc' := 400) rfl rfl ?_
                refine xi_iload hC dL_stores_400 (pc' := 402) rfl rfl ?_
                refine xn_icmpge (tgt := 428) hC dL_stores_402 (pc' := 405) rfl (by decide) (by omega) (by omega) (fun zc402 => ?_) (fun zc402 => ?_)
                · exact absurd hkz (by omega)
                · skip
                  refine xi_iload hC dL_stores_405 (pc' := 407) rfl rfl ?_
                  refine xi_sipush (v := -10005) hC dL_stores_407 (pc' := 410) rfl (by decide +kernel) ?_
                  refine xi_icmpne (tgt := 481) hC dL_stores_410 (pc' := 413) rfl (by decide) (fun zc410 => ?_) (fun zc410 => ?_)
                  · exact absurd rfl zc410
                  · skip
                    refine xi_aload_n hC dL_stores_413 (pc' := 414) rfl rfl rfl ?_
                    refine xi_iload hC dL_stores_414 (pc' := 416) rfl rfl ?_
                    refine xi_iconst (v := nI 1) hC dL_stores_416 (pc' := 417) rfl (by decide +kernel) ?_
                    refine xi_callV (As := [.int (nI j3), .int (nI 1)]) (rest := []) (c_X7_view l D b (b + (k + 1)) (σ := σ37) (S := S) (N := N) (u := u) (w := w) hS hRσ37 (by omega) (x := (nI j3)) (y := (nI 1))) hC dL_stores_417 (pc' := 420) rfl xw_m_L_43 xw_c_X7_view xw_ins_X7_view xw_sel_X7_view xw_ini_X7 xd_X7_view (xH_at.trans (xsh_7 kd_0)) rfl ⟨Nat.le_of_ble_eq_true rfl, Nat.le_of_ble_eq_true rfl⟩ rfl (Nat.le_of_ble_eq_true rfl) ⟨Nat.le_of_ble_eq_true rfl, Nat.le_of_ble_eq_true rfl⟩ ?_
                    rintro _ _ ⟨r40, rfl, hO41, rfl⟩
                    obtain rfl : r40 = (nI kp) := hO41 _ _ (sw_1 hj3 (by omega) fk0)
                    show xV _ _ _ _ _ _ _ _ _ _ _ _ _ _ _ _ _ (xH D b σ37) _ _ [.int (nI kp)]
                    refine xi_iload hC dL_stores_420 (pc' := 422) rfl rfl ?_
                    refine xi_icmpne (tgt := 481) hC dL_stores_422 (pc' := 425) rfl (by decide) (fun zc422 => ?_) (fun zc422 => ?_)
                    · exact absurd rfl zc422
                    · skip
                      refine xi_goto (tgt := 450) hC dL_stores_425 (by decide) ?_
                      refine xi_aload_n hC dL_stores_450 (pc' := 451) rfl rfl rfl ?_
                      refine xi_iload hC dL_stores_451 (pc' := 453) rfl rfl ?_
                      refine xi_bipush (v := nI 6) hC dL_stores_453 (pc' := 455) rfl (by decide +kernel) ?_
                      refine xi_callV (As := [.int (nI j3), .int (nI 6)]) (rest := []) (c_X7_rollBack l D b (b + (k + 1)) (σ := σ37) (S := S) (N := N) (u := u) (w := w) hS hRσ37 (by omega) (x := (nI j3)) (y := (nI 6))) hC dL_stores_455 (pc' := 458) rfl xw_m_L_75 xw_c_X7_rollBack xw_ins_X7_rollBack xw_sel_X7_rollBack xw_ini_X7 xd_X7_rollBack (xH_at.trans (xsh_7 kd_0)) rfl ⟨Nat.le_of_ble_eq_true rfl, Nat.le_of_ble_eq_true rfl⟩ rfl (Nat.le_of_ble_eq_true rfl) ⟨Nat.le_of_ble_eq_true rfl, Nat.le_of_ble_eq_true rfl⟩ ?_
                      rintro _ _ ⟨r42, σ43, rfl, hHσ43, hO45, rfl⟩
                      obtain ⟨rT44, T44, hZT44⟩ := ex_roll (S := S) (u := u) (w := w) (x := (nI j3)) (y := (nI 6)) hS.1
                      obtain ⟨eT44, hRσ43⟩ := hO45 rT44 T44 hZT44
                      obtain ⟨e2T44, e3T44⟩ := b_bad hZT44 hj3
                      have e4T44 := e3T44.symm
                      subst e4T44
                      obtain rfl : r42 = (-10002) := eT44.trans e2T44
                      have hlσ43_k : σ43 k 4096 = nI 36 := by rw [hHσ43 k (by omega)]; exact hlσ37_k
                      show xV _ _ _ _ _ _ _ _ _ _ _ _ _ _ _ _ _ (xH D b σ43) _ _ [.int (-10002)]
                      refine xi_sipush (v := -10002) hC dL_stores_458 (pc' := 461) rfl (by decide +kernel) ?_
                      refine xi_icmpne (tgt := 481) hC dL_stores_461 (pc' := 464) rfl (by decide) (fun zc461 => ?_) (fun zc461 => ?_)
                      · exact absurd rfl zc461
                      · skip
                        refine xi_aload_n hC dL_stores_464 (pc' := 465) rfl rfl rfl ?_
                        refine xi_iload hC dL_stores_465 (pc' := 467) rfl rfl ?_
                        refine xi_iconst (v := nI 1) hC dL_stores_467 (pc' := 468) rfl (by decide +kernel) ?_
                        refine xi_callV (As := [.int (nI w), .int (nI 1)]) (rest := []) (c_X7_rollBack l D b (b + (k + 1)) (σ := σ43) (S := S) (N := N) (u := u) (w := w) hS hRσ43 (by omega) (x := (nI w)) (y := (nI 1))) hC dL_stores_468 (pc' := 471) rfl xw_m_L_75 xw_c_X7_rollBack xw_ins_X7_rollBack xw_sel_X7_rollBack xw_ini_X7 xd_X7_rollBack (xH_at.trans (xsh_7 kd_0)) rfl ⟨Nat.le_of_ble_eq_true rfl, Nat.le_of_ble_eq_true rfl⟩ rfl (Nat.le_of_ble_eq_true rfl) ⟨Nat.le_of_ble_eq_true rfl, Nat.le_of_ble_eq_true rfl⟩ ?_
                        rintro _ _ ⟨r46, σ47, rfl, hHσ47, hO49, rfl⟩
                        obtain ⟨rT48, T48, hZT48⟩ := ex_roll (S := S) (u := u) (w := w) (x := (nI w)) (y := (nI 1)) hS.1
                        obtain ⟨eT48, hRσ47⟩ := hO49 rT48 T48 hZT48
                        obtain ⟨e2T48, e3T48⟩ := hZT48.1 (no_U (by omega))
                        have e4T48 := e3T48.symm
                        subst e4T48
                        obtain rfl : r46 = (-10001) := eT48.trans e2T48
                        have hlσ47_k : σ47 k 4096 = nI 36 := by rw [hHσ47 k (by omega)]; exact hlσ43_k
                        show xV _ _ _ _ _ _ _ _ _ _ _ _ _ _ _ _ _ (xH D b σ47) _ _ [.int (-10001)]
                        refine xi_sipush (v := -10001) hC dL_stores_471 (pc' := 474) rfl (by decide +kernel) ?_
                        refine xi_icmpne (tgt := 481) hC dL_stores_474 (pc' := 477) rfl (by decide) (fun zc474 => ?_) (fun zc474 => ?_)
                        · exact absurd rfl zc474
                        · skip
                          refine xi_iconst (v := nI 1) hC dL_stores_477 (pc' := 478) rfl (by decide +kernel) ?_
                          refine xi_goto (tgt := 482) hC dL_stores_478 (by decide) ?_
                          refine xb_ireturn hC dL_stores_482 hr (by decide) rfl ?_
                          exact ⟨σ47, S, w, rfl, (hS).up (by omega), hRσ47, (hJ).up (by omega), rfl⟩
              · skip
                refine xi_aload_n hC dL_stores_388 (pc' := 389) rfl rfl rfl ?_
                refine xi_iload hC dL_stores_389 (pc' := 391) rfl rfl ?_
                refine xi_iload hC dL_stores_391 (pc' := 393) rfl rfl ?_
                refine xi_callV (As := [.int (nI j3), .int (nI (1 + j35))]) (rest := []) (c_X7_rollBack l D b (b + (k + 1)) (σ := τa) (S := S) (N := N) (u := u) (w := w) hS hRa (by omega) (x := (nI j3)) (y := (nI (1 + j35)))) hC dL_stores_393 (pc' := 396) rfl xw_m_L_75 xw_c_X7_rollBack xw_ins_X7_rollBack xw_sel_X7_rollBack xw_ini_X7 xd_X7_rollBack (xH_at.trans (xsh_7 kd_0)) rfl ⟨Nat.le_of_ble_eq_true rfl, Nat.le_of_ble_eq_true rfl⟩ rfl (Nat.le_of_ble_eq_true rfl) ⟨Nat.le_of_ble_eq_true rfl, Nat.le_of_ble_eq_true rfl⟩ ?_
                rintro _ _ ⟨r50, σ51, rfl, hHσ51, hO53, rfl⟩
                obtain ⟨rT52, T52, hZT52⟩ := ex_roll (S := S) (u := u) (w := w) (x := (nI j3)) (y := (nI (1 + j35))) hS.1
                obtain ⟨eT52, hRσ51⟩ := hO53 rT52 T52 hZT52
                obtain ⟨e2T52, fk0⟩ := b_ok hZT52 hj3 (by omega) (by omega) hkp5 hkp hkz
                obtain rfl : r50 = nI (kp - (1 + j35)) := eT52.trans e2T52
                have hST52 := SI_roll hS hZT52
                have hJT52 := JJ_roll hS.1 hJ hZT52
                have hlσ51_k : σ51 k 4096 = nI 36 := by rw [hHσ51 k (by omega)]; exact hla
                show xV _ _ _ _ _ _ _ _ _ _ _ _ _ _ _ _ _ (xH D b σ51) _ _ [.int (nI (kp - (1 + j35)))]
                refine xi_istore (lv' := [some (.ref (b + 0)), some (.int (nI u)), some (.int g), some (.int h), some (.int (nI w)), some (.int (nI j3)), some (.ref (b + k)), some (.int (attM S (nI j3) u)), some (.int (nI kp)), some (.int (nI j9)), some (.int (nI (1 + j35))), some (.int (nI (kp - (1 + j35)))), none]) hC dL_stores_396 (pc' := 398) rfl (by decide) rfl ?_
                refine xi_iload hC dL_stores_398 (pc' := 400) rfl rfl ?_
                refine xi_iload hC dL_stores_400 (pc' := 402) rfl rfl ?_
                refine xn_icmpge (tgt := 428) hC dL_stores_402 (pc' := 405) rfl (by decide) (by omega) (by omega) (fun zc402 => ?_) (fun zc402 => ?_)
                · skip
                  refine xi_iload hC dL_stores_428 (pc' := 430) rfl rfl ?_
                  refine xi_iload hC dL_stores_430 (pc' := 432) rfl rfl ?_
                  refine xi_iload hC dL_stores_432 (pc' := 434) rfl rfl ?_
                  refine xn_isub hC dL_stores_434 (pc' := 435) rfl (by omega) ?_
                  refine xi_icmpne (tgt := 481) hC dL_stores_435 (pc' := 438) rfl (by decide) (fun zc435 => ?_) (fun zc435 => ?_)
                  · exact absurd rfl zc435
                  · skip
                    refine xi_aload_n hC dL_stores_438 (pc' := 439) rfl rfl rfl ?_
                    refine xi_iload hC dL_stores_439 (pc' := 441) rfl rfl ?_
                    refine xi_iconst (v := nI 1) hC dL_stores_441 (pc' := 442) rfl (by decide +kernel) ?_
                    refine xi_callV (As := [.int (nI j3), .int (nI 1)]) (rest := []) (c_X7_view l D b (b + (k + 1)) (σ := σ51) (S := T52) (N := N) (u := u) (w := w) hST52 hRσ51 (by omega) (x := (nI j3)) (y := (nI 1))) hC dL_stores_442 (pc' := 445) rfl xw_m_L_43 xw_c_X7_view xw_ins_X7_view xw_sel_X7_view xw_ini_X7 xd_X7_view (xH_at.trans (xsh_7 kd_0)) rfl ⟨Nat.le_of_ble_eq_true rfl, Nat.le_of_ble_eq_true rfl⟩ rfl (Nat.le_of_ble_eq_true rfl) ⟨Nat.le_of_ble_eq_true rfl, Nat.le_of_ble_eq_true rfl⟩ ?_
                    rintro _ _ ⟨r54, rfl, hO55, rfl⟩
                    obtain rfl : r54 = (nI (kp - (1 + j35))) := hO55 _ _ (sw_1 hj3 (by omega) fk0)
                    show xV _ _ _ _ _ _ _ _ _ _ _ _ _ _ _ _ _ (xH D b σ51) _ _ [.int (nI (kp - (1 + j35)))]
                    refine xi_iload hC dL_stores_445 (pc' := 447) rfl rfl ?_
                    refine xi_icmpne (tgt := 481) hC dL_stores_447 (pc' := 450) rfl (by decide) (fun zc447 => ?_) (fun zc447 => ?_)
                    · exact absurd rfl zc447
                    · skip
                      refine xi_aload_n hC dL_stores_450 (pc' := 451) rfl rfl rfl ?_
                      refine xi_iload hC dL_stores_451 (pc' := 453) rfl rfl ?_
                      refine xi_bipush (v := nI 6) hC dL_stores_453 (pc' := 455) rfl (by decide +kernel) ?_
                      refine xi_callV (As := [.int (nI j3), .int (nI 6)]) (rest := []) (c_X7_rollBack l D b (b + (k + 1)) (σ := σ51) (S := T52) (N := N) (u := u) (w := w) hST52 hRσ51 (by omega) (x := (nI j3)) (y := (nI 6))) hC dL_stores_455 (pc' := 458) rfl xw_m_L_75 xw_c_X7_rollBack xw_ins_X7_rollBack xw_sel_X7_rollBack xw_ini_X7 xd_X7_rollBack (xH_at.trans (xsh_7 kd_0)) rfl ⟨Nat.le_of_ble_eq_true rfl, Nat.le_of_ble_eq_true rfl⟩ rfl (Nat.le_of_ble_eq_true rfl) ⟨Nat.le_of_ble_eq_true rfl, Nat.le_of_ble_eq_true rfl⟩ ?_
                      rintro _ _ ⟨r56, σ57, rfl, hHσ57, hO59, rfl⟩
                      obtain ⟨rT58, T58, hZT58⟩ := ex_roll (S := T52) (u := u) (w := w) (x := (nI j3)) (y := (nI 6)) hST52.1
                      obtain ⟨eT58, hRσ57⟩ := hO59 rT58 T58 hZT58
                      obtain ⟨e2T58, e3T58⟩ := b_bad hZT58 hj3
                      have e4T58 := e3T58.symm
                      subst e4T58
                      obtain rfl : r56 = (-10002) := eT58.trans e2T58
                      have hlσ57_k : σ57 k 4096 = nI 36 := by rw [hHσ57 k (by omega)]; exact hlσ51_k
                      show xV _ _ _ _ _ _ _ _ _ _ _ _ _ _ _ _ _ (xH D b σ57) _ _ [.int (-10002)]
                      refine xi_sipush (v := -10002) hC dL_stores_458 (pc' := 461) rfl (by decide +kernel) ?_
                      refine xi_icmpne (tgt := 481) hC dL_stores_461 (pc' := 464) rfl (by decide) (fun zc461 => ?_) (fun zc461 => ?_)
                      · exact absurd rfl zc461
                      · skip
                        refine xi_aload_n hC dL_stores_464 (pc' := 465) rfl rfl rfl ?_
                        refine xi_iload hC dL_stores_465 (pc' := 467) rfl rfl ?_
                        refine xi_iconst (v := nI 1) hC dL_stores_467 (pc' := 468) rfl (by decide +kernel) ?_
                        refine xi_callV (As := [.int (nI w), .int (nI 1)]) (rest := []) (c_X7_rollBack l D b (b + (k + 1)) (σ := σ57) (S := T52) (N := N) (u := u) (w := w) hST52 hRσ57 (by omega) (x := (nI w)) (y := (nI 1))) hC dL_stores_468 (pc' := 471) rfl xw_m_L_75 xw_c_X7_rollBack xw_ins_X7_rollBack xw_sel_X7_rollBack xw_ini_X7 xd_X7_rollBack (xH_at.trans (xsh_7 kd_0)) rfl ⟨Nat.le_of_ble_eq_true rfl, Nat.le_of_ble_eq_true rfl⟩ rfl (Nat.le_of_ble_eq_true rfl) ⟨Nat.le_of_ble_eq_true rfl, Nat.le_of_ble_eq_true rfl⟩ ?_
                        rintro _ _ ⟨r60, σ61, rfl, hHσ61, hO63, rfl⟩
                        obtain ⟨rT62, T62, hZT62⟩ := ex_roll (S := T52) (u := u) (w := w) (x := (nI w)) (y := (nI 1)) hST52.1
                        obtain ⟨eT62, hRσ61⟩ := hO63 rT62 T62 hZT62
                        obtain ⟨e2T62, e3T62⟩ := hZT62.1 (no_U (by omega))
                        have e4T62 := e3T62.symm
                        subst e4T62
                        obtain rfl : r60 = (-10001) := eT62.trans e2T62
                        have hlσ61_k : σ61 k 4096 = nI 36 := by rw [hHσ61 k (by omega)]; exact hlσ57_k
                        show xV _ _ _ _ _ _ _ _ _ _ _ _ _ _ _ _ _ (xH D b σ61) _ _ [.int (-10001)]
                        refine xi_sipush (v := -10001) hC dL_stores_471 (pc' := 474) rfl (by decide +kernel) ?_
                        refine xi_icmpne (tgt := 481) hC dL_stores_474 (pc' := 477) rfl (by decide) (fun zc474 => ?_) (fun zc474 => ?_)
                        · exact absurd rfl zc474
                        · skip
                          refine xi_iconst (v := nI 1) hC dL_stores_477 (pc' := 478) rfl (by decide +kernel) ?_
                          refine xi_goto (tgt := 482) hC dL_stores_478 (by decide) ?_
                          refine xb_ireturn hC dL_stores_482 hr (by decide) rfl ?_
                          exact ⟨σ61, T52, w, rfl, (hST52).up (by omega), hRσ61, (hJT52).up (by omega), rfl⟩
                · exact absurd hkz (by omega)
          · skip
            refine xi_iload_n hC dL_stores_296 (pc' := 297) rfl rfl rfl ?_
            refine xi_iconst (v := nI 3) hC dL_stores_297 (pc' := 298) rfl (by decide +kernel) ?_
            refine xi_ishr hC dL_stores_298 (pc' := 299) rfl ?_
            refine xi_iload_n hC dL_stores_299 (pc' := 300) rfl rfl rfl ?_
            refine xi_callS (As := [.int (h >>> ((nI 3) &&& 31)), .int (nI u)]) (rest := []) (c_L_low l D b (b + (k + 1)) (h := (xH D b τa)) (x := (h >>> ((nI 3) &&& 31))) (k := u) (by omega) (by omega)) hC dL_stores_300 (pc' := 303) rfl xw_m_L_46 xw_c_L_low xw_sta_L_low xw_ini_L xd_L_low ⟨Nat.le_of_ble_eq_true rfl, Nat.le_of_ble_eq_true rfl⟩ rfl (Nat.le_of_ble_eq_true rfl) ⟨Nat.le_of_ble_eq_true rfl, Nat.le_of_ble_eq_true rfl⟩ ?_
            rintro _ _ ⟨⟨j64, hj64, rfl⟩, rfl⟩
            show xV _ _ _ _ _ _ _ _ _ _ _ _ _ _ _ _ _ (xH D b τa) _ _ [.int (nI j64)]
            refine xi_istore (lv' := [some (.ref (b + 0)), some (.int (nI u)), some (.int g), some (.int h), some (.int (nI w)), some (.int (nI j3)), some (.ref (b + k)), some (.int (attM S (nI j3) u)), some (.int (nI kp)), some (.int (nI j9)), some (.int (nI j64)), none, none]) hC dL_stores_303 (pc' := 305) rfl (by decide) rfl ?_
            obtain ⟨vi, hvi6, hvi⟩ := hS.1.2.2.1 j64 (by omega)
            refine xi_aload_n hC dL_stores_305 (pc' := 306) rfl rfl rfl ?_
            refine xi_iload hC dL_stores_306 (pc' := 308) rfl rfl ?_
            refine xi_iconst (v := nI 0) hC dL_stores_308 (pc' := 309) rfl (by decide +kernel) ?_
            refine xi_callV (As := [.int (nI j64), .int (nI 0)]) (rest := []) (c_X7_user l D b (b + (k + 1)) (σ := τa) (S := S) (N := N) (u := u) (w := w) hS hRa (by omega) (x := (nI j64)) (y := (nI 0))) hC dL_stores_309 (pc' := 312) rfl xw_m_L_18 xw_c_X7_user xw_ins_X7_user xw_sel_X7_user xw_ini_X7 xd_X7_user (xH_at.trans (xsh_7 kd_0)) rfl ⟨Nat.le_of_ble_eq_true rfl, Nat.le_of_ble_eq_true rfl⟩ rfl (Nat.le_of_ble_eq_true rfl) ⟨Nat.le_of_ble_eq_true rfl, Nat.le_of_ble_eq_true rfl⟩ ?_
            rintro _ _ ⟨r65, rfl, hO66, rfl⟩
            obtain rfl : r65 = (nI vi) := hO66 _ (su_0 hj64 (by omega) hvi)
            show xV _ _ _ _ _ _ _ _ _ _ _ _ _ _ _ _ _ (xH D b τa) _ _ [.int (nI vi)]
            refine xi_istore (lv' := [some (.ref (b + 0)), some (.int (nI u)), some (.int g), some (.int h), some (.int (nI w)), some (.int (nI j3)), some (.ref (b + k)), some (.int (attM S (nI j3) u)), some (.int (nI kp)), some (.int (nI j9)), some (.int (nI j64)), some (.int (nI vi)), none]) hC dL_stores_312 (pc' := 314) rfl (by decide) rfl ?_
            refine xi_aload_n hC dL_stores_314 (pc' := 315) rfl rfl rfl ?_
            refine xi_iload hC dL_stores_315 (pc' := 317) rfl rfl ?_
            refine xi_iload hC dL_stores_317 (pc' := 319) rfl rfl ?_
            refine xi_callV (As := [.int (nI j64), .int (nI j3)]) (rest := []) (c_X7_attach l D b (b + (k + 1)) (σ := τa) (S := S) (N := N) (u := u) (w := w) hS hRa (by omega) (x := (nI j64)) (y := (nI j3))) hC dL_stores_319 (pc' := 322) rfl xw_m_L_72 xw_c_X7_attach xw_ins_X7_attach xw_sel_X7_attach xw_ini_X7 xd_X7_attach (xH_at.trans (xsh_7 kd_0)) rfl ⟨Nat.le_of_ble_eq_true rfl, Nat.le_of_ble_eq_true rfl⟩ rfl (Nat.le_of_ble_eq_true rfl) ⟨Nat.le_of_ble_eq_true rfl, Nat.le_of_ble_eq_true rfl⟩ ?_
            rintro _ _ ⟨r67, σ68, rfl, hHσ68, hO70, rfl⟩
            obtain ⟨rT69, T69, hZT69⟩ := ex_attach (S := S) (u := u) (w := w) (x := (nI j64)) (y := (nI j3)) hS.1
            obtain ⟨eT69, hRσ68⟩ := hO70 rT69 T69 hZT69
            obtain ⟨e2T69, fv1⟩ := t_ok hZT69 hj64 hj3
            obtain rfl : r67 = nI vi := eT69.trans (e2T69.trans hvi)
            have hST69 := SI_attach hS hZT69
            have hJT69 := JJ_attach hJ hZT69
            have hlσ68_k : σ68 k 4096 = nI 36 := by rw [hHσ68 k (by omega)]; exact hla
            show xV _ _ _ _ _ _ _ _ _ _ _ _ _ _ _ _ _ (xH D b σ68) _ _ [.int (nI vi)]
            refine xi_iload hC dL_stores_322 (pc' := 324) rfl rfl ?_
            refine xi_icmpne (tgt := 369) hC dL_stores_324 (pc' := 327) rfl (by decide) (fun zc324 => ?_) (fun zc324 => ?_)
            · exact absurd rfl zc324
            · skip
              refine xi_aload_n hC dL_stores_327 (pc' := 328) rfl rfl rfl ?_
              refine xi_iload hC dL_stores_328 (pc' := 330) rfl rfl ?_
              refine xi_iconst (v := nI 0) hC dL_stores_330 (pc' := 331) rfl (by decide +kernel) ?_
              refine xi_callV (As := [.int (nI j64), .int (nI 0)]) (rest := []) (c_X7_user l D b (b + (k + 1)) (σ := σ68) (S := T69) (N := N) (u := u) (w := w) hST69 hRσ68 (by omega) (x := (nI j64)) (y := (nI 0))) hC dL_stores_331 (pc' := 334) rfl xw_m_L_18 xw_c_X7_user xw_ins_X7_user xw_sel_X7_user xw_ini_X7 xd_X7_user (xH_at.trans (xsh_7 kd_0)) rfl ⟨Nat.le_of_ble_eq_true rfl, Nat.le_of_ble_eq_true rfl⟩ rfl (Nat.le_of_ble_eq_true rfl) ⟨Nat.le_of_ble_eq_true rfl, Nat.le_of_ble_eq_true rfl⟩ ?_
              rintro _ _ ⟨r71, rfl, hO72, rfl⟩
              obtain rfl : r71 = (nI j3) := hO72 _ (su_0 hj64 (by omega) fv1)
              show xV _ _ _ _ _ _ _ _ _ _ _ _ _ _ _ _ _ (xH D b σ68) _ _ [.int (nI j3)]
              refine xi_iload hC dL_stores_334 (pc' := 336) rfl rfl ?_
              refine xi_icmpne (tgt := 369) hC dL_stores_336 (pc' := 339) rfl (by decide) (fun zc336 => ?_) (fun zc336 => ?_)
              · exact absurd rfl zc336
              · skip
                refine xi_aload_n hC dL_stores_339 (pc' := 340) rfl rfl rfl ?_
                refine xi_iload hC dL_stores_340 (pc' := 342) rfl rfl ?_
                refine xi_iload hC dL_stores_342 (pc' := 344) rfl rfl ?_
                refine xi_callV (As := [.int (nI j64), .int (nI w)]) (rest := []) (c_X7_attach l D b (b + (k + 1)) (σ := σ68) (S := T69) (N := N) (u := u) (w := w) hST69 hRσ68 (by omega) (x := (nI j64)) (y := (nI w))) hC dL_stores_344 (pc' := 347) rfl xw_m_L_72 xw_c_X7_attach xw_ins_X7_attach xw_sel_X7_attach xw_ini_X7 xd_X7_attach (xH_at.trans (xsh_7 kd_0)) rfl ⟨Nat.le_of_ble_eq_true rfl, Nat.le_of_ble_eq_true rfl⟩ rfl (Nat.le_of_ble_eq_true rfl) ⟨Nat.le_of_ble_eq_true rfl, Nat.le_of_ble_eq_true rfl⟩ ?_
                rintro _ _ ⟨r73, σ74, rfl, hHσ74, hO76, rfl⟩
                obtain ⟨rT75, T75, hZT75⟩ := ex_attach (S := T69) (u := u) (w := w) (x := (nI j64)) (y := (nI w)) hST69.1
                obtain ⟨eT75, hRσ74⟩ := hO76 rT75 T75 hZT75
                obtain ⟨e2T75, e3T75⟩ := hZT75.1 (fun q => no_U (by omega) q.2)
                have e4T75 := e3T75.symm
                subst e4T75
                obtain rfl : r73 = (-10001) := eT75.trans e2T75
                have hlσ74_k : σ74 k 4096 = nI 36 := by rw [hHσ74 k (by omega)]; exact hlσ68_k
                show xV _ _ _ _ _ _ _ _ _ _ _ _ _ _ _ _ _ (xH D b σ74) _ _ [.int (-10001)]
                refine xi_sipush (v := -10001) hC dL_stores_347 (pc' := 350) rfl (by decide +kernel) ?_
                refine xi_icmpne (tgt := 369) hC dL_stores_350 (pc' := 353) rfl (by decide) (fun zc350 => ?_) (fun zc350 => ?_)
                · exact absurd rfl zc350
                · skip
                  refine xi_aload_n hC dL_stores_353 (pc' := 354) rfl rfl rfl ?_
                  refine xi_iload_n hC dL_stores_354 (pc' := 355) rfl rfl rfl ?_
                  refine xi_iconst (v := nI 0) hC dL_stores_355 (pc' := 356) rfl (by decide +kernel) ?_
                  refine xi_callV (As := [.int (nI u), .int (nI 0)]) (rest := []) (c_X7_attach l D b (b + (k + 1)) (σ := σ74) (S := T69) (N := N) (u := u) (w := w) hST69 hRσ74 (by omega) (x := (nI u)) (y := (nI 0))) hC dL_stores_356 (pc' := 359) rfl xw_m_L_72 xw_c_X7_attach xw_ins_X7_attach xw_sel_X7_attach xw_ini_X7 xd_X7_attach (xH_at.trans (xsh_7 kd_0)) rfl ⟨Nat.le_of_ble_eq_true rfl, Nat.le_of_ble_eq_true rfl⟩ rfl (Nat.le_of_ble_eq_true rfl) ⟨Nat.le_of_ble_eq_true rfl, Nat.le_of_ble_eq_true rfl⟩ ?_
                  rintro _ _ ⟨r77, σ78, rfl, hHσ78, hO80, rfl⟩
                  obtain ⟨rT79, T79, hZT79⟩ := ex_attach (S := T69) (u := u) (w := w) (x := (nI u)) (y := (nI 0)) hST69.1
                  obtain ⟨eT79, hRσ78⟩ := hO80 rT79 T79 hZT79
                  obtain ⟨e2T79, e3T79⟩ := hZT79.1 (fun q => no_U (by omega) q.1)
                  have e4T79 := e3T79.symm
                  subst e4T79
                  obtain rfl : r77 = (-10001) := eT79.trans e2T79
                  have hlσ78_k : σ78 k 4096 = nI 36 := by rw [hHσ78 k (by omega)]; exact hlσ74_k
                  show xV _ _ _ _ _ _ _ _ _ _ _ _ _ _ _ _ _ (xH D b σ78) _ _ [.int (-10001)]
                  refine xi_sipush (v := -10001) hC dL_stores_359 (pc' := 362) rfl (by decide +kernel) ?_
                  refine xi_icmpne (tgt := 369) hC dL_stores_362 (pc' := 365) rfl (by decide) (fun zc362 => ?_) (fun zc362 => ?_)
                  · exact absurd rfl zc362
                  · skip
                    refine xi_iconst (v := nI 1) hC dL_stores_365 (pc' := 366) rfl (by decide +kernel) ?_
                    refine xi_goto (tgt := 370) hC dL_stores_366 (by decide) ?_
                    refine xb_ireturn hC dL_stores_370 hr (by decide) rfl ?_
                    exact ⟨σ78, T69, w, rfl, (hST69).up (by omega), hRσ78, (hJT69).up (by omega), rfl⟩
        · skip
          refine xi_iload hC dL_stores_87 (pc' := 89) rfl rfl ?_
          refine xi_iload_n hC dL_stores_89 (pc' := 90) rfl rfl rfl ?_
          refine xi_iconst (v := nI 3) hC dL_stores_90 (pc' := 91) rfl (by decide +kernel) ?_
          refine xi_ishr hC dL_stores_91 (pc' := 92) rfl ?_
          refine xi_bipush (v := nI 32) hC dL_stores_92 (pc' := 94) rfl (by decide +kernel) ?_
          refine xi_callS (As := [.int (h >>> ((nI 3) &&& 31)), .int (nI 32)]) (rest := [.int (attM S (nI j3) u)]) (c_L_low l D b (b + (k + 1)) (h := (xH D b τa)) (x := (h >>> ((nI 3) &&& 31))) (k := 32) (by omega) (by omega)) hC dL_stores_94 (pc' := 97) rfl xw_m_L_46 xw_c_L_low xw_sta_L_low xw_ini_L xd_L_low ⟨Nat.le_of_ble_eq_true rfl, Nat.le_of_ble_eq_true rfl⟩ rfl (Nat.le_of_ble_eq_true rfl) ⟨Nat.le_of_ble_eq_true rfl, Nat.le_of_ble_eq_true rfl⟩ ?_
          rintro _ _ ⟨⟨j81, hj81, rfl⟩, rfl⟩
          show xV _ _ _ _ _ _ _ _ _ _ _ _ _ _ _ _ _ (xH D b τa) _ _ [.int (nI j81), .int (attM S (nI j3) u)]
          refine xi_iand hC dL_stores_97 (pc' := 98) rfl ?_
          obtain ⟨y, hy⟩ : ∃ y, attM S (nI j3) u &&& nI j81 = y := ⟨_, rfl⟩
          obtain ⟨fb, fs1, fs2⟩ := fk_ok S (u := u) (v := j3) (by omega) hj81
          rw [hy] at fb fs1 fs2
          refine xtop (y := y) hy ?_
          refine xi_istore (lv' := [some (.ref (b + 0)), some (.int (nI u)), some (.int g), some (.int h), some (.int (nI w)), some (.int (nI j3)), some (.ref (b + k)), some (.int (attM S (nI j3) u)), some (.int (nI kp)), some (.int (nI j9)), some (.int y), none, none]) hC dL_stores_98 (pc' := 100) rfl (by decide) rfl ?_
          have hcase : y = 0 ∨ (¬ y = 0 ∧ w = 6) ∨ (¬ y = 0 ∧ w ≠ 6) := by
            by_cases q : y = 0
            · exact Or.inl q
            · by_cases q2 : w = 6
              · exact Or.inr (Or.inl ⟨q, q2⟩)
              · exact Or.inr (Or.inr ⟨q, q2⟩)
          rcases hcase with hy0 | ⟨hy0, hw6⟩ | ⟨hy0, hw6⟩
          · skip
            refine xi_aload_n hC dL_stores_100 (pc' := 101) rfl rfl rfl ?_
            refine xi_iload hC dL_stores_101 (pc' := 103) rfl rfl ?_
            refine xi_iload hC dL_stores_103 (pc' := 105) rfl rfl ?_
            refine xi_callV (As := [.int (nI j3), .int y]) (rest := []) (c_X7_fork l D b (b + (k + 1)) (σ := τa) (S := S) (N := N) (u := u) (w := w) hS hRa (by omega) (x := (nI j3)) (y := y)) hC dL_stores_105 (pc' := 108) rfl xw_m_L_69 xw_c_X7_fork xw_ins_X7_fork xw_sel_X7_fork xw_ini_X7 xd_X7_fork (xH_at.trans (xsh_7 kd_0)) rfl ⟨Nat.le_of_ble_eq_true rfl, Nat.le_of_ble_eq_true rfl⟩ rfl (Nat.le_of_ble_eq_true rfl) ⟨Nat.le_of_ble_eq_true rfl, Nat.le_of_ble_eq_true rfl⟩ ?_
            rintro _ _ ⟨r82, σ83, rfl, hHσ83, hO85, rfl⟩
            obtain ⟨rT84, T84, hZT84⟩ := ex_fork (S := S) (u := u) (w := w) (x := (nI j3)) (y := y) hS.1
            obtain ⟨eT84, hRσ83f⟩ := hO85 rT84 T84 hZT84
            obtain ⟨e2T84, e3T84⟩ := f_bad hZT84 hj3 (fb.mpr hy0)
            have e4T84 := e3T84.symm
            subst e4T84
            obtain rfl : r82 = (-10002) := eT84.trans e2T84
            have hlσ83_k : σ83 k 4096 = nI 36 := by rw [hHσ83 k (by omega)]; exact hla
            have hRσ83 := hRσ83f w hS.1.2.1.1 (by omega)
            have hfaσ83 : ∀ q, q < u * u → σ83 k q = (rV S j3 (q / u) (q % u)) := fun q hq => by rw [hHσ83 k (by omega)]; exact hfk q hq
            show xV _ _ _ _ _ _ _ _ _ _ _ _ _ _ _ _ _ (xH D b σ83) _ _ [.int (-10002)]
            refine xi_istore (lv' := [some (.ref (b + 0)), some (.int (nI u)), some (.int g), some (.int h), some (.int (nI w)), some (.int (nI j3)), some (.ref (b + k)), some (.int (attM S (nI j3) u)), some (.int (nI kp)), some (.int (nI j9)), some (.int y), some (.int (-10002)), none]) hC dL_stores_108 (pc' := 110) rfl (by decide) rfl ?_
            refine xi_iload hC dL_stores_110 (pc' := 112) rfl rfl ?_
            refine xi_ifeq (tgt := 122) hC dL_stores_112 (pc' := 115) rfl (by decide) (fun zc112 => ?_) (fun zc112 => ?_)
            · skip
              refine xi_iload hC dL_stores_122 (pc' := 124) rfl rfl ?_
              refine xi_iload hC dL_stores_124 (pc' := 126) rfl rfl ?_
              refine xi_ifne (tgt := 135) hC dL_stores_126 (pc' := 129) rfl (by decide) (fun zc126 => ?_) (fun zc126 => ?_)
              · exact absurd hy0 zc126
              · skip
                refine xi_sipush (v := -10002) hC dL_stores_129 (pc' := 132) rfl (by decide +kernel) ?_
                refine xi_goto (tgt := 138) hC dL_stores_132 (by decide) ?_
                refine xi_icmpne (tgt := 145) hC dL_stores_138 (pc' := 141) rfl (by decide) (fun zc138 => ?_) (fun zc138 => ?_)
                · exact absurd rfl zc138
                · skip
                  refine xi_iconst (v := nI 1) hC dL_stores_141 (pc' := 142) rfl (by decide +kernel) ?_
                  refine xi_goto (tgt := 146) hC dL_stores_142 (by decide) ?_
                  refine xb_ireturn hC dL_stores_146 hr (by decide) rfl ?_
                  exact ⟨σ83, S, w, rfl, (hS).up (by omega), hRσ83, (hJ).up (by omega), rfl⟩
            · exact absurd hy0 zc112
          · skip
            refine xi_aload_n hC dL_stores_100 (pc' := 101) rfl rfl rfl ?_
            refine xi_iload hC dL_stores_101 (pc' := 103) rfl rfl ?_
            refine xi_iload hC dL_stores_103 (pc' := 105) rfl rfl ?_
            refine xi_callV (As := [.int (nI j3), .int y]) (rest := []) (c_X7_fork l D b (b + (k + 1)) (σ := τa) (S := S) (N := N) (u := u) (w := w) hS hRa (by omega) (x := (nI j3)) (y := y)) hC dL_stores_105 (pc' := 108) rfl xw_m_L_69 xw_c_X7_fork xw_ins_X7_fork xw_sel_X7_fork xw_ini_X7 xd_X7_fork (xH_at.trans (xsh_7 kd_0)) rfl ⟨Nat.le_of_ble_eq_true rfl, Nat.le_of_ble_eq_true rfl⟩ rfl (Nat.le_of_ble_eq_true rfl) ⟨Nat.le_of_ble_eq_true rfl, Nat.le_of_ble_eq_true rfl⟩ ?_
            rintro _ _ ⟨r86, σ87, rfl, hHσ87, hO89, rfl⟩
            obtain ⟨rT88, T88, hZT88⟩ := ex_fork (S := S) (u := u) (w := w) (x := (nI j3)) (y := y) hS.1
            obtain ⟨eT88, hRσ87f⟩ := hO89 rT88 T88 hZT88
            obtain ⟨e2T88, e3T88⟩ := f_full hZT88 hj3 (fun q => hy0 (fb.mp q)) hw6
            have e4T88 := e3T88.symm
            subst e4T88
            obtain rfl : r86 = (-10004) := eT88.trans e2T88
            have hlσ87_k : σ87 k 4096 = nI 36 := by rw [hHσ87 k (by omega)]; exact hla
            have hRσ87 := hRσ87f w hS.1.2.1.1 (by omega)
            have hfaσ87 : ∀ q, q < u * u → σ87 k q = (rV S j3 (q / u) (q % u)) := fun q hq => by rw [hHσ87 k (by omega)]; exact hfk q hq
            show xV _ _ _ _ _ _ _ _ _ _ _ _ _ _ _ _ _ (xH D b σ87) _ _ [.int (-10004)]
            refine xi_istore (lv' := [some (.ref (b + 0)), some (.int (nI u)), some (.int g), some (.int h), some (.int (nI w)), some (.int (nI j3)), some (.ref (b + k)), some (.int (attM S (nI j3) u)), some (.int (nI kp)), some (.int (nI j9)), some (.int y), some (.int (-10004)), none]) hC dL_stores_108 (pc' := 110) rfl (by decide) rfl ?_
            refine xi_iload hC dL_stores_110 (pc' := 112) rfl rfl ?_
            refine xi_ifeq (tgt := 122) hC dL_stores_112 (pc' := 115) rfl (by decide) (fun zc112 => ?_) (fun zc112 => ?_)
            · exact absurd zc112 hy0
            · skip
              refine xi_iload hC dL_stores_115 (pc' := 117) rfl rfl ?_
              refine xi_bipush (v := nI 6) hC dL_stores_117 (pc' := 119) rfl (by decide +kernel) ?_
              refine xn_icmpne (tgt := 147) hC dL_stores_119 (pc' := 122) rfl (by decide) (by omega) (by omega) (fun zc119 => ?_) (fun zc119 => ?_)
              · exact absurd hw6 zc119
              · skip
                refine xi_iload hC dL_stores_122 (pc' := 124) rfl rfl ?_
                refine xi_iload hC dL_stores_124 (pc' := 126) rfl rfl ?_
                refine xi_ifne (tgt := 135) hC dL_stores_126 (pc' := 129) rfl (by decide) (fun zc126 => ?_) (fun zc126 => ?_)
                · skip
                  refine xi_sipush (v := -10004) hC dL_stores_135 (pc' := 138) rfl (by decide +kernel) ?_
                  refine xi_icmpne (tgt := 145) hC dL_stores_138 (pc' := 141) rfl (by decide) (fun zc138 => ?_) (fun zc138 => ?_)
                  · exact absurd rfl zc138
                  · skip
                    refine xi_iconst (v := nI 1) hC dL_stores_141 (pc' := 142) rfl (by decide +kernel) ?_
                    refine xi_goto (tgt := 146) hC dL_stores_142 (by decide) ?_
                    refine xb_ireturn hC dL_stores_146 hr (by decide) rfl ?_
                    exact ⟨σ87, S, w, rfl, (hS).up (by omega), hRσ87, (hJ).up (by omega), rfl⟩
                · exact absurd zc126 hy0
          · skip
            refine xi_aload_n hC dL_stores_100 (pc' := 101) rfl rfl rfl ?_
            refine xi_iload hC dL_stores_101 (pc' := 103) rfl rfl ?_
            refine xi_iload hC dL_stores_103 (pc' := 105) rfl rfl ?_
            refine xi_callV (As := [.int (nI j3), .int y]) (rest := []) (c_X7_fork l D b (b + (k + 1)) (σ := τa) (S := S) (N := N) (u := u) (w := w) hS hRa (by omega) (x := (nI j3)) (y := y)) hC dL_stores_105 (pc' := 108) rfl xw_m_L_69 xw_c_X7_fork xw_ins_X7_fork xw_sel_X7_fork xw_ini_X7 xd_X7_fork (xH_at.trans (xsh_7 kd_0)) rfl ⟨Nat.le_of_ble_eq_true rfl, Nat.le_of_ble_eq_true rfl⟩ rfl (Nat.le_of_ble_eq_true rfl) ⟨Nat.le_of_ble_eq_true rfl, Nat.le_of_ble_eq_true rfl⟩ ?_
            rintro _ _ ⟨r90, σ91, rfl, hHσ91, hO93, rfl⟩
            obtain ⟨rT92, T92, hZT92⟩ := ex_fork (S := S) (u := u) (w := w) (x := (nI j3)) (y := y) hS.1
            obtain ⟨eT92, hRσ91f⟩ := hO93 rT92 T92 hZT92
            obtain ⟨e2T92, fw, frow, fct, fkp, fa1, fa2⟩ := f_ok hZT92 hS.1 hj3 (fun q => hy0 (fb.mp q)) hw6 hkp
            obtain rfl : r90 = nI w := eT92.trans e2T92
            obtain ⟨w2, hw26, ew2, hST92⟩ := SI_fork hS hZT92
            obtain rfl : w2 = w + 1 := nI_inj (by omega) (by omega) (ew2.symm.trans fw)
            have hJT92 := JJ_fork hJ hZT92
            have hlσ91_k : σ91 k 4096 = nI 36 := by rw [hHσ91 k (by omega)]; exact hla
            have hRσ91 := hRσ91f (w + 1) fw (by omega)
            have hfaσ91 : ∀ q, q < u * u → σ91 k q = (rV S j3 (q / u) (q % u)) := fun q hq => by rw [hHσ91 k (by omega)]; exact hfk q hq
            show xV _ _ _ _ _ _ _ _ _ _ _ _ _ _ _ _ _ (xH D b σ91) _ _ [.int (nI w)]
            refine xi_istore (lv' := [some (.ref (b + 0)), some (.int (nI u)), some (.int g), some (.int h), some (.int (nI w)), some (.int (nI j3)), some (.ref (b + k)), some (.int (attM S (nI j3) u)), some (.int (nI kp)), some (.int (nI j9)), some (.int y), some (.int (nI w)), none]) hC dL_stores_108 (pc' := 110) rfl (by decide) rfl ?_
            refine xi_iload hC dL_stores_110 (pc' := 112) rfl rfl ?_
            refine xi_ifeq (tgt := 122) hC dL_stores_112 (pc' := 115) rfl (by decide) (fun zc112 => ?_) (fun zc112 => ?_)
            · exact absurd zc112 hy0
            · skip
              refine xi_iload hC dL_stores_115 (pc' := 117) rfl rfl ?_
              refine xi_bipush (v := nI 6) hC dL_stores_117 (pc' := 119) rfl (by decide +kernel) ?_
              refine xn_icmpne (tgt := 147) hC dL_stores_119 (pc' := 122) rfl (by decide) (by omega) (by omega) (fun zc119 => ?_) (fun zc119 => ?_)
              · skip
                refine xi_iconst (v := nI 0) hC dL_stores_147 (pc' := 148) rfl (by decide +kernel) ?_
                refine xi_istore (lv' := [some (.ref (b + 0)), some (.int (nI u)), some (.int g), some (.int h), some (.int (nI w)), some (.int (nI j3)), some (.ref (b + k)), some (.int (attM S (nI j3) u)), some (.int (nI kp)), some (.int (nI j9)), some (.int y), some (.int (nI w)), some (.int (nI 0))]) hC dL_stores_148 (pc' := 150) rfl (by decide) rfl ?_
                have L150 : ∀ (d : Nat) (x2 : Nat), u * u - x2 < d → (x2 ≤ u * u) → xV p l e (xR 4 90 1 36) s m args below meth c D b 13 1 36 (MQ below (xQ D b (b + (k + 1)) (fun y' h' => ∃ (τ T : XM) (w' : Nat), y' = some (.int (nI 1)) ∧ SI (N + 1) T u w' ∧ RR τ T u w' ∧ JJ (N + 1) T u ∧ h' = xH D b τ)) args s 1 36 (fun q => b ≤ q)) (b + (k + 1)) (xH D b σ91) 150 [some (.ref (b + 0)), some (.int (nI u)), some (.int g), some (.int h), some (.int (nI w)), some (.int (nI j3)), some (.ref (b + k)), some (.int (attM S (nI j3) u)), some (.int (nI kp)), some (.int (nI j9)), some (.int y), some (.int (nI w)), some (.int (nI x2))] [] := by
                  intro d
                  induction d with
                  | zero => intro x2 h; exact absurd h (Nat.not_lt_zero _)
                  | succ d ih150 =>
                    intro x2 hd150 hx2
                    refine xi_iload hC dL_stores_150 (pc' := 152) rfl rfl ?_
                    refine xi_iload_n hC dL_stores_152 (pc' := 153) rfl rfl rfl ?_
                    refine xi_iload_n hC dL_stores_153 (pc' := 154) rfl rfl rfl ?_
                    refine xn_imul hC dL_stores_154 (pc' := 155) rfl ?_
                    refine xn_icmpge (tgt := 211) hC dL_stores_155 (pc' := 158) rfl (by decide) (by omega) (by omega) (fun zc155 => ?_) (fun zc155 => ?_)
                    · skip
                      refine xi_iload hC dL_stores_211 (pc' := 213) rfl rfl ?_
                      refine xi_iload hC dL_stores_213 (pc' := 215) rfl rfl ?_
                      refine xi_icmpne (tgt := 288) hC dL_stores_215 (pc' := 218) rfl (by decide) (fun zc215 => ?_) (fun zc215 => ?_)
                      · exact absurd rfl zc215
                      · skip
                        refine xi_aload_n hC dL_stores_218 (pc' := 219) rfl rfl rfl ?_
                        refine xi_iconst (v := nI 1) hC dL_stores_219 (pc' := 220) rfl (by decide +kernel) ?_
                        refine xi_callV (As := [.int (nI 1)]) (rest := []) (c_X7_count l D b (b + (k + 1)) (σ := σ91) (S := T92) (N := N) (u := u) (w := (w + 1)) hST92 hRσ91 (by omega) (x := (nI 1))) hC dL_stores_220 (pc' := 223) rfl xw_m_L_40 xw_c_X7_count xw_ins_X7_count xw_sel_X7_count xw_ini_X7 xd_X7_count (xH_at.trans (xsh_7 kd_0)) rfl ⟨Nat.le_of_ble_eq_true rfl, Nat.le_of_ble_eq_true rfl⟩ rfl (Nat.le_of_ble_eq_true rfl) ⟨Nat.le_of_ble_eq_true rfl, Nat.le_of_ble_eq_true rfl⟩ ?_
                        rintro _ _ ⟨r94, rfl, hO95, rfl⟩
                        obtain rfl : r94 = (nI (w + 1)) := hO95 _ (sc_1)
                        show xV _ _ _ _ _ _ _ _ _ _ _ _ _ _ _ _ _ (xH D b σ91) _ _ [.int (nI (w + 1))]
                        refine xi_iload hC dL_stores_223 (pc' := 225) rfl rfl ?_
                        refine xi_iconst (v := nI 1) hC dL_stores_225 (pc' := 226) rfl (by decide +kernel) ?_
                        refine xn_iadd hC dL_stores_226 (pc' := 227) rfl ?_
                        refine xi_icmpne (tgt := 288) hC dL_stores_227 (pc' := 230) rfl (by decide) (fun zc227 => ?_) (fun zc227 => ?_)
                        · exact absurd rfl zc227
                        · skip
                          refine xi_aload_n hC dL_stores_230 (pc' := 231) rfl rfl rfl ?_
                          refine xi_iload hC dL_stores_231 (pc' := 233) rfl rfl ?_
                          refine xi_iconst (v := nI 0) hC dL_stores_233 (pc' := 234) rfl (by decide +kernel) ?_
                          refine xi_callV (As := [.int (nI w), .int (nI 0)]) (rest := []) (c_X7_view l D b (b + (k + 1)) (σ := σ91) (S := T92) (N := N) (u := u) (w := (w + 1)) hST92 hRσ91 (by omega) (x := (nI w)) (y := (nI 0))) hC dL_stores_234 (pc' := 237) rfl xw_m_L_43 xw_c_X7_view xw_ins_X7_view xw_sel_X7_view xw_ini_X7 xd_X7_view (xH_at.trans (xsh_7 kd_0)) rfl ⟨Nat.le_of_ble_eq_true rfl, Nat.le_of_ble_eq_true rfl⟩ rfl (Nat.le_of_ble_eq_true rfl) ⟨Nat.le_of_ble_eq_true rfl, Nat.le_of_ble_eq_true rfl⟩ ?_
                          rintro _ _ ⟨r96, rfl, hO97, rfl⟩
                          obtain rfl : y = r96 := ((hO97 _ _ (sw_0 (by omega) (by omega))).trans (fa1.trans fs1)).symm
                          show xV _ _ _ _ _ _ _ _ _ _ _ _ _ _ _ _ _ (xH D b σ91) _ _ [.int y]
                          refine xi_iload hC dL_stores_237 (pc' := 239) rfl rfl ?_
                          refine xi_icmpne (tgt := 288) hC dL_stores_239 (pc' := 242) rfl (by decide) (fun zc239 => ?_) (fun zc239 => ?_)
                          · exact absurd rfl zc239
                          · skip
                            refine xi_aload_n hC dL_stores_242 (pc' := 243) rfl rfl rfl ?_
                            refine xi_iload hC dL_stores_243 (pc' := 245) rfl rfl ?_
                            refine xi_iconst (v := nI 0) hC dL_stores_245 (pc' := 246) rfl (by decide +kernel) ?_
                            refine xi_callV (As := [.int (nI j3), .int (nI 0)]) (rest := []) (c_X7_view l D b (b + (k + 1)) (σ := σ91) (S := T92) (N := N) (u := u) (w := (w + 1)) hST92 hRσ91 (by omega) (x := (nI j3)) (y := (nI 0))) hC dL_stores_246 (pc' := 249) rfl xw_m_L_43 xw_c_X7_view xw_ins_X7_view xw_sel_X7_view xw_ini_X7 xd_X7_view (xH_at.trans (xsh_7 kd_0)) rfl ⟨Nat.le_of_ble_eq_true rfl, Nat.le_of_ble_eq_true rfl⟩ rfl (Nat.le_of_ble_eq_true rfl) ⟨Nat.le_of_ble_eq_true rfl, Nat.le_of_ble_eq_true rfl⟩ ?_
                            rintro _ _ ⟨r98, rfl, hO99, rfl⟩
                            obtain rfl : r98 = ((attM S (nI j3) u) - y) := (hO99 _ _ (sw_0 (by omega) (by omega))).trans (fa2.trans fs2)
                            show xV _ _ _ _ _ _ _ _ _ _ _ _ _ _ _ _ _ (xH D b σ91) _ _ [.int ((attM S (nI j3) u) - y)]
                            refine xi_iload hC dL_stores_249 (pc' := 251) rfl rfl ?_
                            refine xi_iload hC dL_stores_251 (pc' := 253) rfl rfl ?_
                            refine xi_isub hC dL_stores_253 (pc' := 254) rfl ?_
                            refine xi_icmpne (tgt := 288) hC dL_stores_254 (pc' := 257) rfl (by decide) (fun zc254 => ?_) (fun zc254 => ?_)
                            · exact absurd rfl zc254
                            · skip
                              refine xi_aload_n hC dL_stores_257 (pc' := 258) rfl rfl rfl ?_
                              refine xi_iload hC dL_stores_258 (pc' := 260) rfl rfl ?_
                              refine xi_iconst (v := nI 1) hC dL_stores_260 (pc' := 261) rfl (by decide +kernel) ?_
                              refine xi_callV (As := [.int (nI w), .int (nI 1)]) (rest := []) (c_X7_view l D b (b + (k + 1)) (σ := σ91) (S := T92) (N := N) (u := u) (w := (w + 1)) hST92 hRσ91 (by omega) (x := (nI w)) (y := (nI 1))) hC dL_stores_261 (pc' := 264) rfl xw_m_L_43 xw_c_X7_view xw_ins_X7_view xw_sel_X7_view xw_ini_X7 xd_X7_view (xH_at.trans (xsh_7 kd_0)) rfl ⟨Nat.le_of_ble_eq_true rfl, Nat.le_of_ble_eq_true rfl⟩ rfl (Nat.le_of_ble_eq_true rfl) ⟨Nat.le_of_ble_eq_true rfl, Nat.le_of_ble_eq_true rfl⟩ ?_
                              rintro _ _ ⟨r100, rfl, hO101, rfl⟩
                              obtain rfl : r100 = (nI kp) := hO101 _ _ (sw_1 (by omega) (by omega) fkp)
                              show xV _ _ _ _ _ _ _ _ _ _ _ _ _ _ _ _ _ (xH D b σ91) _ _ [.int (nI kp)]
                              refine xi_iload hC dL_stores_264 (pc' := 266) rfl rfl ?_
                              refine xi_icmpne (tgt := 288) hC dL_stores_266 (pc' := 269) rfl (by decide) (fun zc266 => ?_) (fun zc266 => ?_)
                              · exact absurd rfl zc266
                              · skip
                                refine xi_aload_n hC dL_stores_269 (pc' := 270) rfl rfl rfl ?_
                                refine xi_iload hC dL_stores_270 (pc' := 272) rfl rfl ?_
                                refine xi_iconst (v := nI 1) hC dL_stores_272 (pc' := 273) rfl (by decide +kernel) ?_
                                refine xn_iadd hC dL_stores_273 (pc' := 274) rfl ?_
                                refine xi_iconst (v := nI 1) hC dL_stores_274 (pc' := 275) rfl (by decide +kernel) ?_
                                refine xi_callV (As := [.int (nI (w + 1)), .int (nI 1)]) (rest := []) (c_X7_fork l D b (b + (k + 1)) (σ := σ91) (S := T92) (N := N) (u := u) (w := (w + 1)) hST92 hRσ91 (by omega) (x := (nI (w + 1))) (y := (nI 1))) hC dL_stores_275 (pc' := 278) rfl xw_m_L_69 xw_c_X7_fork xw_ins_X7_fork xw_sel_X7_fork xw_ini_X7 xd_X7_fork (xH_at.trans (xsh_7 kd_0)) rfl ⟨Nat.le_of_ble_eq_true rfl, Nat.le_of_ble_eq_true rfl⟩ rfl (Nat.le_of_ble_eq_true rfl) ⟨Nat.le_of_ble_eq_true rfl, Nat.le_of_ble_eq_true rfl⟩ ?_
                                rintro _ _ ⟨r102, σ103, rfl, hHσ103, hO105, rfl⟩
                                obtain ⟨rT104, T104, hZT104⟩ := ex_fork (S := T92) (u := u) (w := (w + 1)) (x := (nI (w + 1))) (y := (nI 1)) hST92.1
                                obtain ⟨eT104, hRσ103f⟩ := hO105 rT104 T104 hZT104
                                obtain ⟨e2T104, e3T104⟩ := hZT104.1 (no_U (by omega))
                                have e4T104 := e3T104.symm
                                subst e4T104
                                obtain rfl : r102 = (-10001) := eT104.trans e2T104
                                have hlσ103_k : σ103 k 4096 = nI 36 := by rw [hHσ103 k (by omega)]; exact hlσ91_k
                                have hRσ103 := hRσ103f (w + 1) fw (by omega)
                                have hfaσ103 : ∀ q, q < u * u → σ103 k q = (rV S j3 (q / u) (q % u)) := fun q hq => by rw [hHσ103 k (by omega)]; exact hfaσ91 q hq
                                show xV _ _ _ _ _ _ _ _ _ _ _ _ _ _ _ _ _ (xH D b σ103) _ _ [.int (-10001)]
                                refine xi_sipush (v := -10001) hC dL_stores_278 (pc' := 281) rfl (by decide +kernel) ?_
                                refine xi_icmpne (tgt := 288) hC dL_stores_281 (pc' := 284) rfl (by decide) (fun zc281 => ?_) (fun zc281 => ?_)
                                · exact absurd rfl zc281
                                · skip
                                  refine xi_iconst (v := nI 1) hC dL_stores_284 (pc' := 285) rfl (by decide +kernel) ?_
                                  refine xi_goto (tgt := 289) hC dL_stores_285 (by decide) ?_
                                  refine xb_ireturn hC dL_stores_289 hr (by decide) rfl ?_
                                  exact ⟨σ103, T92, (w + 1), rfl, (hST92).up (by omega), hRσ103, (hJT92).up (by omega), rfl⟩
                    · skip
                      have hd2 : x2 / u < u := Nat.div_lt_of_lt_mul zc155
                      have hr3 : x2 % u < u := Nat.mod_lt _ (by omega)
                      refine xi_aload_n hC dL_stores_158 (pc' := 159) rfl rfl rfl ?_
                      refine xi_iload hC dL_stores_159 (pc' := 161) rfl rfl ?_
                      refine xi_iload hC dL_stores_161 (pc' := 163) rfl rfl ?_
                      refine xi_iload_n hC dL_stores_163 (pc' := 164) rfl rfl rfl ?_
                      refine xn_idiv hC dL_stores_164 (pc' := 165) rfl (by omega) (by omega) (by omega) ?_
                      refine xi_iload hC dL_stores_165 (pc' := 167) rfl rfl ?_
                      refine xi_iload_n hC dL_stores_167 (pc' := 168) rfl rfl rfl ?_
                      refine xn_irem hC dL_stores_168 (pc' := 169) rfl (by omega) (by omega) (by omega) ?_
                      refine xi_callV (As := [.int (nI w), .int (nI (x2 / u)), .int (nI (x2 % u))]) (rest := []) (c_X7_entry l D b (b + (k + 1)) (σ := σ91) (S := T92) (N := N) (u := u) (w := (w + 1)) hST92 hRσ91 (by omega) (x := (nI w)) (y := (nI (x2 / u))) (z := (nI (x2 % u)))) hC dL_stores_169 (pc' := 172) rfl xw_m_L_15 xw_c_X7_entry xw_ins_X7_entry xw_sel_X7_entry xw_ini_X7 xd_X7_entry (xH_at.trans (xsh_7 kd_0)) rfl ⟨Nat.le_of_ble_eq_true rfl, Nat.le_of_ble_eq_true rfl⟩ rfl (Nat.le_of_ble_eq_true rfl) ⟨Nat.le_of_ble_eq_true rfl, Nat.le_of_ble_eq_true rfl⟩ ?_
                      rintro _ _ ⟨r106, rfl, hO107, rfl⟩
                      obtain rfl : r106 = (rV S j3 (x2 / u) (x2 % u)) := (hO107 _ (se_1 (by omega) (by omega) hd2 hr3 (by omega))).trans (frow _ _ (by omega) (by omega))
                      show xV _ _ _ _ _ _ _ _ _ _ _ _ _ _ _ _ _ (xH D b σ91) _ _ [.int (rV S j3 (x2 / u) (x2 % u))]
                      refine xi_aload hC dL_stores_172 (pc' := 174) rfl rfl ?_
                      refine xi_iload hC dL_stores_174 (pc' := 176) rfl rfl ?_
                      refine xl_L hC dL_stores_176 (pc' := 177) rfl (by omega) (by decide : (36 : Nat) = 8 ∨ (36 : Nat) = 36) hlσ91_k rfl (by omega) ?_
                      refine xtop (y := (rV S j3 (x2 / u) (x2 % u))) (hfaσ91 x2 (by omega)) ?_
                      refine xi_icmpne (tgt := 203) hC dL_stores_177 (pc' := 180) rfl (by decide) (fun zc177 => ?_) (fun zc177 => ?_)
                      · exact absurd rfl zc177
                      · skip
                        refine xi_aload_n hC dL_stores_180 (pc' := 181) rfl rfl rfl ?_
                        refine xi_iload hC dL_stores_181 (pc' := 183) rfl rfl ?_
                        refine xi_iload hC dL_stores_183 (pc' := 185) rfl rfl ?_
                        refine xi_iload_n hC dL_stores_185 (pc' := 186) rfl rfl rfl ?_
                        refine xn_irem hC dL_stores_186 (pc' := 187) rfl (by omega) (by omega) (by omega) ?_
                        refine xi_callV (As := [.int (nI w), .int (nI (x2 % u))]) (rest := []) (c_X7_content l D b (b + (k + 1)) (σ := σ91) (S := T92) (N := N) (u := u) (w := (w + 1)) hST92 hRσ91 (by omega) (x := (nI w)) (y := (nI (x2 % u)))) hC dL_stores_187 (pc' := 190) rfl xw_m_L_49 xw_c_X7_content xw_ins_X7_content xw_sel_X7_content xw_ini_X7 xd_X7_content (xH_at.trans (xsh_7 kd_0)) rfl ⟨Nat.le_of_ble_eq_true rfl, Nat.le_of_ble_eq_true rfl⟩ rfl (Nat.le_of_ble_eq_true rfl) ⟨Nat.le_of_ble_eq_true rfl, Nat.le_of_ble_eq_true rfl⟩ ?_
                        rintro _ _ ⟨r108, rfl, hO109, rfl⟩
                        obtain rfl : r108 = (cV S j3 (x2 % u)) := (hO109 _ (so_1 (by omega) (by omega) hr3 (by omega))).trans ((fct _ (by omega)).1)
                        show xV _ _ _ _ _ _ _ _ _ _ _ _ _ _ _ _ _ (xH D b σ91) _ _ [.int (cV S j3 (x2 % u))]
                        refine xi_aload_n hC dL_stores_190 (pc' := 191) rfl rfl rfl ?_
                        refine xi_iload hC dL_stores_191 (pc' := 193) rfl rfl ?_
                        refine xi_iload hC dL_stores_193 (pc' := 195) rfl rfl ?_
                        refine xi_iload_n hC dL_stores_195 (pc' := 196) rfl rfl rfl ?_
                        refine xn_irem hC dL_stores_196 (pc' := 197) rfl (by omega) (by omega) (by omega) ?_
                        refine xi_callV (As := [.int (nI j3), .int (nI (x2 % u))]) (rest := [.int (cV S j3 (x2 % u))]) (c_X7_content l D b (b + (k + 1)) (σ := σ91) (S := T92) (N := N) (u := u) (w := (w + 1)) hST92 hRσ91 (by omega) (x := (nI j3)) (y := (nI (x2 % u)))) hC dL_stores_197 (pc' := 200) rfl xw_m_L_49 xw_c_X7_content xw_ins_X7_content xw_sel_X7_content xw_ini_X7 xd_X7_content (xH_at.trans (xsh_7 kd_0)) rfl ⟨Nat.le_of_ble_eq_true rfl, Nat.le_of_ble_eq_true rfl⟩ rfl (Nat.le_of_ble_eq_true rfl) ⟨Nat.le_of_ble_eq_true rfl, Nat.le_of_ble_eq_true rfl⟩ ?_
                        rintro _ _ ⟨r110, rfl, hO111, rfl⟩
                        obtain rfl : r110 = (cV S j3 (x2 % u)) := (hO111 _ (so_1 (by omega) (by omega) hr3 (by omega))).trans ((fct _ (by omega)).2)
                        show xV _ _ _ _ _ _ _ _ _ _ _ _ _ _ _ _ _ (xH D b σ91) _ _ [.int (cV S j3 (x2 % u)), .int (cV S j3 (x2 % u))]
                        refine xi_icmpeq (tgt := 205) hC dL_stores_200 (pc' := 203) rfl (by decide) (fun zc200 => ?_) (fun zc200 => ?_)
                        · skip
                          refine xn_iinc (lv' := [some (.ref (b + 0)), some (.int (nI u)), some (.int g), some (.int h), some (.int (nI w)), some (.int (nI j3)), some (.ref (b + k)), some (.int (attM S (nI j3) u)), some (.int (nI kp)), some (.int (nI j9)), some (.int y), some (.int (nI w)), some (.int (nI (x2 + 1)))]) hC dL_stores_205 (pc' := 208) rfl rfl (by decide) rfl ?_
                          refine xi_goto (tgt := 150) hC dL_stores_208 (by decide) ?_
                          refine ih150 _ (by omega) ?_
                          · omega
                        · exact absurd rfl zc200
                refine L150 _ _ (Nat.lt_succ_self _) ?_
                · omega
              · exact absurd zc119 hw6
      · skip
        have hd : x / u < u := Nat.div_lt_of_lt_mul zc29
        have hr2 : x % u < u := Nat.mod_lt _ (by omega)
        refine xi_aload hC dL_stores_32 (pc' := 34) rfl rfl ?_
        refine xi_iload hC dL_stores_34 (pc' := 36) rfl rfl ?_
        refine xi_aload_n hC dL_stores_36 (pc' := 37) rfl rfl rfl ?_
        refine xi_iload hC dL_stores_37 (pc' := 39) rfl rfl ?_
        refine xi_iload hC dL_stores_39 (pc' := 41) rfl rfl ?_
        refine xi_iload_n hC dL_stores_41 (pc' := 42) rfl rfl rfl ?_
        refine xn_idiv hC dL_stores_42 (pc' := 43) rfl (by omega) (by omega) (by omega) ?_
        refine xi_iload hC dL_stores_43 (pc' := 45) rfl rfl ?_
        refine xi_iload_n hC dL_stores_45 (pc' := 46) rfl rfl rfl ?_
        refine xn_irem hC dL_stores_46 (pc' := 47) rfl (by omega) (by omega) (by omega) ?_
        refine xi_callV (As := [.int (nI j3), .int (nI (x / u)), .int (nI (x % u))]) (rest := [.int (nI x), .ref (b + k)]) (c_X7_entry l D b (b + (k + 1)) (σ := τa) (S := S) (N := N) (u := u) (w := w) hS hRa (by omega) (x := (nI j3)) (y := (nI (x / u))) (z := (nI (x % u)))) hC dL_stores_47 (pc' := 50) rfl xw_m_L_15 xw_c_X7_entry xw_ins_X7_entry xw_sel_X7_entry xw_ini_X7 xd_X7_entry (xH_at.trans (xsh_7 kd_0)) rfl ⟨Nat.le_of_ble_eq_true rfl, Nat.le_of_ble_eq_true rfl⟩ rfl (Nat.le_of_ble_eq_true rfl) ⟨Nat.le_of_ble_eq_true rfl, Nat.le_of_ble_eq_true rfl⟩ ?_
        rintro _ _ ⟨r112, rfl, hO113, rfl⟩
        obtain rfl : r112 = (rV S j3 (x / u) (x % u)) := hO113 _ (se_1 hj3 (by omega) hd hr2 (by omega))
        show xV _ _ _ _ _ _ _ _ _ _ _ _ _ _ _ _ _ (xH D b τa) _ _ [.int (rV S j3 (x / u) (x % u)), .int (nI x), .ref (b + k)]
        refine xs_L hC dL_stores_50 (pc' := 51) rfl (by omega) (by decide : (36 : Nat) = 8 ∨ (36 : Nat) = 36) hla rfl (by omega) ?_
        refine xn_iinc (lv' := [some (.ref (b + 0)), some (.int (nI u)), some (.int g), some (.int h), some (.int (nI w)), some (.int (nI j3)), some (.ref (b + k)), some (.int (nI (x + 1))), none, none, none, none, none]) hC dL_stores_51 (pc' := 54) rfl rfl (by decide) rfl ?_
        refine xi_goto (tgt := 24) hC dL_stores_54 (by decide) ?_
        refine ih24 _ _ (by omega) ?_ ?_ ?_ ?_
        · omega
        · exact hRa.hi (by omega) (fun o ho => sw_n (by omega))
        · rw [sw_k (by omega)]; exact hla
        · exact fun q hq => by
            rcases Nat.lt_or_ge q x with z | z
            · rw [sw_k (by omega)]; exact hfa q z
            · rw [show q = x by omega, sw_s]
  refine L24 _ _ _ (Nat.lt_succ_self _) ?_ ?_ ?_ ?_
  · omega
  · exact hRσ4
  · exact hlσ4
  · exact fun q hq => absurd hq (Nat.not_lt_zero _)
