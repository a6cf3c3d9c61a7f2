/-! ===== p29: errors ===== -/
theorem xe_reset {S : XM} {u : Nat} {x : Int32} (h : ¬ (nI 2 ≤ x ∧ x ≤ nI 5)) : s_reset S u x (-10002) S := ⟨fun _ => ⟨rfl, rfl⟩, fun z z2 z5 e => absurd ⟨by rw [e]; exact nI_le z2 (by omega), by rw [e]; exact nI_le z5 (by decide)⟩ h⟩
theorem xe_write {S : XM} {u : Nat} {x y : Int32} (h : ¬ isU u x) : s_write S u x y (-10001) S := ⟨fun _ => ⟨rfl, rfl⟩, fun i hi e => absurd ⟨i, hi, e⟩ h⟩
theorem xe_write2 {S : XM} {u i : Nat} {y : Int32} (hi : i < u) (h : ¬ inR y) : s_write S u (nI i) y (-10002) S := ⟨fun q => absurd ⟨i, hi, rfl⟩ q, fun j hj e => ⟨fun _ => ⟨rfl, rfl⟩, fun q => absurd q h⟩⟩
theorem xe_read {S : XM} {u : Nat} {x y : Int32} (h : ¬ (isU u x ∧ isU u y)) : s_read S u x y (-10001) S := ⟨fun _ => ⟨rfl, rfl⟩, fun i j hi hj e e' => absurd ⟨⟨i, hi, e⟩, ⟨j, hj, e'⟩⟩ h⟩
theorem xe_fork {S : XM} {u w : Nat} {x y : Int32} (h : ¬ isU w x) : s_fork S u w x y (-10001) S := ⟨fun _ => ⟨rfl, rfl⟩, fun v hv e => absurd ⟨v, hv, e⟩ h⟩
theorem xe_mix {S : XM} {u w : Nat} {x y : Int32} (h : ¬ (isU w x ∧ isU w y)) : s_mix S u w x y (-10001) S := ⟨fun _ => ⟨rfl, rfl⟩, fun i j hi hj e e' => absurd ⟨⟨i, hi, e⟩, ⟨j, hj, e'⟩⟩ h⟩
theorem xe_send {S : XM} {u : Nat} {x y : Int32} (h : ¬ (isU u x ∧ isU u y)) : s_send S u x y (-10001) S := ⟨fun _ => ⟨rfl, rfl⟩, fun i j hi hj e e' => absurd ⟨⟨i, hi, e⟩, ⟨j, hj, e'⟩⟩ h⟩
theorem xe_readL {S : XM} {u : Nat} {x : Int32} (h : ¬ isU u x) : s_readL S u x (-10001) S := ⟨fun _ => ⟨rfl, rfl⟩, fun i hi e => absurd ⟨i, hi, e⟩ h⟩
theorem xe_lose {S : XM} {u : Nat} {x : Int32} (h : ¬ isU u x) : s_lose S u x (-10001) S := ⟨fun _ => ⟨rfl, rfl⟩, fun i hi e => absurd ⟨i, hi, e⟩ h⟩
theorem xe_pass {S : XM} {u : Nat} {x y : Int32} (h : ¬ (isU u x ∧ isU u y)) : s_pass S u x y (-10001) S := ⟨fun _ => ⟨rfl, rfl⟩, fun i j hi hj e e' => absurd ⟨⟨i, hi, e⟩, ⟨j, hj, e'⟩⟩ h⟩
theorem xe_pass2 {S : XM} {u i : Nat} (hu : u ≤ 5) (hi : i < u) : s_pass S u (nI i) (nI i) (-10002) S := ⟨fun q => absurd ⟨⟨i, hi, rfl⟩, ⟨i, hi, rfl⟩⟩ q, fun a c ha hc e e' => ⟨fun _ => ⟨rfl, rfl⟩, fun q => absurd (nI_inj (by omega) (by omega) (e.symm.trans e')) q⟩⟩
set_option maxRecDepth 100000 in
set_option maxHeartbeats 8000000 in
theorem c_L_errors (l : Launch) (D : XD) (b n : Nat) {σ S : XM} {N u w : Nat} (hS : SI N S u w) (hR : RR σ S u w) (hN : N + 4 < 2 ^ 31) : xM l yL_errors cL_errors 4 (some .boolean) 5 116 0 0 D b (n) [.ref (b + 0), .int (nI u)] (xH D b σ) (n) (fun y' h' => ∃ τ : XM, y' = some (.int (nI 1)) ∧ h' = xH D b τ) := by
  refine xM.of (lv := [some (.ref (b + 0)), some (.int (nI u)), none, none]) (by decide +kernel) rfl (List.forall_mem_cons.mpr ⟨rfl, List.forall_mem_cons.mpr ⟨rfl, fun _ h => absurd h List.not_mem_nil⟩⟩) (Nat.le_of_ble_eq_true rfl) rfl ?_
  intro p e s m args below meth c hC hr hnm
  have hu := hS.1.1.2
  have hw := hS.1.2.1.2
  refine xi_sipush (v := -10001) hC dL_errors_0 (pc' := 3) rfl (by decide +kernel) ?_
  refine xi_istore_n (lv' := [some (.ref (b + 0)), some (.int (nI u)), some (.int (-10001)), none]) hC dL_errors_3 (pc' := 4) rfl rfl (by decide) rfl ?_
  refine xi_aload_n hC dL_errors_4 (pc' := 5) rfl rfl rfl ?_
  refine xi_iconst (v := nI 1) hC dL_errors_5 (pc' := 6) rfl (by decide +kernel) ?_
  refine xi_callV (As := [.int (nI 1)]) (rest := []) (c_X7_reset l D b (n) (σ := σ) (S := S) (N := N) (u := u) (w := w) hS hR (by omega) (x := (nI 1))) hC dL_errors_6 (pc' := 9) rfl xw_m_L_95 xw_c_X7_reset xw_ins_X7_reset xw_sel_X7_reset xw_ini_X7 xd_X7_reset (xH_at.trans (xsh_7 kd_0)) rfl ⟨Nat.le_of_ble_eq_true rfl, Nat.le_of_ble_eq_true rfl⟩ rfl (Nat.le_of_ble_eq_true rfl) ⟨Nat.le_of_ble_eq_true rfl, Nat.le_of_ble_eq_true rfl⟩ ?_
  rintro _ _ ⟨r1, σ2, rfl, hHσ2, hO3, rfl⟩
  obtain ⟨eσ2, hRσ2f⟩ := hO3 _ _ (xe_reset (by decide))
  have hRσ2 := hRσ2f u w hS.1.1.1 hS.1.2.1.1 (by omega) (by omega)
  obtain rfl : r1 = (-10002) := eσ2
  show xV _ _ _ _ _ _ _ _ _ _ _ _ _ _ _ _ _ (xH D b σ2) _ _ [.int (-10002)]
  refine xi_sipush (v := -10002) hC dL_errors_9 (pc' := 12) rfl (by decide +kernel) ?_
  refine xi_icmpne (tgt := 154) hC dL_errors_12 (pc' := 15) rfl (by decide) (fun zc12 => ?_) (fun zc12 => ?_)
  · exact absurd rfl zc12
  · skip
    refine xi_aload_n hC dL_errors_15 (pc' := 16) rfl rfl rfl ?_
    refine xi_bipush (v := nI 6) hC dL_errors_16 (pc' := 18) rfl (by decide +kernel) ?_
    refine xi_callV (As := [.int (nI 6)]) (rest := []) (c_X7_reset l D b (n) (σ := σ2) (S := S) (N := N) (u := u) (w := w) hS hRσ2 (by omega) (x := (nI 6))) hC dL_errors_18 (pc' := 21) rfl xw_m_L_95 xw_c_X7_reset xw_ins_X7_reset xw_sel_X7_reset xw_ini_X7 xd_X7_reset (xH_at.trans (xsh_7 kd_0)) rfl ⟨Nat.le_of_ble_eq_true rfl, Nat.le_of_ble_eq_true rfl⟩ rfl (Nat.le_of_ble_eq_true rfl) ⟨Nat.le_of_ble_eq_true rfl, Nat.le_of_ble_eq_true rfl⟩ ?_
    rintro _ _ ⟨r4, σ5, rfl, hHσ5, hO6, rfl⟩
    obtain ⟨eσ5, hRσ5f⟩ := hO6 _ _ (xe_reset (by decide))
    have hRσ5 := hRσ5f u w hS.1.1.1 hS.1.2.1.1 (by omega) (by omega)
    obtain rfl : r4 = (-10002) := eσ5
    show xV _ _ _ _ _ _ _ _ _ _ _ _ _ _ _ _ _ (xH D b σ5) _ _ [.int (-10002)]
    refine xi_sipush (v := -10002) hC dL_errors_21 (pc' := 24) rfl (by decide +kernel) ?_
    refine xi_icmpne (tgt := 154) hC dL_errors_24 (pc' := 27) rfl (by decide) (fun zc24 => ?_) (fun zc24 => ?_)
    · exact absurd rfl zc24
    · skip
      refine xi_aload_n hC dL_errors_27 (pc' := 28) rfl rfl rfl ?_
      refine xi_iload_n hC dL_errors_28 (pc' := 29) rfl rfl rfl ?_
      refine xi_iconst (v := nI 0) hC dL_errors_29 (pc' := 30) rfl (by decide +kernel) ?_
      refine xi_callV (As := [.int (nI u), .int (nI 0)]) (rest := []) (c_X7_write l D b (n) (σ := σ5) (S := S) (N := N) (u := u) (w := w) hS hRσ5 (by omega) (x := (nI u)) (y := (nI 0))) hC dL_errors_30 (pc' := 33) rfl xw_m_L_55 xw_c_X7_write xw_ins_X7_write xw_sel_X7_write xw_ini_X7 xd_X7_write (xH_at.trans (xsh_7 kd_0)) rfl ⟨Nat.le_of_ble_eq_true rfl, Nat.le_of_ble_eq_true rfl⟩ rfl (Nat.le_of_ble_eq_true rfl) ⟨Nat.le_of_ble_eq_true rfl, Nat.le_of_ble_eq_true rfl⟩ ?_
      rintro _ _ ⟨r7, σ8, rfl, hHσ8, hO9, rfl⟩
      obtain ⟨eσ8, hRσ8⟩ := hO9 _ _ (xe_write (no_U (by omega)))
      obtain rfl : r7 = (-10001) := eσ8
      show xV _ _ _ _ _ _ _ _ _ _ _ _ _ _ _ _ _ (xH D b σ8) _ _ [.int (-10001)]
      refine xi_iload_n hC dL_errors_33 (pc' := 34) rfl rfl rfl ?_
      refine xi_icmpne (tgt := 154) hC dL_errors_34 (pc' := 37) rfl (by decide) (fun zc34 => ?_) (fun zc34 => ?_)
      · exact absurd rfl zc34
      · skip
        refine xi_aload_n hC dL_errors_37 (pc' := 38) rfl rfl rfl ?_
        refine xi_iconst (v := nI 0) hC dL_errors_38 (pc' := 39) rfl (by decide +kernel) ?_
        refine xi_sipush (v := nI 1001) hC dL_errors_39 (pc' := 42) rfl (by decide +kernel) ?_
        refine xi_callV (As := [.int (nI 0), .int (nI 1001)]) (rest := []) (c_X7_write l D b (n) (σ := σ8) (S := S) (N := N) (u := u) (w := w) hS hRσ8 (by omega) (x := (nI 0)) (y := (nI 1001))) hC dL_errors_42 (pc' := 45) rfl xw_m_L_55 xw_c_X7_write xw_ins_X7_write xw_sel_X7_write xw_ini_X7 xd_X7_write (xH_at.trans (xsh_7 kd_0)) rfl ⟨Nat.le_of_ble_eq_true rfl, Nat.le_of_ble_eq_true rfl⟩ rfl (Nat.le_of_ble_eq_true rfl) ⟨Nat.le_of_ble_eq_true rfl, Nat.le_of_ble_eq_true rfl⟩ ?_
        rintro _ _ ⟨r10, σ11, rfl, hHσ11, hO12, rfl⟩
        obtain ⟨eσ11, hRσ11⟩ := hO12 _ _ (xe_write2 (by omega) (fun q => absurd q.2 (by decide)))
        obtain rfl : r10 = (-10002) := eσ11
        show xV _ _ _ _ _ _ _ _ _ _ _ _ _ _ _ _ _ (xH D b σ11) _ _ [.int (-10002)]
        refine xi_sipush (v := -10002) hC dL_errors_45 (pc' := 48) rfl (by decide +kernel) ?_
        refine xi_icmpne (tgt := 154) hC dL_errors_48 (pc' := 51) rfl (by decide) (fun zc48 => ?_) (fun zc48 => ?_)
        · exact absurd rfl zc48
        · skip
          refine xi_aload_n hC dL_errors_51 (pc' := 52) rfl rfl rfl ?_
          refine xi_iconst (v := nI 0) hC dL_errors_52 (pc' := 53) rfl (by decide +kernel) ?_
          refine xi_iload_n hC dL_errors_53 (pc' := 54) rfl rfl rfl ?_
          refine xi_callV (As := [.int (nI 0), .int (nI u)]) (rest := []) (c_X7_read l D b (n) (σ := σ11) (S := S) (N := N) (u := u) (w := w) hS hRσ11 (by omega) (x := (nI 0)) (y := (nI u))) hC dL_errors_54 (pc' := 57) rfl xw_m_L_58 xw_c_X7_read xw_ins_X7_read xw_sel_X7_read xw_ini_X7 xd_X7_read (xH_at.trans (xsh_7 kd_0)) rfl ⟨Nat.le_of_ble_eq_true rfl, Nat.le_of_ble_eq_true rfl⟩ rfl (Nat.le_of_ble_eq_true rfl) ⟨Nat.le_of_ble_eq_true rfl, Nat.le_of_ble_eq_true rfl⟩ ?_
          rintro _ _ ⟨r13, σ14, rfl, hHσ14, hO15, rfl⟩
          obtain ⟨eσ14, hRσ14⟩ := hO15 _ _ (xe_read (fun q => no_U (by omega) q.2))
          obtain rfl : r13 = (-10001) := eσ14
          show xV _ _ _ _ _ _ _ _ _ _ _ _ _ _ _ _ _ (xH D b σ14) _ _ [.int (-10001)]
          refine xi_iload_n hC dL_errors_57 (pc' := 58) rfl rfl rfl ?_
          refine xi_icmpne (tgt := 154) hC dL_errors_58 (pc' := 61) rfl (by decide) (fun zc58 => ?_) (fun zc58 => ?_)
          · exact absurd rfl zc58
          · skip
            refine xi_aload_n hC dL_errors_61 (pc' := 62) rfl rfl rfl ?_
            refine xi_iconst (v := -1) hC dL_errors_62 (pc' := 63) rfl (by decide +kernel) ?_
            refine xi_callV (As := [.int (-1)]) (rest := []) (c_X7_lastRead l D b (n) (σ := σ14) (S := S) (N := N) (u := u) (w := w) hS hRσ14 (by omega) (x := (-1))) hC dL_errors_63 (pc' := 66) rfl xw_m_L_52 xw_c_X7_lastRead xw_ins_X7_lastRead xw_sel_X7_lastRead xw_ini_X7 xd_X7_lastRead (xH_at.trans (xsh_7 kd_0)) rfl ⟨Nat.le_of_ble_eq_true rfl, Nat.le_of_ble_eq_true rfl⟩ rfl (Nat.le_of_ble_eq_true rfl) ⟨Nat.le_of_ble_eq_true rfl, Nat.le_of_ble_eq_true rfl⟩ ?_
            rintro _ _ ⟨r16, rfl, hO17, rfl⟩
            obtain rfl : r16 = (-10001) := hO17 _ (sl_no (no_m1 (by omega)))
            show xV _ _ _ _ _ _ _ _ _ _ _ _ _ _ _ _ _ (xH D b σ14) _ _ [.int (-10001)]
            refine xi_iload_n hC dL_errors_66 (pc' := 67) rfl rfl rfl ?_
            refine xi_icmpne (tgt := 154) hC dL_errors_67 (pc' := 70) rfl (by decide) (fun zc67 => ?_) (fun zc67 => ?_)
            · exact absurd rfl zc67
            · skip
              refine xi_aload_n hC dL_errors_70 (pc' := 71) rfl rfl rfl ?_
              refine xi_iload_n hC dL_errors_71 (pc' := 72) rfl rfl rfl ?_
              refine xi_callV (As := [.int (nI u)]) (rest := []) (c_X7_check l D b (n) (σ := σ14) (S := S) (N := N) (u := u) (w := w) hS hRσ14 (by omega) (x := (nI u))) hC dL_errors_72 (pc' := 75) rfl xw_m_L_36 xw_c_X7_check xw_ins_X7_check xw_sel_X7_check xw_ini_X7 xd_X7_check (xH_at.trans (xsh_7 kd_0)) rfl ⟨Nat.le_of_ble_eq_true rfl, Nat.le_of_ble_eq_true rfl⟩ rfl (Nat.le_of_ble_eq_true rfl) ⟨Nat.le_of_ble_eq_true rfl, Nat.le_of_ble_eq_true rfl⟩ ?_
              rintro _ _ ⟨r18, rfl, hO19, rfl⟩
              obtain rfl : r18 = (-10001) := hO19 _ _ (sk_no (no_U (by omega)))
              show xV _ _ _ _ _ _ _ _ _ _ _ _ _ _ _ _ _ (xH D b σ14) _ _ [.int (-10001)]
              refine xi_iload_n hC dL_errors_75 (pc' := 76) rfl rfl rfl ?_
              refine xi_icmpne (tgt := 154) hC dL_errors_76 (pc' := 79) rfl (by decide) (fun zc76 => ?_) (fun zc76 => ?_)
              · exact absurd rfl zc76
              · skip
                refine xi_aload_n hC dL_errors_79 (pc' := 80) rfl rfl rfl ?_
                refine xi_iconst (v := -1) hC dL_errors_80 (pc' := 81) rfl (by decide +kernel) ?_
                refine xi_iconst (v := nI 1) hC dL_errors_81 (pc' := 82) rfl (by decide +kernel) ?_
                refine xi_callV (As := [.int (-1), .int (nI 1)]) (rest := []) (c_X7_fork l D b (n) (σ := σ14) (S := S) (N := N) (u := u) (w := w) hS hRσ14 (by omega) (x := (-1)) (y := (nI 1))) hC dL_errors_82 (pc' := 85) rfl xw_m_L_69 xw_c_X7_fork xw_ins_X7_fork xw_sel_X7_fork xw_ini_X7 xd_X7_fork (xH_at.trans (xsh_7 kd_0)) rfl ⟨Nat.le_of_ble_eq_true rfl, Nat.le_of_ble_eq_true rfl⟩ rfl (Nat.le_of_ble_eq_true rfl) ⟨Nat.le_of_ble_eq_true rfl, Nat.le_of_ble_eq_true rfl⟩ ?_
                rintro _ _ ⟨r20, σ21, rfl, hHσ21, hO22, rfl⟩
                obtain ⟨eσ21, hRσ21f⟩ := hO22 _ _ (xe_fork (no_m1 (by omega)))
                have hRσ21 := hRσ21f w hS.1.2.1.1 (by omega)
                obtain rfl : r20 = (-10001) := eσ21
                show xV _ _ _ _ _ _ _ _ _ _ _ _ _ _ _ _ _ (xH D b σ21) _ _ [.int (-10001)]
                refine xi_iload_n hC dL_errors_85 (pc' := 86) rfl rfl rfl ?_
                refine xi_icmpne (tgt := 154) hC dL_errors_86 (pc' := 89) rfl (by decide) (fun zc86 => ?_) (fun zc86 => ?_)
                · exact absurd rfl zc86
                · skip
                  refine xi_aload_n hC dL_errors_89 (pc' := 90) rfl rfl rfl ?_
                  refine xi_iconst (v := nI 0) hC dL_errors_90 (pc' := 91) rfl (by decide +kernel) ?_
                  refine xi_bipush (v := nI 6) hC dL_errors_91 (pc' := 93) rfl (by decide +kernel) ?_
                  refine xi_callV (As := [.int (nI 0), .int (nI 6)]) (rest := []) (c_X7_mix l D b (n) (σ := σ21) (S := S) (N := N) (u := u) (w := w) hS hRσ21 (by omega) (x := (nI 0)) (y := (nI 6))) hC dL_errors_93 (pc' := 96) rfl xw_m_L_78 xw_c_X7_mix xw_ins_X7_mix xw_sel_X7_mix xw_ini_X7 xd_X7_mix (xH_at.trans (xsh_7 kd_0)) rfl ⟨Nat.le_of_ble_eq_true rfl, Nat.le_of_ble_eq_true rfl⟩ rfl (Nat.le_of_ble_eq_true rfl) ⟨Nat.le_of_ble_eq_true rfl, Nat.le_of_ble_eq_true rfl⟩ ?_
                  rintro _ _ ⟨r23, σ24, rfl, hHσ24, hO25, rfl⟩
                  obtain ⟨eσ24, hRσ24⟩ := hO25 _ _ (xe_mix (fun q => no_ge (by omega) (by decide) q.2))
                  obtain rfl : r23 = (-10001) := eσ24
                  show xV _ _ _ _ _ _ _ _ _ _ _ _ _ _ _ _ _ (xH D b σ24) _ _ [.int (-10001)]
                  refine xi_iload_n hC dL_errors_96 (pc' := 97) rfl rfl rfl ?_
                  refine xi_icmpne (tgt := 154) hC dL_errors_97 (pc' := 100) rfl (by decide) (fun zc97 => ?_) (fun zc97 => ?_)
                  · exact absurd rfl zc97
                  · skip
                    refine xi_aload_n hC dL_errors_100 (pc' := 101) rfl rfl rfl ?_
                    refine xi_iconst (v := nI 0) hC dL_errors_101 (pc' := 102) rfl (by decide +kernel) ?_
                    refine xi_iload_n hC dL_errors_102 (pc' := 103) rfl rfl rfl ?_
                    refine xi_callV (As := [.int (nI 0), .int (nI u)]) (rest := []) (c_X7_sendLetter l D b (n) (σ := σ24) (S := S) (N := N) (u := u) (w := w) hS hRσ24 (by omega) (x := (nI 0)) (y := (nI u))) hC dL_errors_103 (pc' := 106) rfl xw_m_L_60 xw_c_X7_sendLetter xw_ins_X7_sendLetter xw_sel_X7_sendLetter xw_ini_X7 xd_X7_sendLetter (xH_at.trans (xsh_7 kd_0)) rfl ⟨Nat.le_of_ble_eq_true rfl, Nat.le_of_ble_eq_true rfl⟩ rfl (Nat.le_of_ble_eq_true rfl) ⟨Nat.le_of_ble_eq_true rfl, Nat.le_of_ble_eq_true rfl⟩ ?_
                    rintro _ _ ⟨r26, σ27, rfl, hHσ27, hO28, rfl⟩
                    obtain ⟨eσ27, hRσ27⟩ := hO28 _ _ (xe_send (fun q => no_U (by omega) q.2))
                    obtain rfl : r26 = (-10001) := eσ27
                    show xV _ _ _ _ _ _ _ _ _ _ _ _ _ _ _ _ _ (xH D b σ27) _ _ [.int (-10001)]
                    refine xi_iload_n hC dL_errors_106 (pc' := 107) rfl rfl rfl ?_
                    refine xi_icmpne (tgt := 154) hC dL_errors_107 (pc' := 110) rfl (by decide) (fun zc107 => ?_) (fun zc107 => ?_)
                    · exact absurd rfl zc107
                    · skip
                      refine xi_aload_n hC dL_errors_110 (pc' := 111) rfl rfl rfl ?_
                      refine xi_iload_n hC dL_errors_111 (pc' := 112) rfl rfl rfl ?_
                      refine xi_callV (As := [.int (nI u)]) (rest := []) (c_X7_readLetter l D b (n) (σ := σ27) (S := S) (N := N) (u := u) (w := w) hS hRσ27 (by omega) (x := (nI u))) hC dL_errors_112 (pc' := 115) rfl xw_m_L_66 xw_c_X7_readLetter xw_ins_X7_readLetter xw_sel_X7_readLetter xw_ini_X7 xd_X7_readLetter (xH_at.trans (xsh_7 kd_0)) rfl ⟨Nat.le_of_ble_eq_true rfl, Nat.le_of_ble_eq_true rfl⟩ rfl (Nat.le_of_ble_eq_true rfl) ⟨Nat.le_of_ble_eq_true rfl, Nat.le_of_ble_eq_true rfl⟩ ?_
                      rintro _ _ ⟨r29, σ30, rfl, hHσ30, hO31, rfl⟩
                      obtain ⟨eσ30, hRσ30⟩ := hO31 _ _ (xe_readL (no_U (by omega)))
                      obtain rfl : r29 = (-10001) := eσ30
                      show xV _ _ _ _ _ _ _ _ _ _ _ _ _ _ _ _ _ (xH D b σ30) _ _ [.int (-10001)]
                      refine xi_iload_n hC dL_errors_115 (pc' := 116) rfl rfl rfl ?_
                      refine xi_icmpne (tgt := 154) hC dL_errors_116 (pc' := 119) rfl (by decide) (fun zc116 => ?_) (fun zc116 => ?_)
                      · exact absurd rfl zc116
                      · skip
                        refine xi_aload_n hC dL_errors_119 (pc' := 120) rfl rfl rfl ?_
                        refine xi_iconst (v := -1) hC dL_errors_120 (pc' := 121) rfl (by decide +kernel) ?_
                        refine xi_callV (As := [.int (-1)]) (rest := []) (c_X7_loseLetter l D b (n) (σ := σ30) (S := S) (N := N) (u := u) (w := w) hS hRσ30 (by omega) (x := (-1))) hC dL_errors_121 (pc' := 124) rfl xw_m_L_63 xw_c_X7_loseLetter xw_ins_X7_loseLetter xw_sel_X7_loseLetter xw_ini_X7 xd_X7_loseLetter (xH_at.trans (xsh_7 kd_0)) rfl ⟨Nat.le_of_ble_eq_true rfl, Nat.le_of_ble_eq_true rfl⟩ rfl (Nat.le_of_ble_eq_true rfl) ⟨Nat.le_of_ble_eq_true rfl, Nat.le_of_ble_eq_true rfl⟩ ?_
                        rintro _ _ ⟨r32, σ33, rfl, hHσ33, hO34, rfl⟩
                        obtain ⟨eσ33, hRσ33⟩ := hO34 _ _ (xe_lose (no_m1 (by omega)))
                        obtain rfl : r32 = (-10001) := eσ33
                        show xV _ _ _ _ _ _ _ _ _ _ _ _ _ _ _ _ _ (xH D b σ33) _ _ [.int (-10001)]
                        refine xi_iload_n hC dL_errors_124 (pc' := 125) rfl rfl rfl ?_
                        refine xi_icmpne (tgt := 154) hC dL_errors_125 (pc' := 128) rfl (by decide) (fun zc125 => ?_) (fun zc125 => ?_)
                        · exact absurd rfl zc125
                        · skip
                          refine xi_aload_n hC dL_errors_128 (pc' := 129) rfl rfl rfl ?_
                          refine xi_iload_n hC dL_errors_129 (pc' := 130) rfl rfl rfl ?_
                          refine xi_iconst (v := nI 0) hC dL_errors_130 (pc' := 131) rfl (by decide +kernel) ?_
                          refine xi_callV (As := [.int (nI u), .int (nI 0)]) (rest := []) (c_X7_passProof l D b (n) (σ := σ33) (S := S) (N := N) (u := u) (w := w) hS hRσ33 (by omega) (x := (nI u)) (y := (nI 0))) hC dL_errors_131 (pc' := 134) rfl xw_m_L_98 xw_c_X7_passProof xw_ins_X7_passProof xw_sel_X7_passProof xw_ini_X7 xd_X7_passProof (xH_at.trans (xsh_7 kd_0)) rfl ⟨Nat.le_of_ble_eq_true rfl, Nat.le_of_ble_eq_true rfl⟩ rfl (Nat.le_of_ble_eq_true rfl) ⟨Nat.le_of_ble_eq_true rfl, Nat.le_of_ble_eq_true rfl⟩ ?_
                          rintro _ _ ⟨r35, σ36, rfl, hHσ36, hO37, rfl⟩
                          obtain ⟨eσ36, hRσ36⟩ := hO37 _ _ (xe_pass (fun q => no_U (by omega) q.1))
                          obtain rfl : r35 = (-10001) := eσ36
                          show xV _ _ _ _ _ _ _ _ _ _ _ _ _ _ _ _ _ (xH D b σ36) _ _ [.int (-10001)]
                          refine xi_iload_n hC dL_errors_134 (pc' := 135) rfl rfl rfl ?_
                          refine xi_icmpne (tgt := 154) hC dL_errors_135 (pc' := 138) rfl (by decide) (fun zc135 => ?_) (fun zc135 => ?_)
                          · exact absurd rfl zc135
                          · skip
                            refine xi_aload_n hC dL_errors_138 (pc' := 139) rfl rfl rfl ?_
                            refine xi_iconst (v := nI 0) hC dL_errors_139 (pc' := 140) rfl (by decide +kernel) ?_
                            refine xi_iconst (v := nI 0) hC dL_errors_140 (pc' := 141) rfl (by decide +kernel) ?_
                            refine xi_callV (As := [.int (nI 0), .int (nI 0)]) (rest := []) (c_X7_passProof l D b (n) (σ := σ36) (S := S) (N := N) (u := u) (w := w) hS hRσ36 (by omega) (x := (nI 0)) (y := (nI 0))) hC dL_errors_141 (pc' := 144) rfl xw_m_L_98 xw_c_X7_passProof xw_ins_X7_passProof xw_sel_X7_passProof xw_ini_X7 xd_X7_passProof (xH_at.trans (xsh_7 kd_0)) rfl ⟨Nat.le_of_ble_eq_true rfl, Nat.le_of_ble_eq_true rfl⟩ rfl (Nat.le_of_ble_eq_true rfl) ⟨Nat.le_of_ble_eq_true rfl, Nat.le_of_ble_eq_true rfl⟩ ?_
                            rintro _ _ ⟨r38, σ39, rfl, hHσ39, hO40, rfl⟩
                            obtain ⟨eσ39, hRσ39⟩ := hO40 _ _ (xe_pass2 (by omega) (by omega))
                            obtain rfl : r38 = (-10002) := eσ39
                            show xV _ _ _ _ _ _ _ _ _ _ _ _ _ _ _ _ _ (xH D b σ39) _ _ [.int (-10002)]
                            refine xi_sipush (v := -10002) hC dL_errors_144 (pc' := 147) rfl (by decide +kernel) ?_
                            refine xi_icmpne (tgt := 154) hC dL_errors_147 (pc' := 150) rfl (by decide) (fun zc147 => ?_) (fun zc147 => ?_)
                            · exact absurd rfl zc147
                            · skip
                              refine xi_iconst (v := nI 1) hC dL_errors_150 (pc' := 151) rfl (by decide +kernel) ?_
                              refine xi_goto (tgt := 155) hC dL_errors_151 (by decide) ?_
                              refine xi_istore_n (lv' := [some (.ref (b + 0)), some (.int (nI u)), some (.int (-10001)), some (.int (nI 1))]) hC dL_errors_155 (pc' := 156) rfl rfl (by decide) rfl ?_
                              refine xi_iload_n hC dL_errors_156 (pc' := 157) rfl rfl rfl ?_
                              refine xn_ifeq (tgt := 266) hC dL_errors_157 (pc' := 160) rfl (by decide) (by omega) (fun zc157 => ?_) (fun zc157 => ?_)
                              · exact absurd zc157 (by decide)
                              · skip
                                refine xi_aload_n hC dL_errors_160 (pc' := 161) rfl rfl rfl ?_
                                refine xi_iload_n hC dL_errors_161 (pc' := 162) rfl rfl rfl ?_
                                refine xi_bipush (v := nI 9) hC dL_errors_162 (pc' := 164) rfl (by decide +kernel) ?_
                                refine xi_callV (As := [.int (nI u), .int (nI 9)]) (rest := []) (c_X7_user l D b (n) (σ := σ39) (S := S) (N := N) (u := u) (w := w) hS hRσ39 (by omega) (x := (nI u)) (y := (nI 9))) hC dL_errors_164 (pc' := 167) rfl xw_m_L_18 xw_c_X7_user xw_ins_X7_user xw_sel_X7_user xw_ini_X7 xd_X7_user (xH_at.trans (xsh_7 kd_0)) rfl ⟨Nat.le_of_ble_eq_true rfl, Nat.le_of_ble_eq_true rfl⟩ rfl (Nat.le_of_ble_eq_true rfl) ⟨Nat.le_of_ble_eq_true rfl, Nat.le_of_ble_eq_true rfl⟩ ?_
                                rintro _ _ ⟨r41, rfl, hO42, rfl⟩
                                obtain rfl : r41 = (-10001) := hO42 _ (su_no (no_U (by omega)))
                                show xV _ _ _ _ _ _ _ _ _ _ _ _ _ _ _ _ _ (xH D b σ39) _ _ [.int (-10001)]
                                refine xi_iload_n hC dL_errors_167 (pc' := 168) rfl rfl rfl ?_
                                refine xi_icmpne (tgt := 266) hC dL_errors_168 (pc' := 171) rfl (by decide) (fun zc168 => ?_) (fun zc168 => ?_)
                                · exact absurd rfl zc168
                                · skip
                                  refine xi_aload_n hC dL_errors_171 (pc' := 172) rfl rfl rfl ?_
                                  refine xi_iconst (v := nI 0) hC dL_errors_172 (pc' := 173) rfl (by decide +kernel) ?_
                                  refine xi_iconst (v := nI 0) hC dL_errors_173 (pc' := 174) rfl (by decide +kernel) ?_
                                  refine xi_iload_n hC dL_errors_174 (pc' := 175) rfl rfl rfl ?_
                                  refine xi_callV (As := [.int (nI 0), .int (nI 0), .int (nI u)]) (rest := []) (c_X7_vector l D b (n) (σ := σ39) (S := S) (N := N) (u := u) (w := w) hS hRσ39 (by omega) (x := (nI 0)) (y := (nI 0)) (z := (nI u))) hC dL_errors_175 (pc' := 178) rfl xw_m_L_9 xw_c_X7_vector xw_ins_X7_vector xw_sel_X7_vector xw_ini_X7 xd_X7_vector (xH_at.trans (xsh_7 kd_0)) rfl ⟨Nat.le_of_ble_eq_true rfl, Nat.le_of_ble_eq_true rfl⟩ rfl (Nat.le_of_ble_eq_true rfl) ⟨Nat.le_of_ble_eq_true rfl, Nat.le_of_ble_eq_true rfl⟩ ?_
                                  rintro _ _ ⟨r43, rfl, hO44, rfl⟩
                                  obtain rfl : r43 = (-10001) := hO44 _ (sv_no (no_U (by omega)))
                                  show xV _ _ _ _ _ _ _ _ _ _ _ _ _ _ _ _ _ (xH D b σ39) _ _ [.int (-10001)]
                                  refine xi_iload_n hC dL_errors_178 (pc' := 179) rfl rfl rfl ?_
                                  refine xi_icmpne (tgt := 266) hC dL_errors_179 (pc' := 182) rfl (by decide) (fun zc179 => ?_) (fun zc179 => ?_)
                                  · exact absurd rfl zc179
                                  · skip
                                    refine xi_aload_n hC dL_errors_182 (pc' := 183) rfl rfl rfl ?_
                                    refine xi_iconst (v := nI 0) hC dL_errors_183 (pc' := 184) rfl (by decide +kernel) ?_
                                    refine xi_iconst (v := nI 4) hC dL_errors_184 (pc' := 185) rfl (by decide +kernel) ?_
                                    refine xi_iconst (v := nI 0) hC dL_errors_185 (pc' := 186) rfl (by decide +kernel) ?_
                                    refine xi_callV (As := [.int (nI 0), .int (nI 4), .int (nI 0)]) (rest := []) (c_X7_vector l D b (n) (σ := σ39) (S := S) (N := N) (u := u) (w := w) hS hRσ39 (by omega) (x := (nI 0)) (y := (nI 4)) (z := (nI 0))) hC dL_errors_186 (pc' := 189) rfl xw_m_L_9 xw_c_X7_vector xw_ins_X7_vector xw_sel_X7_vector xw_ini_X7 xd_X7_vector (xH_at.trans (xsh_7 kd_0)) rfl ⟨Nat.le_of_ble_eq_true rfl, Nat.le_of_ble_eq_true rfl⟩ rfl (Nat.le_of_ble_eq_true rfl) ⟨Nat.le_of_ble_eq_true rfl, Nat.le_of_ble_eq_true rfl⟩ ?_
                                    rintro _ _ ⟨r45, rfl, hO46, rfl⟩
                                    obtain rfl : r45 = (-10002) := hO46 _ (sv_bad (by omega) (by omega) (by omega))
                                    show xV _ _ _ _ _ _ _ _ _ _ _ _ _ _ _ _ _ (xH D b σ39) _ _ [.int (-10002)]
                                    refine xi_sipush (v := -10002) hC dL_errors_189 (pc' := 192) rfl (by decide +kernel) ?_
                                    refine xi_icmpne (tgt := 266) hC dL_errors_192 (pc' := 195) rfl (by decide) (fun zc192 => ?_) (fun zc192 => ?_)
                                    · exact absurd rfl zc192
                                    · skip
                                      refine xi_aload_n hC dL_errors_195 (pc' := 196) rfl rfl rfl ?_
                                      refine xi_iconst (v := nI 0) hC dL_errors_196 (pc' := 197) rfl (by decide +kernel) ?_
                                      refine xi_iload_n hC dL_errors_197 (pc' := 198) rfl rfl rfl ?_
                                      refine xi_iconst (v := nI 0) hC dL_errors_198 (pc' := 199) rfl (by decide +kernel) ?_
                                      refine xi_callV (As := [.int (nI 0), .int (nI u), .int (nI 0)]) (rest := []) (c_X7_entry l D b (n) (σ := σ39) (S := S) (N := N) (u := u) (w := w) hS hRσ39 (by omega) (x := (nI 0)) (y := (nI u)) (z := (nI 0))) hC dL_errors_199 (pc' := 202) rfl xw_m_L_15 xw_c_X7_entry xw_ins_X7_entry xw_sel_X7_entry xw_ini_X7 xd_X7_entry (xH_at.trans (xsh_7 kd_0)) rfl ⟨Nat.le_of_ble_eq_true rfl, Nat.le_of_ble_eq_true rfl⟩ rfl (Nat.le_of_ble_eq_true rfl) ⟨Nat.le_of_ble_eq_true rfl, Nat.le_of_ble_eq_true rfl⟩ ?_
                                      rintro _ _ ⟨r47, rfl, hO48, rfl⟩
                                      obtain rfl : r47 = (-10001) := hO48 _ (se_no (fun q => no_U (by omega) q.2.1))
                                      show xV _ _ _ _ _ _ _ _ _ _ _ _ _ _ _ _ _ (xH D b σ39) _ _ [.int (-10001)]
                                      refine xi_iload_n hC dL_errors_202 (pc' := 203) rfl rfl rfl ?_
                                      refine xi_icmpne (tgt := 266) hC dL_errors_203 (pc' := 206) rfl (by decide) (fun zc203 => ?_) (fun zc203 => ?_)
                                      · exact absurd rfl zc203
                                      · skip
                                        refine xi_aload_n hC dL_errors_206 (pc' := 207) rfl rfl rfl ?_
                                        refine xi_bipush (v := nI 6) hC dL_errors_207 (pc' := 209) rfl (by decide +kernel) ?_
                                        refine xi_iconst (v := nI 0) hC dL_errors_209 (pc' := 210) rfl (by decide +kernel) ?_
                                        refine xi_iconst (v := nI 0) hC dL_errors_210 (pc' := 211) rfl (by decide +kernel) ?_
                                        refine xi_callV (As := [.int (nI 6), .int (nI 0), .int (nI 0)]) (rest := []) (c_X7_entry l D b (n) (σ := σ39) (S := S) (N := N) (u := u) (w := w) hS hRσ39 (by omega) (x := (nI 6)) (y := (nI 0)) (z := (nI 0))) hC dL_errors_211 (pc' := 214) rfl xw_m_L_15 xw_c_X7_entry xw_ins_X7_entry xw_sel_X7_entry xw_ini_X7 xd_X7_entry (xH_at.trans (xsh_7 kd_0)) rfl ⟨Nat.le_of_ble_eq_true rfl, Nat.le_of_ble_eq_true rfl⟩ rfl (Nat.le_of_ble_eq_true rfl) ⟨Nat.le_of_ble_eq_true rfl, Nat.le_of_ble_eq_true rfl⟩ ?_
                                        rintro _ _ ⟨r49, rfl, hO50, rfl⟩
                                        obtain rfl : r49 = (-10001) := hO50 _ (se_no (fun q => no_ge (by omega) (by decide) q.1))
                                        show xV _ _ _ _ _ _ _ _ _ _ _ _ _ _ _ _ _ (xH D b σ39) _ _ [.int (-10001)]
                                        refine xi_iload_n hC dL_errors_214 (pc' := 215) rfl rfl rfl ?_
                                        refine xi_icmpne (tgt := 266) hC dL_errors_215 (pc' := 218) rfl (by decide) (fun zc215 => ?_) (fun zc215 => ?_)
                                        · exact absurd rfl zc215
                                        · skip
                                          refine xi_aload_n hC dL_errors_218 (pc' := 219) rfl rfl rfl ?_
                                          refine xi_iconst (v := nI 0) hC dL_errors_219 (pc' := 220) rfl (by decide +kernel) ?_
                                          refine xi_iconst (v := -1) hC dL_errors_220 (pc' := 221) rfl (by decide +kernel) ?_
                                          refine xi_callV (As := [.int (nI 0), .int (-1)]) (rest := []) (c_X7_content l D b (n) (σ := σ39) (S := S) (N := N) (u := u) (w := w) hS hRσ39 (by omega) (x := (nI 0)) (y := (-1))) hC dL_errors_221 (pc' := 224) rfl xw_m_L_49 xw_c_X7_content xw_ins_X7_content xw_sel_X7_content xw_ini_X7 xd_X7_content (xH_at.trans (xsh_7 kd_0)) rfl ⟨Nat.le_of_ble_eq_true rfl, Nat.le_of_ble_eq_true rfl⟩ rfl (Nat.le_of_ble_eq_true rfl) ⟨Nat.le_of_ble_eq_true rfl, Nat.le_of_ble_eq_true rfl⟩ ?_
                                          rintro _ _ ⟨r51, rfl, hO52, rfl⟩
                                          obtain rfl : r51 = (-10001) := hO52 _ (so_no (fun q => no_m1 (by omega) q.2))
                                          show xV _ _ _ _ _ _ _ _ _ _ _ _ _ _ _ _ _ (xH D b σ39) _ _ [.int (-10001)]
                                          refine xi_iload_n hC dL_errors_224 (pc' := 225) rfl rfl rfl ?_
                                          refine xi_icmpne (tgt := 266) hC dL_errors_225 (pc' := 228) rfl (by decide) (fun zc225 => ?_) (fun zc225 => ?_)
                                          · exact absurd rfl zc225
                                          · skip
                                            refine xi_aload_n hC dL_errors_228 (pc' := 229) rfl rfl rfl ?_
                                            refine xi_bipush (v := nI 6) hC dL_errors_229 (pc' := 231) rfl (by decide +kernel) ?_
                                            refine xi_iconst (v := nI 0) hC dL_errors_231 (pc' := 232) rfl (by decide +kernel) ?_
                                            refine xi_callV (As := [.int (nI 6), .int (nI 0)]) (rest := []) (c_X7_view l D b (n) (σ := σ39) (S := S) (N := N) (u := u) (w := w) hS hRσ39 (by omega) (x := (nI 6)) (y := (nI 0))) hC dL_errors_232 (pc' := 235) rfl xw_m_L_43 xw_c_X7_view xw_ins_X7_view xw_sel_X7_view xw_ini_X7 xd_X7_view (xH_at.trans (xsh_7 kd_0)) rfl ⟨Nat.le_of_ble_eq_true rfl, Nat.le_of_ble_eq_true rfl⟩ rfl (Nat.le_of_ble_eq_true rfl) ⟨Nat.le_of_ble_eq_true rfl, Nat.le_of_ble_eq_true rfl⟩ ?_
                                            rintro _ _ ⟨r53, rfl, hO54, rfl⟩
                                            obtain rfl : r53 = (-10001) := hO54 _ _ (sw_no (no_ge (by omega) (by decide)))
                                            show xV _ _ _ _ _ _ _ _ _ _ _ _ _ _ _ _ _ (xH D b σ39) _ _ [.int (-10001)]
                                            refine xi_iload_n hC dL_errors_235 (pc' := 236) rfl rfl rfl ?_
                                            refine xi_icmpne (tgt := 266) hC dL_errors_236 (pc' := 239) rfl (by decide) (fun zc236 => ?_) (fun zc236 => ?_)
                                            · exact absurd rfl zc236
                                            · skip
                                              refine xi_aload_n hC dL_errors_239 (pc' := 240) rfl rfl rfl ?_
                                              refine xi_iconst (v := nI 0) hC dL_errors_240 (pc' := 241) rfl (by decide +kernel) ?_
                                              refine xi_iconst (v := nI 4) hC dL_errors_241 (pc' := 242) rfl (by decide +kernel) ?_
                                              refine xi_callV (As := [.int (nI 0), .int (nI 4)]) (rest := []) (c_X7_view l D b (n) (σ := σ39) (S := S) (N := N) (u := u) (w := w) hS hRσ39 (by omega) (x := (nI 0)) (y := (nI 4))) hC dL_errors_242 (pc' := 245) rfl xw_m_L_43 xw_c_X7_view xw_ins_X7_view xw_sel_X7_view xw_ini_X7 xd_X7_view (xH_at.trans (xsh_7 kd_0)) rfl ⟨Nat.le_of_ble_eq_true rfl, Nat.le_of_ble_eq_true rfl⟩ rfl (Nat.le_of_ble_eq_true rfl) ⟨Nat.le_of_ble_eq_true rfl, Nat.le_of_ble_eq_true rfl⟩ ?_
                                              rintro _ _ ⟨r55, rfl, hO56, rfl⟩
                                              obtain rfl : r55 = (-10002) := hO56 _ _ (sw_bad (by omega))
                                              show xV _ _ _ _ _ _ _ _ _ _ _ _ _ _ _ _ _ (xH D b σ39) _ _ [.int (-10002)]
                                              refine xi_sipush (v := -10002) hC dL_errors_245 (pc' := 248) rfl (by decide +kernel) ?_
                                              refine xi_icmpne (tgt := 266) hC dL_errors_248 (pc' := 251) rfl (by decide) (fun zc248 => ?_) (fun zc248 => ?_)
                                              · exact absurd rfl zc248
                                              · skip
                                                refine xi_aload_n hC dL_errors_251 (pc' := 252) rfl rfl rfl ?_
                                                refine xi_iconst (v := nI 0) hC dL_errors_252 (pc' := 253) rfl (by decide +kernel) ?_
                                                refine xi_iload_n hC dL_errors_253 (pc' := 254) rfl rfl rfl ?_
                                                refine xi_iconst (v := nI 1) hC dL_errors_254 (pc' := 255) rfl (by decide +kernel) ?_
                                                refine xi_callV (As := [.int (nI 0), .int (nI u), .int (nI 1)]) (rest := []) (c_X7_compare l D b (n) (σ := σ39) (S := S) (N := N) (u := u) (w := w) hS hRσ39 (by omega) (x := (nI 0)) (y := (nI u)) (z := (nI 1))) hC dL_errors_255 (pc' := 258) rfl xw_m_L_81 xw_c_X7_compare xw_ins_X7_compare xw_sel_X7_compare xw_ini_X7 xd_X7_compare (xH_at.trans (xsh_7 kd_0)) rfl ⟨Nat.le_of_ble_eq_true rfl, Nat.le_of_ble_eq_true rfl⟩ rfl (Nat.le_of_ble_eq_true rfl) ⟨Nat.le_of_ble_eq_true rfl, Nat.le_of_ble_eq_true rfl⟩ ?_
                                                rintro _ _ ⟨r57, rfl, hO58, rfl⟩
                                                obtain rfl : r57 = (-10001) := hO58 _ (sp_no (fun q => no_U (by omega) q.2))
                                                show xV _ _ _ _ _ _ _ _ _ _ _ _ _ _ _ _ _ (xH D b σ39) _ _ [.int (-10001)]
                                                refine xi_iload_n hC dL_errors_258 (pc' := 259) rfl rfl rfl ?_
                                                refine xi_icmpne (tgt := 266) hC dL_errors_259 (pc' := 262) rfl (by decide) (fun zc259 => ?_) (fun zc259 => ?_)
                                                · exact absurd rfl zc259
                                                · skip
                                                  refine xi_iconst (v := nI 1) hC dL_errors_262 (pc' := 263) rfl (by decide +kernel) ?_
                                                  refine xi_goto (tgt := 267) hC dL_errors_263 (by decide) ?_
                                                  refine xb_ireturn hC dL_errors_267 hr (by decide) rfl ?_
                                                  exact ⟨σ39, rfl, rfl⟩
