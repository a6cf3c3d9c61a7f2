/-! ===== p29: letters ===== -/
set_option maxRecDepth 100000 in
set_option maxHeartbeats 8000000 in
theorem c_L_letters (l : Launch) (D : XD) (b k : Nat) {σ S : XM} {N u w : Nat} (hS : SI N S u w) (hR : RR σ S u w) (hJ : JJ N S u) (hN : N + 4 < 2 ^ 31) {i j : Nat} {g : Int32} (hi : i < u) (hj : j < u) (hk : 585 ≤ k) : xM l yL_letters cL_letters 14 (some .boolean) 4 89 2 16 D b (b + k) [.ref (b + 0), .int (nI i), .int (nI j), .int (nI u), .int g] (xH D b σ) (b + (k + 2)) (fun y' h' => ∃ τ T : XM, y' = some (.int (nI 1)) ∧ SI (N + 1) T u w ∧ RR τ T u w ∧ JJ (N + 1) T u ∧ h' = xH D b τ) := by
  refine xM.of (lv := [some (.ref (b + 0)), some (.int (nI i)), some (.int (nI j)), some (.int (nI u)), some (.int g), none, none, none, none, none, none, none, none, none]) (by decide +kernel) rfl (List.forall_mem_cons.mpr ⟨rfl, List.forall_mem_cons.mpr ⟨rfl, List.forall_mem_cons.mpr ⟨rfl, List.forall_mem_cons.mpr ⟨rfl, List.forall_mem_cons.mpr ⟨rfl, fun _ h => absurd h List.not_mem_nil⟩⟩⟩⟩⟩) (Nat.le_of_ble_eq_true rfl) rfl ?_
  intro p e s m args below meth c hC hr hnm
  have hu := hS.1.1.2
  have hw := hS.1.2.1.2
  obtain ⟨z, hz4, hZl⟩ := hS.1.2.2.2.2.1 j (by omega)
  refine xi_bipush (v := nI 8) hC dL_letters_0 (pc' := 2) rfl (by decide +kernel) ?_
  refine xn_L (k0 := k) (N := 8) hC dL_letters_2 (pc' := 4) rfl rfl (by omega) (by decide) rfl ⟨Nat.le_of_ble_eq_true rfl, Nat.le_of_ble_eq_true rfl⟩ ?_
  have hlσ1 : su σ k (zL 8) k 4096 = nI 8 := by rw [su_s]; exact zL_len
  have heσ1 : ∀ o, o ≠ k → su σ k (zL 8) o = σ o := fun o ho => su_n ho
  generalize su σ k (zL 8) = σ1 at hlσ1 heσ1 ⊢
  have hRσ1 := hR.hi (by omega) (fun o ho => heσ1 o (by omega))
  refine xi_astore (lv' := [some (.ref (b + 0)), some (.int (nI i)), some (.int (nI j)), some (.int (nI u)), some (.int g), some (.ref (b + k)), none, none, none, none, none, none, none, none]) hC dL_letters_4 (pc' := 6) rfl (by decide) rfl ?_
  refine xi_bipush (v := nI 8) hC dL_letters_6 (pc' := 8) rfl (by decide +kernel) ?_
  refine xn_L (k0 := (k + 1)) (N := 8) hC dL_letters_8 (pc' := 10) rfl rfl (by omega) (by decide) rfl ⟨Nat.le_of_ble_eq_true rfl, Nat.le_of_ble_eq_true rfl⟩ ?_
  have hlσ2 : su σ1 (k + 1) (zL 8) (k + 1) 4096 = nI 8 := by rw [su_s]; exact zL_len
  have heσ2 : ∀ o, o ≠ (k + 1) → su σ1 (k + 1) (zL 8) o = σ1 o := fun o ho => su_n ho
  generalize su σ1 (k + 1) (zL 8) = σ2 at hlσ2 heσ2 ⊢
  have hRσ2 := hRσ1.hi (by omega) (fun o ho => heσ2 o (by omega))
  have hlσ2_k : σ2 k 4096 = nI 8 := by rw [heσ2 k (by omega)]; exact hlσ1
  refine xi_astore (lv' := [some (.ref (b + 0)), some (.int (nI i)), some (.int (nI j)), some (.int (nI u)), some (.int g), some (.ref (b + k)), some (.ref (b + (k + 1))), none, none, none, none, none, none, none]) hC dL_letters_10 (pc' := 12) rfl (by decide) rfl ?_
  refine xi_aload_n hC dL_letters_12 (pc' := 13) rfl rfl rfl ?_
  refine xi_iload_n hC dL_letters_13 (pc' := 14) rfl rfl rfl ?_
  refine xi_iconst (v := nI 3) hC dL_letters_14 (pc' := 15) rfl (by decide +kernel) ?_
  refine xi_callV (As := [.int (nI j), .int (nI 3)]) (rest := []) (c_X7_user l D b (b + (k + 2)) (σ := σ2) (S := S) (N := N) (u := u) (w := w) hS hRσ2 (by omega) (x := (nI j)) (y := (nI 3))) hC dL_letters_15 (pc' := 18) rfl xw_m_L_18 xw_c_X7_user xw_ins_X7_user xw_sel_X7_user xw_ini_X7 xd_X7_user (xH_at.trans (xsh_7 kd_0)) rfl ⟨Nat.le_of_ble_eq_true rfl, Nat.le_of_ble_eq_true rfl⟩ rfl (Nat.le_of_ble_eq_true rfl) ⟨Nat.le_of_ble_eq_true rfl, Nat.le_of_ble_eq_true rfl⟩ ?_
  rintro _ _ ⟨r3, rfl, hO4, rfl⟩
  obtain rfl : r3 = (nI z) := hO4 _ (su_3 (by omega) (by omega) hZl)
  show xV _ _ _ _ _ _ _ _ _ _ _ _ _ _ _ _ _ (xH D b σ2) _ _ [.int (nI z)]
  refine xi_istore (lv' := [some (.ref (b + 0)), some (.int (nI i)), some (.int (nI j)), some (.int (nI u)), some (.int g), some (.ref (b + k)), some (.ref (b + (k + 1))), some (.int (nI z)), none, none, none, none, none, none]) hC dL_letters_18 (pc' := 20) rfl (by decide) rfl ?_
  refine xi_aload_n hC dL_letters_20 (pc' := 21) rfl rfl rfl ?_
  refine xi_iload_n hC dL_letters_21 (pc' := 22) rfl rfl rfl ?_
  refine xi_bipush (v := nI 6) hC dL_letters_22 (pc' := 24) rfl (by decide +kernel) ?_
  refine xi_callV (As := [.int (nI i), .int (nI 6)]) (rest := []) (c_X7_user l D b (b + (k + 2)) (σ := σ2) (S := S) (N := N) (u := u) (w := w) hS hRσ2 (by omega) (x := (nI i)) (y := (nI 6))) hC dL_letters_24 (pc' := 27) rfl xw_m_L_18 xw_c_X7_user xw_ins_X7_user xw_sel_X7_user xw_ini_X7 xd_X7_user (xH_at.trans (xsh_7 kd_0)) rfl ⟨Nat.le_of_ble_eq_true rfl, Nat.le_of_ble_eq_true rfl⟩ rfl (Nat.le_of_ble_eq_true rfl) ⟨Nat.le_of_ble_eq_true rfl, Nat.le_of_ble_eq_true rfl⟩ ?_
  rintro _ _ ⟨r5, rfl, hO6, rfl⟩
  obtain rfl : r5 = (S m_sentBy i) := hO6 _ (su_6 (by omega) (by omega))
  show xV _ _ _ _ _ _ _ _ _ _ _ _ _ _ _ _ _ (xH D b σ2) _ _ [.int (S m_sentBy i)]
  refine xi_istore (lv' := [some (.ref (b + 0)), some (.int (nI i)), some (.int (nI j)), some (.int (nI u)), some (.int g), some (.ref (b + k)), some (.ref (b + (k + 1))), some (.int (nI z)), some (.int (S m_sentBy i)), none, none, none, none, none]) hC dL_letters_27 (pc' := 29) rfl (by decide) rfl ?_
  refine xi_aload_n hC dL_letters_29 (pc' := 30) rfl rfl rfl ?_
  refine xi_iconst (v := nI 1) hC dL_letters_30 (pc' := 31) rfl (by decide +kernel) ?_
  refine xi_iload_n hC dL_letters_31 (pc' := 32) rfl rfl rfl ?_
  refine xi_iload_n hC dL_letters_32 (pc' := 33) rfl rfl rfl ?_
  refine xi_aload hC dL_letters_33 (pc' := 35) rfl rfl ?_
  refine xi_callS (As := [.ref (b + 0), .int (nI 1), .int (nI i), .int (nI u), .ref (b + k)]) (rest := []) (c_L_readv l D b (b + (k + 2)) (σ := σ2) (S := S) (N := N) (u := u) (w := w) hS hRσ2 (by omega) (t := k) (by omega) hlσ2_k (f := (rK S i)) (by omega) (fun q hq => sv_1 (by omega) hq (by omega))) hC dL_letters_35 (pc' := 38) rfl xw_m_L_22 xw_c_L_read xw_sta_L_read xw_ini_L xd_L_read ⟨Nat.le_of_ble_eq_true rfl, Nat.le_of_ble_eq_true rfl⟩ rfl (Nat.le_of_ble_eq_true rfl) ⟨Nat.le_of_ble_eq_true rfl, Nat.le_of_ble_eq_true rfl⟩ ?_
  rintro _ _ ⟨σ7, rfl, heσ7, hfσ7, hlσ7, rfl⟩
  show xV _ _ _ _ _ _ _ _ _ _ _ _ _ _ _ _ _ (xH D b σ7) _ _ []
  have hRσ7 := hRσ2.hi (by omega) (fun o ho => heσ7 o (by omega))
  have hlσ7_k1 : σ7 (k + 1) 4096 = nI 8 := by rw [heσ7 (k + 1) (by omega)]; exact hlσ2
  have hcase : i = j ∨ (i ≠ j ∧ z = 4) ∨ (i ≠ j ∧ z = 0) ∨ (i ≠ j ∧ 0 < z ∧ z < 4) := by omega
  rcases hcase with rfl | ⟨hij, rfl⟩ | ⟨hij, rfl⟩ | ⟨hij, hz0, hz3⟩
  · skip
    refine xi_aload_n hC dL_letters_38 (pc' := 39) rfl rfl rfl ?_
    refine xi_iload_n hC dL_letters_39 (pc' := 40) rfl rfl rfl ?_
    refine xi_iload_n hC dL_letters_40 (pc' := 41) rfl rfl rfl ?_
    refine xi_callV (As := [.int (nI i), .int (nI i)]) (rest := []) (c_X7_sendLetter l D b (b + (k + 2)) (σ := σ7) (S := S) (N := N) (u := u) (w := w) hS hRσ7 (by omega) (x := (nI i)) (y := (nI i))) hC dL_letters_41 (pc' := 44) rfl xw_m_L_60 xw_c_X7_sendLetter xw_ins_X7_sendLetter xw_sel_X7_sendLetter xw_ini_X7 xd_X7_sendLetter (xH_at.trans (xsh_7 kd_0)) rfl ⟨Nat.le_of_ble_eq_true rfl, Nat.le_of_ble_eq_true rfl⟩ rfl (Nat.le_of_ble_eq_true rfl) ⟨Nat.le_of_ble_eq_true rfl, Nat.le_of_ble_eq_true rfl⟩ ?_
    rintro _ _ ⟨r8, σ9, rfl, hHσ9, hO11, rfl⟩
    obtain ⟨rT10, T10, hZT10⟩ := ex_send (S := S) (u := u) (w := w) (x := (nI i)) (y := (nI i)) hS.1
    obtain ⟨eT10, hRσ9⟩ := hO11 rT10 T10 hZT10
    obtain ⟨e2T10, e3T10⟩ := d_eq hZT10 hi hi rfl
    have e4T10 := e3T10.symm
    subst e4T10
    obtain rfl : r8 = (-10002) := eT10.trans e2T10
    have hlσ9_k : σ9 k 4096 = nI 8 := by rw [hHσ9 k (by omega)]; exact hlσ7
    have hlσ9_k1 : σ9 (k + 1) 4096 = nI 8 := by rw [hHσ9 (k + 1) (by omega)]; exact hlσ7_k1
    have hfσ9_k : ∀ zz, zz < u → σ9 k zz = (rK S i) zz := fun q hq => by rw [hHσ9 k (by omega)]; exact hfσ7 q hq
    show xV _ _ _ _ _ _ _ _ _ _ _ _ _ _ _ _ _ (xH D b σ9) _ _ [.int (-10002)]
    refine xi_istore (lv' := [some (.ref (b + 0)), some (.int (nI i)), some (.int (nI i)), some (.int (nI u)), some (.int g), some (.ref (b + k)), some (.ref (b + (k + 1))), some (.int (nI z)), some (.int (S m_sentBy i)), some (.int (-10002)), none, none, none, none]) hC dL_letters_44 (pc' := 46) rfl (by decide) rfl ?_
    refine xi_iload_n hC dL_letters_46 (pc' := 47) rfl rfl rfl ?_
    refine xi_iload_n hC dL_letters_47 (pc' := 48) rfl rfl rfl ?_
    refine xi_icmpne (tgt := 65) hC dL_letters_48 (pc' := 51) rfl (by decide) (fun zc48 => ?_) (fun zc48 => ?_)
    · exact absurd rfl zc48
    · skip
      refine xi_iload hC dL_letters_51 (pc' := 53) rfl rfl ?_
      refine xi_sipush (v := -10002) hC dL_letters_53 (pc' := 56) rfl (by decide +kernel) ?_
      refine xi_icmpne (tgt := 63) hC dL_letters_56 (pc' := 59) rfl (by decide) (fun zc56 => ?_) (fun zc56 => ?_)
      · exact absurd rfl zc56
      · skip
        refine xi_iconst (v := nI 1) hC dL_letters_59 (pc' := 60) rfl (by decide +kernel) ?_
        refine xi_goto (tgt := 64) hC dL_letters_60 (by decide) ?_
        refine xb_ireturn hC dL_letters_64 hr (by decide) rfl ?_
        exact ⟨σ9, S, rfl, (hS).up (by omega), hRσ9, (hJ).up (by omega), rfl⟩
  · skip
    refine xi_aload_n hC dL_letters_38 (pc' := 39) rfl rfl rfl ?_
    refine xi_iload_n hC dL_letters_39 (pc' := 40) rfl rfl rfl ?_
    refine xi_iload_n hC dL_letters_40 (pc' := 41) rfl rfl rfl ?_
    refine xi_callV (As := [.int (nI i), .int (nI j)]) (rest := []) (c_X7_sendLetter l D b (b + (k + 2)) (σ := σ7) (S := S) (N := N) (u := u) (w := w) hS hRσ7 (by omega) (x := (nI i)) (y := (nI j))) hC dL_letters_41 (pc' := 44) rfl xw_m_L_60 xw_c_X7_sendLetter xw_ins_X7_sendLetter xw_sel_X7_sendLetter xw_ini_X7 xd_X7_sendLetter (xH_at.trans (xsh_7 kd_0)) rfl ⟨Nat.le_of_ble_eq_true rfl, Nat.le_of_ble_eq_true rfl⟩ rfl (Nat.le_of_ble_eq_true rfl) ⟨Nat.le_of_ble_eq_true rfl, Nat.le_of_ble_eq_true rfl⟩ ?_
    rintro _ _ ⟨r12, σ13, rfl, hHσ13, hO15, rfl⟩
    obtain ⟨rT14, T14, hZT14⟩ := ex_send (S := S) (u := u) (w := w) (x := (nI i)) (y := (nI j)) hS.1
    obtain ⟨eT14, hRσ13⟩ := hO15 rT14 T14 hZT14
    obtain ⟨e2T14, e3T14⟩ := d_full hZT14 hi hj hij hZl
    have e4T14 := e3T14.symm
    subst e4T14
    obtain rfl : r12 = (-10004) := eT14.trans e2T14
    have hlσ13_k : σ13 k 4096 = nI 8 := by rw [hHσ13 k (by omega)]; exact hlσ7
    have hlσ13_k1 : σ13 (k + 1) 4096 = nI 8 := by rw [hHσ13 (k + 1) (by omega)]; exact hlσ7_k1
    have hfσ13_k : ∀ zz, zz < u → σ13 k zz = (rK S i) zz := fun q hq => by rw [hHσ13 k (by omega)]; exact hfσ7 q hq
    show xV _ _ _ _ _ _ _ _ _ _ _ _ _ _ _ _ _ (xH D b σ13) _ _ [.int (-10004)]
    refine xi_istore (lv' := [some (.ref (b + 0)), some (.int (nI i)), some (.int (nI j)), some (.int (nI u)), some (.int g), some (.ref (b + k)), some (.ref (b + (k + 1))), some (.int (nI 4)), some (.int (S m_sentBy i)), some (.int (-10004)), none, none, none, none]) hC dL_letters_44 (pc' := 46) rfl (by decide) rfl ?_
    refine xi_iload_n hC dL_letters_46 (pc' := 47) rfl rfl rfl ?_
    refine xi_iload_n hC dL_letters_47 (pc' := 48) rfl rfl rfl ?_
    refine xn_icmpne (tgt := 65) hC dL_letters_48 (pc' := 51) rfl (by decide) (by omega) (by omega) (fun zc48 => ?_) (fun zc48 => ?_)
    · skip
      refine xi_iload hC dL_letters_65 (pc' := 67) rfl rfl ?_
      refine xi_iconst (v := nI 4) hC dL_letters_67 (pc' := 68) rfl (by decide +kernel) ?_
      refine xn_icmpne (tgt := 106) hC dL_letters_68 (pc' := 71) rfl (by decide) (by omega) (by omega) (fun zc68 => ?_) (fun zc68 => ?_)
      · exact absurd zc68 (by decide)
      · skip
        refine xi_iload hC dL_letters_71 (pc' := 73) rfl rfl ?_
        refine xi_sipush (v := -10004) hC dL_letters_73 (pc' := 76) rfl (by decide +kernel) ?_
        refine xi_icmpne (tgt := 104) hC dL_letters_76 (pc' := 79) rfl (by decide) (fun zc76 => ?_) (fun zc76 => ?_)
        · exact absurd rfl zc76
        · skip
          refine xi_aload_n hC dL_letters_79 (pc' := 80) rfl rfl rfl ?_
          refine xi_iload_n hC dL_letters_80 (pc' := 81) rfl rfl rfl ?_
          refine xi_bipush (v := nI 6) hC dL_letters_81 (pc' := 83) rfl (by decide +kernel) ?_
          refine xi_callV (As := [.int (nI i), .int (nI 6)]) (rest := []) (c_X7_user l D b (b + (k + 2)) (σ := σ13) (S := S) (N := N) (u := u) (w := w) hS hRσ13 (by omega) (x := (nI i)) (y := (nI 6))) hC dL_letters_83 (pc' := 86) rfl xw_m_L_18 xw_c_X7_user xw_ins_X7_user xw_sel_X7_user xw_ini_X7 xd_X7_user (xH_at.trans (xsh_7 kd_0)) rfl ⟨Nat.le_of_ble_eq_true rfl, Nat.le_of_ble_eq_true rfl⟩ rfl (Nat.le_of_ble_eq_true rfl) ⟨Nat.le_of_ble_eq_true rfl, Nat.le_of_ble_eq_true rfl⟩ ?_
          rintro _ _ ⟨r16, rfl, hO17, rfl⟩
          obtain rfl : r16 = (S m_sentBy i) := hO17 _ (su_6 (by omega) (by omega))
          show xV _ _ _ _ _ _ _ _ _ _ _ _ _ _ _ _ _ (xH D b σ13) _ _ [.int (S m_sentBy i)]
          refine xi_iload hC dL_letters_86 (pc' := 88) rfl rfl ?_
          refine xi_icmpne (tgt := 104) hC dL_letters_88 (pc' := 91) rfl (by decide) (fun zc88 => ?_) (fun zc88 => ?_)
          · exact absurd rfl zc88
          · skip
            refine xi_aload_n hC dL_letters_91 (pc' := 92) rfl rfl rfl ?_
            refine xi_iload_n hC dL_letters_92 (pc' := 93) rfl rfl rfl ?_
            refine xi_callV (As := [.int (nI j)]) (rest := []) (c_X7_loseLetter l D b (b + (k + 2)) (σ := σ13) (S := S) (N := N) (u := u) (w := w) hS hRσ13 (by omega) (x := (nI j))) hC dL_letters_93 (pc' := 96) rfl xw_m_L_63 xw_c_X7_loseLetter xw_ins_X7_loseLetter xw_sel_X7_loseLetter xw_ini_X7 xd_X7_loseLetter (xH_at.trans (xsh_7 kd_0)) rfl ⟨Nat.le_of_ble_eq_true rfl, Nat.le_of_ble_eq_true rfl⟩ rfl (Nat.le_of_ble_eq_true rfl) ⟨Nat.le_of_ble_eq_true rfl, Nat.le_of_ble_eq_true rfl⟩ ?_
            rintro _ _ ⟨r18, σ19, rfl, hHσ19, hO21, rfl⟩
            obtain ⟨rT20, T20, hZT20⟩ := ex_lose (S := S) (u := u) (w := w) (x := (nI j)) hS.1
            obtain ⟨eT20, hRσ19⟩ := hO21 rT20 T20 hZT20
            obtain rfl : r18 = nI 3 := eT20.trans (o_ok hZT20 hj hZl (by decide) (by decide))
            have hST20 := SI_lose hS hZT20
            have hJT20 := JJ_lose hS.1 hJ hZT20
            have hlσ19_k : σ19 k 4096 = nI 8 := by rw [hHσ19 k (by omega)]; exact hlσ13_k
            have hlσ19_k1 : σ19 (k + 1) 4096 = nI 8 := by rw [hHσ19 (k + 1) (by omega)]; exact hlσ13_k1
            have hfσ19_k : ∀ zz, zz < u → σ19 k zz = (rK S i) zz := fun q hq => by rw [hHσ19 k (by omega)]; exact hfσ13_k q hq
            show xV _ _ _ _ _ _ _ _ _ _ _ _ _ _ _ _ _ (xH D b σ19) _ _ [.int (nI 3)]
            refine xi_iconst (v := nI 3) hC dL_letters_96 (pc' := 97) rfl (by decide +kernel) ?_
            refine xn_icmpne (tgt := 104) hC dL_letters_97 (pc' := 100) rfl (by decide) (by omega) (by omega) (fun zc97 => ?_) (fun zc97 => ?_)
            · exact absurd zc97 (by decide)
            · skip
              refine xi_iconst (v := nI 1) hC dL_letters_100 (pc' := 101) rfl (by decide +kernel) ?_
              refine xi_goto (tgt := 105) hC dL_letters_101 (by decide) ?_
              refine xb_ireturn hC dL_letters_105 hr (by decide) rfl ?_
              exact ⟨σ19, T20, rfl, (hST20).up (by omega), hRσ19, (hJT20).up (by omega), rfl⟩
    · exact absurd zc48 hij
  · skip
    refine xi_aload_n hC dL_letters_38 (pc' := 39) rfl rfl rfl ?_
    refine xi_iload_n hC dL_letters_39 (pc' := 40) rfl rfl rfl ?_
    refine xi_iload_n hC dL_letters_40 (pc' := 41) rfl rfl rfl ?_
    refine xi_callV (As := [.int (nI i), .int (nI j)]) (rest := []) (c_X7_sendLetter l D b (b + (k + 2)) (σ := σ7) (S := S) (N := N) (u := u) (w := w) hS hRσ7 (by omega) (x := (nI i)) (y := (nI j))) hC dL_letters_41 (pc' := 44) rfl xw_m_L_60 xw_c_X7_sendLetter xw_ins_X7_sendLetter xw_sel_X7_sendLetter xw_ini_X7 xd_X7_sendLetter (xH_at.trans (xsh_7 kd_0)) rfl ⟨Nat.le_of_ble_eq_true rfl, Nat.le_of_ble_eq_true rfl⟩ rfl (Nat.le_of_ble_eq_true rfl) ⟨Nat.le_of_ble_eq_true rfl, Nat.le_of_ble_eq_true rfl⟩ ?_
    rintro _ _ ⟨r22, σ23, rfl, hHσ23, hO25, rfl⟩
    obtain ⟨rT24, T24, hZT24⟩ := ex_send (S := S) (u := u) (w := w) (x := (nI i)) (y := (nI j)) hS.1
    obtain ⟨eT24, hRσ23⟩ := hO25 rT24 T24 hZT24
    obtain ⟨e2T24, fs, fl, fK, fA, fP, fL⟩ := d_ok hZT24 hi hj hij hZl (by omega)
    obtain rfl : r22 = nI (1) := eT24.trans e2T24
    have hST24 := SI_send hS hZT24
    have hJT24 := JJ_send hS.1 hJ hZT24
    obtain ⟨a, ha5, hA⟩ := hST24.1.2.2.2.2.2.2 j (by omega)
    have hlσ23_k : σ23 k 4096 = nI 8 := by rw [hHσ23 k (by omega)]; exact hlσ7
    have hlσ23_k1 : σ23 (k + 1) 4096 = nI 8 := by rw [hHσ23 (k + 1) (by omega)]; exact hlσ7_k1
    have hfσ23_k : ∀ zz, zz < u → σ23 k zz = (rK S i) zz := fun q hq => by rw [hHσ23 k (by omega)]; exact hfσ7 q hq
    show xV _ _ _ _ _ _ _ _ _ _ _ _ _ _ _ _ _ (xH D b σ23) _ _ [.int (nI 1)]
    refine xi_istore (lv' := [some (.ref (b + 0)), some (.int (nI i)), some (.int (nI j)), some (.int (nI u)), some (.int g), some (.ref (b + k)), some (.ref (b + (k + 1))), some (.int (nI 0)), some (.int (S m_sentBy i)), some (.int (nI 1)), none, none, none, none]) hC dL_letters_44 (pc' := 46) rfl (by decide) rfl ?_
    refine xi_iload_n hC dL_letters_46 (pc' := 47) rfl rfl rfl ?_
    refine xi_iload_n hC dL_letters_47 (pc' := 48) rfl rfl rfl ?_
    refine xn_icmpne (tgt := 65) hC dL_letters_48 (pc' := 51) rfl (by decide) (by omega) (by omega) (fun zc48 => ?_) (fun zc48 => ?_)
    · skip
      refine xi_iload hC dL_letters_65 (pc' := 67) rfl rfl ?_
      refine xi_iconst (v := nI 4) hC dL_letters_67 (pc' := 68) rfl (by decide +kernel) ?_
      refine xn_icmpne (tgt := 106) hC dL_letters_68 (pc' := 71) rfl (by decide) (by omega) (by omega) (fun zc68 => ?_) (fun zc68 => ?_)
      · skip
        refine xi_iload hC dL_letters_106 (pc' := 108) rfl rfl ?_
        refine xi_iload hC dL_letters_108 (pc' := 110) rfl rfl ?_
        refine xi_iconst (v := nI 1) hC dL_letters_110 (pc' := 111) rfl (by decide +kernel) ?_
        refine xn_iadd hC dL_letters_111 (pc' := 112) rfl ?_
        refine xn_icmpne (tgt := 129) hC dL_letters_112 (pc' := 115) rfl (by decide) (by omega) (by omega) (fun zc112 => ?_) (fun zc112 => ?_)
        · exact absurd zc112 (by decide)
        · skip
          refine xi_aload_n hC dL_letters_115 (pc' := 116) rfl rfl rfl ?_
          refine xi_iload_n hC dL_letters_116 (pc' := 117) rfl rfl rfl ?_
          refine xi_bipush (v := nI 6) hC dL_letters_117 (pc' := 119) rfl (by decide +kernel) ?_
          refine xi_callV (As := [.int (nI i), .int (nI 6)]) (rest := []) (c_X7_user l D b (b + (k + 2)) (σ := σ23) (S := T24) (N := N) (u := u) (w := w) hST24 hRσ23 (by omega) (x := (nI i)) (y := (nI 6))) hC dL_letters_119 (pc' := 122) rfl xw_m_L_18 xw_c_X7_user xw_ins_X7_user xw_sel_X7_user xw_ini_X7 xd_X7_user (xH_at.trans (xsh_7 kd_0)) rfl ⟨Nat.le_of_ble_eq_true rfl, Nat.le_of_ble_eq_true rfl⟩ rfl (Nat.le_of_ble_eq_true rfl) ⟨Nat.le_of_ble_eq_true rfl, Nat.le_of_ble_eq_true rfl⟩ ?_
          rintro _ _ ⟨r26, rfl, hO27, rfl⟩
          obtain rfl : r26 = ((S m_sentBy i) + (nI u)) := (hO27 _ (su_6 (by omega) (by omega))).trans (fs)
          show xV _ _ _ _ _ _ _ _ _ _ _ _ _ _ _ _ _ (xH D b σ23) _ _ [.int ((S m_sentBy i) + (nI u))]
          refine xi_iload hC dL_letters_122 (pc' := 124) rfl rfl ?_
          refine xi_iload_n hC dL_letters_124 (pc' := 125) rfl rfl rfl ?_
          refine xi_iadd hC dL_letters_125 (pc' := 126) rfl ?_
          refine xi_icmpeq (tgt := 131) hC dL_letters_126 (pc' := 129) rfl (by decide) (fun zc126 => ?_) (fun zc126 => ?_)
          · skip
            refine xi_iload hC dL_letters_131 (pc' := 133) rfl rfl ?_
            refine xn_ifgt (tgt := 143) hC dL_letters_133 (pc' := 136) rfl (by decide) (by omega) (fun zc133 => ?_) (fun zc133 => ?_)
            · first | exact zc133.elim | exact absurd zc133 (by decide)
            · skip
              refine xi_iload hC dL_letters_136 (pc' := 138) rfl rfl ?_
              refine xi_iconst (v := nI 1) hC dL_letters_138 (pc' := 139) rfl (by decide +kernel) ?_
              refine xi_iand hC dL_letters_139 (pc' := 140) rfl ?_
              refine xi_ifne (tgt := 145) hC dL_letters_140 (pc' := 143) rfl (by decide) (fun zc140 => ?_) (fun zc140 => ?_)
              · skip
                refine xi_aload_n hC dL_letters_145 (pc' := 146) rfl rfl rfl ?_
                refine xi_iconst (v := nI 1) hC dL_letters_146 (pc' := 147) rfl (by decide +kernel) ?_
                refine xi_iload_n hC dL_letters_147 (pc' := 148) rfl rfl rfl ?_
                refine xi_iload_n hC dL_letters_148 (pc' := 149) rfl rfl rfl ?_
                refine xi_aload hC dL_letters_149 (pc' := 151) rfl rfl ?_
                refine xi_callS (As := [.ref (b + 0), .int (nI 1), .int (nI j), .int (nI u), .ref (b + (k + 1))]) (rest := []) (c_L_readv l D b (b + (k + 2)) (σ := σ23) (S := T24) (N := N) (u := u) (w := w) hST24 hRσ23 (by omega) (t := (k + 1)) (by omega) hlσ23_k1 (f := (rK T24 j)) (by omega) (fun q hq => sv_1 (by omega) hq (by omega))) hC dL_letters_151 (pc' := 154) rfl xw_m_L_22 xw_c_L_read xw_sta_L_read xw_ini_L xd_L_read ⟨Nat.le_of_ble_eq_true rfl, Nat.le_of_ble_eq_true rfl⟩ rfl (Nat.le_of_ble_eq_true rfl) ⟨Nat.le_of_ble_eq_true rfl, Nat.le_of_ble_eq_true rfl⟩ ?_
                rintro _ _ ⟨σ28, rfl, heσ28, hfσ28, hlσ28, rfl⟩
                show xV _ _ _ _ _ _ _ _ _ _ _ _ _ _ _ _ _ (xH D b σ28) _ _ []
                have hRσ28 := hRσ23.hi (by omega) (fun o ho => heσ28 o (by omega))
                have hlσ28_k : σ28 k 4096 = nI 8 := by rw [heσ28 k (by omega)]; exact hlσ23_k
                have hfσ28_k : ∀ zz, zz < u → σ28 k zz = (rK S i) zz := fun q hq => by rw [heσ28 k (by omega)]; exact hfσ23_k q hq
                by_cases hp : T24 m_hasProof j = 0
                · skip
                  refine xi_aload_n hC dL_letters_154 (pc' := 155) rfl rfl rfl ?_
                  refine xi_iload_n hC dL_letters_155 (pc' := 156) rfl rfl rfl ?_
                  refine xi_iconst (v := nI 1) hC dL_letters_156 (pc' := 157) rfl (by decide +kernel) ?_
                  refine xi_callV (As := [.int (nI j), .int (nI 1)]) (rest := []) (c_X7_user l D b (b + (k + 2)) (σ := σ28) (S := T24) (N := N) (u := u) (w := w) hST24 hRσ28 (by omega) (x := (nI j)) (y := (nI 1))) hC dL_letters_157 (pc' := 160) rfl xw_m_L_18 xw_c_X7_user xw_ins_X7_user xw_sel_X7_user xw_ini_X7 xd_X7_user (xH_at.trans (xsh_7 kd_0)) rfl ⟨Nat.le_of_ble_eq_true rfl, Nat.le_of_ble_eq_true rfl⟩ rfl (Nat.le_of_ble_eq_true rfl) ⟨Nat.le_of_ble_eq_true rfl, Nat.le_of_ble_eq_true rfl⟩ ?_
                  rintro _ _ ⟨r29, rfl, hO30, rfl⟩
                  obtain rfl : r29 = (nI a) := hO30 _ (su_1 (by omega) (by omega) hA)
                  show xV _ _ _ _ _ _ _ _ _ _ _ _ _ _ _ _ _ (xH D b σ28) _ _ [.int (nI a)]
                  refine xi_istore (lv' := [some (.ref (b + 0)), some (.int (nI i)), some (.int (nI j)), some (.int (nI u)), some (.int g), some (.ref (b + k)), some (.ref (b + (k + 1))), some (.int (nI 0)), some (.int (S m_sentBy i)), some (.int (nI 1)), some (.int (nI a)), none, none, none]) hC dL_letters_160 (pc' := 162) rfl (by decide) rfl ?_
                  refine xi_aload_n hC dL_letters_162 (pc' := 163) rfl rfl rfl ?_
                  refine xi_iload_n hC dL_letters_163 (pc' := 164) rfl rfl rfl ?_
                  refine xi_iconst (v := nI 2) hC dL_letters_164 (pc' := 165) rfl (by decide +kernel) ?_
                  refine xi_callV (As := [.int (nI j), .int (nI 2)]) (rest := []) (c_X7_user l D b (b + (k + 2)) (σ := σ28) (S := T24) (N := N) (u := u) (w := w) hST24 hRσ28 (by omega) (x := (nI j)) (y := (nI 2))) hC dL_letters_165 (pc' := 168) rfl xw_m_L_18 xw_c_X7_user xw_ins_X7_user xw_sel_X7_user xw_ini_X7 xd_X7_user (xH_at.trans (xsh_7 kd_0)) rfl ⟨Nat.le_of_ble_eq_true rfl, Nat.le_of_ble_eq_true rfl⟩ rfl (Nat.le_of_ble_eq_true rfl) ⟨Nat.le_of_ble_eq_true rfl, Nat.le_of_ble_eq_true rfl⟩ ?_
                  rintro _ _ ⟨r31, rfl, hO32, rfl⟩
                  obtain rfl : r31 = (nI 0) := hO32 _ (su_2f (by omega) (by omega) hp)
                  show xV _ _ _ _ _ _ _ _ _ _ _ _ _ _ _ _ _ (xH D b σ28) _ _ [.int (nI 0)]
                  refine xi_iconst (v := nI 1) hC dL_letters_168 (pc' := 169) rfl (by decide +kernel) ?_
                  refine xn_icmpne (tgt := 176) hC dL_letters_169 (pc' := 172) rfl (by decide) (by omega) (by omega) (fun zc169 => ?_) (fun zc169 => ?_)
                  · skip
                    refine xi_iconst (v := nI 0) hC dL_letters_176 (pc' := 177) rfl (by decide +kernel) ?_
                    refine xi_istore (lv' := [some (.ref (b + 0)), some (.int (nI i)), some (.int (nI j)), some (.int (nI u)), some (.int g), some (.ref (b + k)), some (.ref (b + (k + 1))), some (.int (nI 0)), some (.int (S m_sentBy i)), some (.int (nI 1)), some (.int (nI a)), some (.int (nI 0)), none, none]) hC dL_letters_177 (pc' := 179) rfl (by decide) rfl ?_
                    refine xi_aload hC dL_letters_179 (pc' := 181) rfl rfl ?_
                    refine xi_aload hC dL_letters_181 (pc' := 183) rfl rfl ?_
                    refine xi_iload_n hC dL_letters_183 (pc' := 184) rfl rfl rfl ?_
                    refine xi_callS (As := [.ref (b + k), .ref (b + (k + 1)), .int (nI u)]) (rest := []) (c_L_most l D b (b + (k + 2)) (σ := σ28) (ta := k) (tb := (k + 1)) (u := u) (by omega) (by omega) hlσ28_k hlσ28 (by omega)) hC dL_letters_184 (pc' := 187) rfl xw_m_L_28 xw_c_L_most xw_sta_L_most xw_ini_L xd_L_most ⟨Nat.le_of_ble_eq_true rfl, Nat.le_of_ble_eq_true rfl⟩ rfl (Nat.le_of_ble_eq_true rfl) ⟨Nat.le_of_ble_eq_true rfl, Nat.le_of_ble_eq_true rfl⟩ ?_
                    rintro _ _ ⟨rfl, rfl⟩
                    show xV _ _ _ _ _ _ _ _ _ _ _ _ _ _ _ _ _ (xH D b σ28) _ _ [.int (bI (vle u (σ28 k) (σ28 (k + 1))))]
                    refine xtop (y := (bI (vle u (rK S i) (rK T24 j)))) (bI_congr (vle_congr hfσ28_k hfσ28)) ?_
                    refine xb_ifeq (tgt := 194) hC dL_letters_187 (pc' := 190) rfl (by decide) (fun zc187 => ?_) (fun zc187 => ?_)
                    · skip
                      refine xi_aload hC dL_letters_194 (pc' := 196) rfl rfl ?_
                      refine xi_aload hC dL_letters_196 (pc' := 198) rfl rfl ?_
                      refine xi_iload_n hC dL_letters_198 (pc' := 199) rfl rfl rfl ?_
                      refine xi_callS (As := [.ref (b + (k + 1)), .ref (b + k), .int (nI u)]) (rest := []) (c_L_most l D b (b + (k + 2)) (σ := σ28) (ta := (k + 1)) (tb := k) (u := u) (by omega) (by omega) hlσ28 hlσ28_k (by omega)) hC dL_letters_199 (pc' := 202) rfl xw_m_L_28 xw_c_L_most xw_sta_L_most xw_ini_L xd_L_most ⟨Nat.le_of_ble_eq_true rfl, Nat.le_of_ble_eq_true rfl⟩ rfl (Nat.le_of_ble_eq_true rfl) ⟨Nat.le_of_ble_eq_true rfl, Nat.le_of_ble_eq_true rfl⟩ ?_
                      rintro _ _ ⟨rfl, rfl⟩
                      show xV _ _ _ _ _ _ _ _ _ _ _ _ _ _ _ _ _ (xH D b σ28) _ _ [.int (bI (vle u (σ28 (k + 1)) (σ28 k)))]
                      refine xtop (y := (bI (vle u (rK T24 j) (rK S i)))) (bI_congr (vle_congr hfσ28 hfσ28_k)) ?_
                      refine xb_ifeq (tgt := 209) hC dL_letters_202 (pc' := 205) rfl (by decide) (fun zc202 => ?_) (fun zc202 => ?_)
                      · skip
                        refine xi_iconst (v := nI 2) hC dL_letters_209 (pc' := 210) rfl (by decide +kernel) ?_
                        refine xi_istore (lv' := [some (.ref (b + 0)), some (.int (nI i)), some (.int (nI j)), some (.int (nI u)), some (.int g), some (.ref (b + k)), some (.ref (b + (k + 1))), some (.int (nI 0)), some (.int (S m_sentBy i)), some (.int (nI 1)), some (.int (nI a)), some (.int (nI 0)), some (.int (nI 2)), none]) hC dL_letters_210 (pc' := 212) rfl (by decide) rfl ?_
                        refine xi_aload_n hC dL_letters_212 (pc' := 213) rfl rfl rfl ?_
                        refine xi_iload_n hC dL_letters_213 (pc' := 214) rfl rfl rfl ?_
                        refine xi_callV (As := [.int (nI j)]) (rest := []) (c_X7_readLetter l D b (b + (k + 2)) (σ := σ28) (S := T24) (N := N) (u := u) (w := w) hST24 hRσ28 (by omega) (x := (nI j))) hC dL_letters_214 (pc' := 217) rfl xw_m_L_66 xw_c_X7_readLetter xw_ins_X7_readLetter xw_sel_X7_readLetter xw_ini_X7 xd_X7_readLetter (xH_at.trans (xsh_7 kd_0)) rfl ⟨Nat.le_of_ble_eq_true rfl, Nat.le_of_ble_eq_true rfl⟩ rfl (Nat.le_of_ble_eq_true rfl) ⟨Nat.le_of_ble_eq_true rfl, Nat.le_of_ble_eq_true rfl⟩ ?_
                        rintro _ _ ⟨r33, σ34, rfl, hHσ34, hO36, rfl⟩
                        obtain ⟨rT35, T35, hZT35⟩ := ex_readL (S := T24) (u := u) (w := w) (x := (nI j)) hST24.1
                        obtain ⟨eT35, hRσ34⟩ := hO36 rT35 T35 hZT35
                        obtain ⟨x, hx2, ex, hx0, hxx, hL⟩ := l_ok (F := rK S i) hZT35 (by omega) (by omega) fl (fun p hp => fL p hp)
                        have exx : x = 2 := hxx.mpr ⟨zc187, zc202⟩
                        subst exx
                        obtain ⟨ul, uK, uA, uP, uP2, uF⟩ := hL
                        obtain rfl : r33 = nI 2 := eT35.trans ex
                        have hST35 := SI_readL hST24 hZT35
                        have hJT35 := JJ_readL hST24.1 hJT24 hZT35
                        have hlσ34_k : σ34 k 4096 = nI 8 := by rw [hHσ34 k (by omega)]; exact hlσ28_k
                        have hlσ34_k1 : σ34 (k + 1) 4096 = nI 8 := by rw [hHσ34 (k + 1) (by omega)]; exact hlσ28
                        have hfσ34_k : ∀ zz, zz < u → σ34 k zz = (rK S i) zz := fun q hq => by rw [hHσ34 k (by omega)]; exact hfσ28_k q hq
                        have hfσ34_k1 : ∀ zz, zz < u → σ34 (k + 1) zz = (rK T24 j) zz := fun q hq => by rw [hHσ34 (k + 1) (by omega)]; exact hfσ28 q hq
                        show xV _ _ _ _ _ _ _ _ _ _ _ _ _ _ _ _ _ (xH D b σ34) _ _ [.int (nI 2)]
                        refine xi_iload hC dL_letters_217 (pc' := 219) rfl rfl ?_
                        refine xn_icmpne (tgt := 244) hC dL_letters_219 (pc' := 222) rfl (by decide) (by omega) (by omega) (fun zc219 => ?_) (fun zc219 => ?_)
                        · exact absurd zc219 (by decide)
                        · skip
                          refine xi_aload_n hC dL_letters_222 (pc' := 223) rfl rfl rfl ?_
                          refine xi_iload_n hC dL_letters_223 (pc' := 224) rfl rfl rfl ?_
                          refine xi_callV (As := [.int (nI j)]) (rest := []) (c_X7_readLetter l D b (b + (k + 2)) (σ := σ34) (S := T35) (N := N) (u := u) (w := w) hST35 hRσ34 (by omega) (x := (nI j))) hC dL_letters_224 (pc' := 227) rfl xw_m_L_66 xw_c_X7_readLetter xw_ins_X7_readLetter xw_sel_X7_readLetter xw_ini_X7 xd_X7_readLetter (xH_at.trans (xsh_7 kd_0)) rfl ⟨Nat.le_of_ble_eq_true rfl, Nat.le_of_ble_eq_true rfl⟩ rfl (Nat.le_of_ble_eq_true rfl) ⟨Nat.le_of_ble_eq_true rfl, Nat.le_of_ble_eq_true rfl⟩ ?_
                          rintro _ _ ⟨r37, σ38, rfl, hHσ38, hO40, rfl⟩
                          obtain ⟨rT39, T39, hZT39⟩ := ex_readL (S := T35) (u := u) (w := w) (x := (nI j)) hST35.1
                          obtain ⟨eT39, hRσ38⟩ := hO40 rT39 T39 hZT39
                          obtain ⟨e2T39, e3T39⟩ := l_none hZT39 hj ul
                          have e4T39 := e3T39.symm
                          subst e4T39
                          obtain rfl : r37 = (-10005) := eT39.trans e2T39
                          have hlσ38_k : σ38 k 4096 = nI 8 := by rw [hHσ38 k (by omega)]; exact hlσ34_k
                          have hlσ38_k1 : σ38 (k + 1) 4096 = nI 8 := by rw [hHσ38 (k + 1) (by omega)]; exact hlσ34_k1
                          have hfσ38_k : ∀ zz, zz < u → σ38 k zz = (rK S i) zz := fun q hq => by rw [hHσ38 k (by omega)]; exact hfσ34_k q hq
                          have hfσ38_k1 : ∀ zz, zz < u → σ38 (k + 1) zz = (rK T24 j) zz := fun q hq => by rw [hHσ38 (k + 1) (by omega)]; exact hfσ34_k1 q hq
                          show xV _ _ _ _ _ _ _ _ _ _ _ _ _ _ _ _ _ (xH D b σ38) _ _ [.int (-10005)]
                          refine xi_sipush (v := -10005) hC dL_letters_227 (pc' := 230) rfl (by decide +kernel) ?_
                          refine xi_icmpne (tgt := 244) hC dL_letters_230 (pc' := 233) rfl (by decide) (fun zc230 => ?_) (fun zc230 => ?_)
                          · exact absurd rfl zc230
                          · skip
                            refine xi_aload_n hC dL_letters_233 (pc' := 234) rfl rfl rfl ?_
                            refine xi_iload_n hC dL_letters_234 (pc' := 235) rfl rfl rfl ?_
                            refine xi_callV (As := [.int (nI j)]) (rest := []) (c_X7_loseLetter l D b (b + (k + 2)) (σ := σ38) (S := T35) (N := N) (u := u) (w := w) hST35 hRσ38 (by omega) (x := (nI j))) hC dL_letters_235 (pc' := 238) rfl xw_m_L_63 xw_c_X7_loseLetter xw_ins_X7_loseLetter xw_sel_X7_loseLetter xw_ini_X7 xd_X7_loseLetter (xH_at.trans (xsh_7 kd_0)) rfl ⟨Nat.le_of_ble_eq_true rfl, Nat.le_of_ble_eq_true rfl⟩ rfl (Nat.le_of_ble_eq_true rfl) ⟨Nat.le_of_ble_eq_true rfl, Nat.le_of_ble_eq_true rfl⟩ ?_
                            rintro _ _ ⟨r41, σ42, rfl, hHσ42, hO44, rfl⟩
                            obtain ⟨rT43, T43, hZT43⟩ := ex_lose (S := T35) (u := u) (w := w) (x := (nI j)) hST35.1
                            obtain ⟨eT43, hRσ42⟩ := hO44 rT43 T43 hZT43
                            obtain ⟨e2T43, e3T43⟩ := o_none hZT43 hj ul
                            have e4T43 := e3T43.symm
                            subst e4T43
                            obtain rfl : r41 = (-10005) := eT43.trans e2T43
                            have hlσ42_k : σ42 k 4096 = nI 8 := by rw [hHσ42 k (by omega)]; exact hlσ38_k
                            have hlσ42_k1 : σ42 (k + 1) 4096 = nI 8 := by rw [hHσ42 (k + 1) (by omega)]; exact hlσ38_k1
                            have hfσ42_k : ∀ zz, zz < u → σ42 k zz = (rK S i) zz := fun q hq => by rw [hHσ42 k (by omega)]; exact hfσ38_k q hq
                            have hfσ42_k1 : ∀ zz, zz < u → σ42 (k + 1) zz = (rK T24 j) zz := fun q hq => by rw [hHσ42 (k + 1) (by omega)]; exact hfσ38_k1 q hq
                            show xV _ _ _ _ _ _ _ _ _ _ _ _ _ _ _ _ _ (xH D b σ42) _ _ [.int (-10005)]
                            refine xi_sipush (v := -10005) hC dL_letters_238 (pc' := 241) rfl (by decide +kernel) ?_
                            refine xi_icmpeq (tgt := 246) hC dL_letters_241 (pc' := 244) rfl (by decide) (fun zc241 => ?_) (fun zc241 => ?_)
                            · skip
                              refine xi_iconst (v := nI 0) hC dL_letters_246 (pc' := 247) rfl (by decide +kernel) ?_
                              refine xi_istore (lv' := [some (.ref (b + 0)), some (.int (nI i)), some (.int (nI j)), some (.int (nI u)), some (.int g), some (.ref (b + k)), some (.ref (b + (k + 1))), some (.int (nI 0)), some (.int (S m_sentBy i)), some (.int (nI 1)), some (.int (nI a)), some (.int (nI 0)), some (.int (nI 2)), some (.int (nI 0))]) hC dL_letters_247 (pc' := 249) rfl (by decide) rfl ?_
                              have L249 : ∀ (d : Nat) (p1 : Nat), u - p1 < d → (p1 ≤ u) → xV p l e (xR 4 89 2 16) s m args below meth c D b 14 2 16 (MQ below (xQ D b (b + (k + 2)) (fun y' h' => ∃ τ T : XM, y' = some (.int (nI 1)) ∧ SI (N + 1) T u w ∧ RR τ T u w ∧ JJ (N + 1) T u ∧ h' = xH D b τ)) args s 2 16 (fun q => b ≤ q)) (b + (k + 2)) (xH D b σ42) 249 [some (.ref (b + 0)), some (.int (nI i)), some (.int (nI j)), some (.int (nI u)), some (.int g), some (.ref (b + k)), some (.ref (b + (k + 1))), some (.int (nI 0)), some (.int (S m_sentBy i)), some (.int (nI 1)), some (.int (nI a)), some (.int (nI 0)), some (.int (nI 2)), some (.int (nI p1))] [] := by
                                intro d
                                induction d with
                                | zero => intro p1 h; exact absurd h (Nat.not_lt_zero _)
                                | succ d ih249 =>
                                  intro p1 hd249 hp1
                                  refine xi_iload hC dL_letters_249 (pc' := 251) rfl rfl ?_
                                  refine xi_iload_n hC dL_letters_251 (pc' := 252) rfl rfl rfl ?_
                                  refine xn_icmpge (tgt := 336) hC dL_letters_252 (pc' := 255) rfl (by decide) (by omega) (by omega) (fun zc252 => ?_) (fun zc252 => ?_)
                                  · skip
                                    rcases Nat.eq_zero_or_pos a with rfl | ha0
                                    · skip
                                      refine xi_aload_n hC dL_letters_336 (pc' := 337) rfl rfl rfl ?_
                                      refine xi_iload_n hC dL_letters_337 (pc' := 338) rfl rfl rfl ?_
                                      refine xi_iconst (v := nI 1) hC dL_letters_338 (pc' := 339) rfl (by decide +kernel) ?_
                                      refine xi_callV (As := [.int (nI j), .int (nI 1)]) (rest := []) (c_X7_user l D b (b + (k + 2)) (σ := σ42) (S := T35) (N := N) (u := u) (w := w) hST35 hRσ42 (by omega) (x := (nI j)) (y := (nI 1))) hC dL_letters_339 (pc' := 342) rfl xw_m_L_18 xw_c_X7_user xw_ins_X7_user xw_sel_X7_user xw_ini_X7 xd_X7_user (xH_at.trans (xsh_7 kd_0)) rfl ⟨Nat.le_of_ble_eq_true rfl, Nat.le_of_ble_eq_true rfl⟩ rfl (Nat.le_of_ble_eq_true rfl) ⟨Nat.le_of_ble_eq_true rfl, Nat.le_of_ble_eq_true rfl⟩ ?_
                                      rintro _ _ ⟨r45, rfl, hO46, rfl⟩
                                      obtain rfl : r45 = (nI 4) := hO46 _ (su_1 (by omega) (by omega) ((uA 0 hA (by decide)).trans (by rw [if_pos ⟨rfl, rfl⟩])))
                                      show xV _ _ _ _ _ _ _ _ _ _ _ _ _ _ _ _ _ (xH D b σ42) _ _ [.int (nI 4)]
                                      refine xi_iload hC dL_letters_342 (pc' := 344) rfl rfl ?_
                                      refine xi_iconst (v := nI 2) hC dL_letters_344 (pc' := 345) rfl (by decide +kernel) ?_
                                      refine xn_icmpne (tgt := 357) hC dL_letters_345 (pc' := 348) rfl (by decide) (by omega) (by omega) (fun zc345 => ?_) (fun zc345 => ?_)
                                      · exact absurd zc345 (by decide)
                                      · skip
                                        refine xi_iload hC dL_letters_348 (pc' := 350) rfl rfl ?_
                                        refine xn_ifne (tgt := 357) hC dL_letters_350 (pc' := 353) rfl (by decide) (by omega) (fun zc350 => ?_) (fun zc350 => ?_)
                                        · exact absurd zc350 (by decide)
                                        · skip
                                          refine xi_iconst (v := nI 4) hC dL_letters_353 (pc' := 354) rfl (by decide +kernel) ?_
                                          refine xi_goto (tgt := 359) hC dL_letters_354 (by decide) ?_
                                          refine xn_icmpne (tgt := 400) hC dL_letters_359 (pc' := 362) rfl (by decide) (by omega) (by omega) (fun zc359 => ?_) (fun zc359 => ?_)
                                          · exact absurd zc359 (by decide)
                                          · skip
                                            refine xi_aload_n hC dL_letters_362 (pc' := 363) rfl rfl rfl ?_
                                            refine xi_iload_n hC dL_letters_363 (pc' := 364) rfl rfl rfl ?_
                                            refine xi_iconst (v := nI 2) hC dL_letters_364 (pc' := 365) rfl (by decide +kernel) ?_
                                            refine xi_callV (As := [.int (nI j), .int (nI 2)]) (rest := []) (c_X7_user l D b (b + (k + 2)) (σ := σ42) (S := T35) (N := N) (u := u) (w := w) hST35 hRσ42 (by omega) (x := (nI j)) (y := (nI 2))) hC dL_letters_365 (pc' := 368) rfl xw_m_L_18 xw_c_X7_user xw_ins_X7_user xw_sel_X7_user xw_ini_X7 xd_X7_user (xH_at.trans (xsh_7 kd_0)) rfl ⟨Nat.le_of_ble_eq_true rfl, Nat.le_of_ble_eq_true rfl⟩ rfl (Nat.le_of_ble_eq_true rfl) ⟨Nat.le_of_ble_eq_true rfl, Nat.le_of_ble_eq_true rfl⟩ ?_
                                            rintro _ _ ⟨r47, rfl, hO48, rfl⟩
                                            obtain rfl : r47 = (nI 1) := hO48 _ (su_2t (by omega) (by omega) (uP2 rfl))
                                            show xV _ _ _ _ _ _ _ _ _ _ _ _ _ _ _ _ _ (xH D b σ42) _ _ [.int (nI 1)]
                                            refine xi_iconst (v := nI 1) hC dL_letters_368 (pc' := 369) rfl (by decide +kernel) ?_
                                            refine xn_icmpne (tgt := 376) hC dL_letters_369 (pc' := 372) rfl (by decide) (by omega) (by omega) (fun zc369 => ?_) (fun zc369 => ?_)
                                            · exact absurd zc369 (by decide)
                                            · skip
                                              refine xi_iconst (v := nI 1) hC dL_letters_372 (pc' := 373) rfl (by decide +kernel) ?_
                                              refine xi_goto (tgt := 377) hC dL_letters_373 (by decide) ?_
                                              refine xi_iload hC dL_letters_377 (pc' := 379) rfl rfl ?_
                                              refine xn_ifne (tgt := 388) hC dL_letters_379 (pc' := 382) rfl (by decide) (by omega) (fun zc379 => ?_) (fun zc379 => ?_)
                                              · exact absurd zc379 (by decide)
                                              · skip
                                                refine xi_iload hC dL_letters_382 (pc' := 384) rfl rfl ?_
                                                refine xi_iconst (v := nI 2) hC dL_letters_384 (pc' := 385) rfl (by decide +kernel) ?_
                                                refine xn_icmpne (tgt := 392) hC dL_letters_385 (pc' := 388) rfl (by decide) (by omega) (by omega) (fun zc385 => ?_) (fun zc385 => ?_)
                                                · exact absurd zc385 (by decide)
                                                · skip
                                                  refine xi_iconst (v := nI 1) hC dL_letters_388 (pc' := 389) rfl (by decide +kernel) ?_
                                                  refine xi_goto (tgt := 393) hC dL_letters_389 (by decide) ?_
                                                  refine xn_icmpne (tgt := 400) hC dL_letters_393 (pc' := 396) rfl (by decide) (by omega) (by omega) (fun zc393 => ?_) (fun zc393 => ?_)
                                                  · exact absurd zc393 (by decide)
                                                  · skip
                                                    refine xi_iconst (v := nI 1) hC dL_letters_396 (pc' := 397) rfl (by decide +kernel) ?_
                                                    refine xi_goto (tgt := 401) hC dL_letters_397 (by decide) ?_
                                                    refine xb_ireturn hC dL_letters_401 hr (by decide) rfl ?_
                                                    exact ⟨σ42, T35, rfl, (hST35).up (by omega), hRσ42, (hJT35).up (by omega), rfl⟩
                                    · skip
                                      refine xi_aload_n hC dL_letters_336 (pc' := 337) rfl rfl rfl ?_
                                      refine xi_iload_n hC dL_letters_337 (pc' := 338) rfl rfl rfl ?_
                                      refine xi_iconst (v := nI 1) hC dL_letters_338 (pc' := 339) rfl (by decide +kernel) ?_
                                      refine xi_callV (As := [.int (nI j), .int (nI 1)]) (rest := []) (c_X7_user l D b (b + (k + 2)) (σ := σ42) (S := T35) (N := N) (u := u) (w := w) hST35 hRσ42 (by omega) (x := (nI j)) (y := (nI 1))) hC dL_letters_339 (pc' := 342) rfl xw_m_L_18 xw_c_X7_user xw_ins_X7_user xw_sel_X7_user xw_ini_X7 xd_X7_user (xH_at.trans (xsh_7 kd_0)) rfl ⟨Nat.le_of_ble_eq_true rfl, Nat.le_of_ble_eq_true rfl⟩ rfl (Nat.le_of_ble_eq_true rfl) ⟨Nat.le_of_ble_eq_true rfl, Nat.le_of_ble_eq_true rfl⟩ ?_
                                      rintro _ _ ⟨r49, rfl, hO50, rfl⟩
                                      obtain rfl : r49 = (nI a) := hO50 _ (su_1 (by omega) (by omega) ((uA a hA ha5).trans (by rw [if_neg (by omega)])))
                                      show xV _ _ _ _ _ _ _ _ _ _ _ _ _ _ _ _ _ (xH D b σ42) _ _ [.int (nI a)]
                                      refine xi_iload hC dL_letters_342 (pc' := 344) rfl rfl ?_
                                      refine xi_iconst (v := nI 2) hC dL_letters_344 (pc' := 345) rfl (by decide +kernel) ?_
                                      refine xn_icmpne (tgt := 357) hC dL_letters_345 (pc' := 348) rfl (by decide) (by omega) (by omega) (fun zc345 => ?_) (fun zc345 => ?_)
                                      · exact absurd zc345 (by decide)
                                      · skip
                                        refine xi_iload hC dL_letters_348 (pc' := 350) rfl rfl ?_
                                        refine xn_ifne (tgt := 357) hC dL_letters_350 (pc' := 353) rfl (by decide) (by omega) (fun zc350 => ?_) (fun zc350 => ?_)
                                        · skip
                                          refine xi_iload hC dL_letters_357 (pc' := 359) rfl rfl ?_
                                          refine xi_icmpne (tgt := 400) hC dL_letters_359 (pc' := 362) rfl (by decide) (fun zc359 => ?_) (fun zc359 => ?_)
                                          · exact absurd rfl zc359
                                          · skip
                                            refine xi_aload_n hC dL_letters_362 (pc' := 363) rfl rfl rfl ?_
                                            refine xi_iload_n hC dL_letters_363 (pc' := 364) rfl rfl rfl ?_
                                            refine xi_iconst (v := nI 2) hC dL_letters_364 (pc' := 365) rfl (by decide +kernel) ?_
                                            refine xi_callV (As := [.int (nI j), .int (nI 2)]) (rest := []) (c_X7_user l D b (b + (k + 2)) (σ := σ42) (S := T35) (N := N) (u := u) (w := w) hST35 hRσ42 (by omega) (x := (nI j)) (y := (nI 2))) hC dL_letters_365 (pc' := 368) rfl xw_m_L_18 xw_c_X7_user xw_ins_X7_user xw_sel_X7_user xw_ini_X7 xd_X7_user (xH_at.trans (xsh_7 kd_0)) rfl ⟨Nat.le_of_ble_eq_true rfl, Nat.le_of_ble_eq_true rfl⟩ rfl (Nat.le_of_ble_eq_true rfl) ⟨Nat.le_of_ble_eq_true rfl, Nat.le_of_ble_eq_true rfl⟩ ?_
                                            rintro _ _ ⟨r51, rfl, hO52, rfl⟩
                                            obtain rfl : r51 = (nI 1) := hO52 _ (su_2t (by omega) (by omega) (uP2 rfl))
                                            show xV _ _ _ _ _ _ _ _ _ _ _ _ _ _ _ _ _ (xH D b σ42) _ _ [.int (nI 1)]
                                            refine xi_iconst (v := nI 1) hC dL_letters_368 (pc' := 369) rfl (by decide +kernel) ?_
                                            refine xn_icmpne (tgt := 376) hC dL_letters_369 (pc' := 372) rfl (by decide) (by omega) (by omega) (fun zc369 => ?_) (fun zc369 => ?_)
                                            · exact absurd zc369 (by decide)
                                            · skip
                                              refine xi_iconst (v := nI 1) hC dL_letters_372 (pc' := 373) rfl (by decide +kernel) ?_
                                              refine xi_goto (tgt := 377) hC dL_letters_373 (by decide) ?_
                                              refine xi_iload hC dL_letters_377 (pc' := 379) rfl rfl ?_
                                              refine xn_ifne (tgt := 388) hC dL_letters_379 (pc' := 382) rfl (by decide) (by omega) (fun zc379 => ?_) (fun zc379 => ?_)
                                              · exact absurd zc379 (by decide)
                                              · skip
                                                refine xi_iload hC dL_letters_382 (pc' := 384) rfl rfl ?_
                                                refine xi_iconst (v := nI 2) hC dL_letters_384 (pc' := 385) rfl (by decide +kernel) ?_
                                                refine xn_icmpne (tgt := 392) hC dL_letters_385 (pc' := 388) rfl (by decide) (by omega) (by omega) (fun zc385 => ?_) (fun zc385 => ?_)
                                                · exact absurd zc385 (by decide)
                                                · skip
                                                  refine xi_iconst (v := nI 1) hC dL_letters_388 (pc' := 389) rfl (by decide +kernel) ?_
                                                  refine xi_goto (tgt := 393) hC dL_letters_389 (by decide) ?_
                                                  refine xn_icmpne (tgt := 400) hC dL_letters_393 (pc' := 396) rfl (by decide) (by omega) (by omega) (fun zc393 => ?_) (fun zc393 => ?_)
                                                  · exact absurd zc393 (by decide)
                                                  · skip
                                                    refine xi_iconst (v := nI 1) hC dL_letters_396 (pc' := 397) rfl (by decide +kernel) ?_
                                                    refine xi_goto (tgt := 401) hC dL_letters_397 (by decide) ?_
                                                    refine xb_ireturn hC dL_letters_401 hr (by decide) rfl ?_
                                                    exact ⟨σ42, T35, rfl, (hST35).up (by omega), hRσ42, (hJT35).up (by omega), rfl⟩
                                        · exact absurd zc350 (by omega)
                                  · skip
                                    refine xi_aload_n hC dL_letters_255 (pc' := 256) rfl rfl rfl ?_
                                    refine xi_iload_n hC dL_letters_256 (pc' := 257) rfl rfl rfl ?_
                                    refine xi_iconst (v := nI 1) hC dL_letters_257 (pc' := 258) rfl (by decide +kernel) ?_
                                    refine xi_iload hC dL_letters_258 (pc' := 260) rfl rfl ?_
                                    refine xi_callV (As := [.int (nI j), .int (nI 1), .int (nI p1)]) (rest := []) (c_X7_vector l D b (b + (k + 2)) (σ := σ42) (S := T35) (N := N) (u := u) (w := w) hST35 hRσ42 (by omega) (x := (nI j)) (y := (nI 1)) (z := (nI p1))) hC dL_letters_260 (pc' := 263) rfl xw_m_L_9 xw_c_X7_vector xw_ins_X7_vector xw_sel_X7_vector xw_ini_X7 xd_X7_vector (xH_at.trans (xsh_7 kd_0)) rfl ⟨Nat.le_of_ble_eq_true rfl, Nat.le_of_ble_eq_true rfl⟩ rfl (Nat.le_of_ble_eq_true rfl) ⟨Nat.le_of_ble_eq_true rfl, Nat.le_of_ble_eq_true rfl⟩ ?_
                                    rintro _ _ ⟨r53, rfl, hO54, rfl⟩
                                    obtain rfl : r53 = (rK T24 j p1) := (hO54 _ (sv_1 (by omega) (by omega) (by omega))).trans ((uK p1 (by omega)).trans (if_neg (by decide)))
                                    show xV _ _ _ _ _ _ _ _ _ _ _ _ _ _ _ _ _ (xH D b σ42) _ _ [.int (rK T24 j p1)]
                                    refine xi_iload hC dL_letters_263 (pc' := 265) rfl rfl ?_
                                    refine xi_iconst (v := nI 1) hC dL_letters_265 (pc' := 266) rfl (by decide +kernel) ?_
                                    refine xn_icmpne (tgt := 277) hC dL_letters_266 (pc' := 269) rfl (by decide) (by omega) (by omega) (fun zc266 => ?_) (fun zc266 => ?_)
                                    · skip
                                      refine xi_aload hC dL_letters_277 (pc' := 279) rfl rfl ?_
                                      refine xi_iload hC dL_letters_279 (pc' := 281) rfl rfl ?_
                                      refine xl_L hC dL_letters_281 (pc' := 282) rfl (by omega) (by decide : (8 : Nat) = 8 ∨ (8 : Nat) = 36) hlσ42_k1 rfl (by omega) ?_
                                      refine xtop (y := (rK T24 j p1)) (hfσ42_k1 p1 (by omega)) ?_
                                      refine xi_icmpne (tgt := 328) hC dL_letters_282 (pc' := 285) rfl (by decide) (fun zc282 => ?_) (fun zc282 => ?_)
                                      · exact absurd rfl zc282
                                      · skip
                                        refine xi_iload hC dL_letters_285 (pc' := 287) rfl rfl ?_
                                        refine xi_iconst (v := nI 2) hC dL_letters_287 (pc' := 288) rfl (by decide +kernel) ?_
                                        refine xn_icmpne (tgt := 330) hC dL_letters_288 (pc' := 291) rfl (by decide) (by omega) (by omega) (fun zc288 => ?_) (fun zc288 => ?_)
                                        · exact absurd zc288 (by decide)
                                        · skip
                                          refine xi_iload hC dL_letters_291 (pc' := 293) rfl rfl ?_
                                          refine xn_ifne (tgt := 330) hC dL_letters_293 (pc' := 296) rfl (by decide) (by omega) (fun zc293 => ?_) (fun zc293 => ?_)
                                          · exact absurd zc293 (by decide)
                                          · skip
                                            refine xi_aload_n hC dL_letters_296 (pc' := 297) rfl rfl rfl ?_
                                            refine xi_iload_n hC dL_letters_297 (pc' := 298) rfl rfl rfl ?_
                                            refine xi_iconst (v := nI 2) hC dL_letters_298 (pc' := 299) rfl (by decide +kernel) ?_
                                            refine xi_iload hC dL_letters_299 (pc' := 301) rfl rfl ?_
                                            refine xi_callV (As := [.int (nI j), .int (nI 2), .int (nI p1)]) (rest := []) (c_X7_vector l D b (b + (k + 2)) (σ := σ42) (S := T35) (N := N) (u := u) (w := w) hST35 hRσ42 (by omega) (x := (nI j)) (y := (nI 2)) (z := (nI p1))) hC dL_letters_301 (pc' := 304) rfl xw_m_L_9 xw_c_X7_vector xw_ins_X7_vector xw_sel_X7_vector xw_ini_X7 xd_X7_vector (xH_at.trans (xsh_7 kd_0)) rfl ⟨Nat.le_of_ble_eq_true rfl, Nat.le_of_ble_eq_true rfl⟩ rfl (Nat.le_of_ble_eq_true rfl) ⟨Nat.le_of_ble_eq_true rfl, Nat.le_of_ble_eq_true rfl⟩ ?_
                                            rintro _ _ ⟨r55, rfl, hO56, rfl⟩
                                            obtain rfl : r55 = (rK T24 j p1) := (hO56 _ (sv_2t (by omega) (by omega) (by omega) (uP2 rfl))).trans ((uF rfl hp p1 (by omega)).1)
                                            show xV _ _ _ _ _ _ _ _ _ _ _ _ _ _ _ _ _ (xH D b σ42) _ _ [.int (rK T24 j p1)]
                                            refine xi_aload hC dL_letters_304 (pc' := 306) rfl rfl ?_
                                            refine xi_iload hC dL_letters_306 (pc' := 308) rfl rfl ?_
                                            refine xl_L hC dL_letters_308 (pc' := 309) rfl (by omega) (by decide : (8 : Nat) = 8 ∨ (8 : Nat) = 36) hlσ42_k1 rfl (by omega) ?_
                                            refine xtop (y := (rK T24 j p1)) (hfσ42_k1 p1 (by omega)) ?_
                                            refine xi_icmpne (tgt := 328) hC dL_letters_309 (pc' := 312) rfl (by decide) (fun zc309 => ?_) (fun zc309 => ?_)
                                            · exact absurd rfl zc309
                                            · skip
                                              refine xi_aload_n hC dL_letters_312 (pc' := 313) rfl rfl rfl ?_
                                              refine xi_iload_n hC dL_letters_313 (pc' := 314) rfl rfl rfl ?_
                                              refine xi_iconst (v := nI 3) hC dL_letters_314 (pc' := 315) rfl (by decide +kernel) ?_
                                              refine xi_iload hC dL_letters_315 (pc' := 317) rfl rfl ?_
                                              refine xi_callV (As := [.int (nI j), .int (nI 3), .int (nI p1)]) (rest := []) (c_X7_vector l D b (b + (k + 2)) (σ := σ42) (S := T35) (N := N) (u := u) (w := w) hST35 hRσ42 (by omega) (x := (nI j)) (y := (nI 3)) (z := (nI p1))) hC dL_letters_317 (pc' := 320) rfl xw_m_L_9 xw_c_X7_vector xw_ins_X7_vector xw_sel_X7_vector xw_ini_X7 xd_X7_vector (xH_at.trans (xsh_7 kd_0)) rfl ⟨Nat.le_of_ble_eq_true rfl, Nat.le_of_ble_eq_true rfl⟩ rfl (Nat.le_of_ble_eq_true rfl) ⟨Nat.le_of_ble_eq_true rfl, Nat.le_of_ble_eq_true rfl⟩ ?_
                                              rintro _ _ ⟨r57, rfl, hO58, rfl⟩
                                              obtain rfl : r57 = (rK S i p1) := (hO58 _ (sv_3t (by omega) (by omega) (by omega) (uP2 rfl))).trans ((uF rfl hp p1 (by omega)).2)
                                              show xV _ _ _ _ _ _ _ _ _ _ _ _ _ _ _ _ _ (xH D b σ42) _ _ [.int (rK S i p1)]
                                              refine xi_aload hC dL_letters_320 (pc' := 322) rfl rfl ?_
                                              refine xi_iload hC dL_letters_322 (pc' := 324) rfl rfl ?_
                                              refine xl_L hC dL_letters_324 (pc' := 325) rfl (by omega) (by decide : (8 : Nat) = 8 ∨ (8 : Nat) = 36) hlσ42_k rfl (by omega) ?_
                                              refine xtop (y := (rK S i p1)) (hfσ42_k p1 (by omega)) ?_
                                              refine xi_icmpeq (tgt := 330) hC dL_letters_325 (pc' := 328) rfl (by decide) (fun zc325 => ?_) (fun zc325 => ?_)
                                              · skip
                                                refine xn_iinc (lv' := [some (.ref (b + 0)), some (.int (nI i)), some (.int (nI j)), some (.int (nI u)), some (.int g), some (.ref (b + k)), some (.ref (b + (k + 1))), some (.int (nI 0)), some (.int (S m_sentBy i)), some (.int (nI 1)), some (.int (nI a)), some (.int (nI 0)), some (.int (nI 2)), some (.int (nI (p1 + 1)))]) hC dL_letters_330 (pc' := 333) rfl rfl (by decide) rfl ?_
                                                refine xi_goto (tgt := 249) hC dL_letters_333 (by decide) ?_
                                                refine ih249 _ (by omega) ?_
                                                · omega
                                              · exact absurd rfl zc325
                                    · exact absurd zc266 (by decide)
                              refine L249 _ _ (Nat.lt_succ_self _) ?_
                              · omega
                            · exact absurd rfl zc241
                      · skip
                        refine xi_iconst (v := nI 1) hC dL_letters_205 (pc' := 206) rfl (by decide +kernel) ?_
                        refine xi_goto (tgt := 210) hC dL_letters_206 (by decide) ?_
                        refine xi_istore (lv' := [some (.ref (b + 0)), some (.int (nI i)), some (.int (nI j)), some (.int (nI u)), some (.int g), some (.ref (b + k)), some (.ref (b + (k + 1))), some (.int (nI 0)), some (.int (S m_sentBy i)), some (.int (nI 1)), some (.int (nI a)), some (.int (nI 0)), some (.int (nI 1)), none]) hC dL_letters_210 (pc' := 212) rfl (by decide) rfl ?_
                        refine xi_aload_n hC dL_letters_212 (pc' := 213) rfl rfl rfl ?_
                        refine xi_iload_n hC dL_letters_213 (pc' := 214) rfl rfl rfl ?_
                        refine xi_callV (As := [.int (nI j)]) (rest := []) (c_X7_readLetter l D b (b + (k + 2)) (σ := σ28) (S := T24) (N := N) (u := u) (w := w) hST24 hRσ28 (by omega) (x := (nI j))) hC dL_letters_214 (pc' := 217) rfl xw_m_L_66 xw_c_X7_readLetter xw_ins_X7_readLetter xw_sel_X7_readLetter xw_ini_X7 xd_X7_readLetter (xH_at.trans (xsh_7 kd_0)) rfl ⟨Nat.le_of_ble_eq_true rfl, Nat.le_of_ble_eq_true rfl⟩ rfl (Nat.le_of_ble_eq_true rfl) ⟨Nat.le_of_ble_eq_true rfl, Nat.le_of_ble_eq_true rfl⟩ ?_
                        rintro _ _ ⟨r59, σ60, rfl, hHσ60, hO62, rfl⟩
                        obtain ⟨rT61, T61, hZT61⟩ := ex_readL (S := T24) (u := u) (w := w) (x := (nI j)) hST24.1
                        obtain ⟨eT61, hRσ60⟩ := hO62 rT61 T61 hZT61
                        obtain ⟨x, hx2, ex, hx0, hxx, hL⟩ := l_ok (F := rK S i) hZT61 (by omega) (by omega) fl (fun p hp => fL p hp)
                        have exx : x = 1 := by
                          have n0 : ¬ x = 0 := fun q => zc187 (hx0.mp q)
                          have n2 : ¬ x = 2 := fun q => (hxx.mp q).2 zc202
                          omega
                        subst exx
                        obtain ⟨ul, uK, uA, uP, uP2, uF⟩ := hL
                        obtain rfl : r59 = nI 1 := eT61.trans ex
                        have hST61 := SI_readL hST24 hZT61
                        have hJT61 := JJ_readL hST24.1 hJT24 hZT61
                        have hlσ60_k : σ60 k 4096 = nI 8 := by rw [hHσ60 k (by omega)]; exact hlσ28_k
                        have hlσ60_k1 : σ60 (k + 1) 4096 = nI 8 := by rw [hHσ60 (k + 1) (by omega)]; exact hlσ28
                        have hfσ60_k : ∀ zz, zz < u → σ60 k zz = (rK S i) zz := fun q hq => by rw [hHσ60 k (by omega)]; exact hfσ28_k q hq
                        have hfσ60_k1 : ∀ zz, zz < u → σ60 (k + 1) zz = (rK T24 j) zz := fun q hq => by rw [hHσ60 (k + 1) (by omega)]; exact hfσ28 q hq
                        show xV _ _ _ _ _ _ _ _ _ _ _ _ _ _ _ _ _ (xH D b σ60) _ _ [.int (nI 1)]
                        refine xi_iload hC dL_letters_217 (pc' := 219) rfl rfl ?_
                        refine xn_icmpne (tgt := 244) hC dL_letters_219 (pc' := 222) rfl (by decide) (by omega) (by omega) (fun zc219 => ?_) (fun zc219 => ?_)
                        · exact absurd zc219 (by decide)
                        · skip
                          refine xi_aload_n hC dL_letters_222 (pc' := 223) rfl rfl rfl ?_
                          refine xi_iload_n hC dL_letters_223 (pc' := 224) rfl rfl rfl ?_
                          refine xi_callV (As := [.int (nI j)]) (rest := []) (c_X7_readLetter l D b (b + (k + 2)) (σ := σ60) (S := T61) (N := N) (u := u) (w := w) hST61 hRσ60 (by omega) (x := (nI j))) hC dL_letters_224 (pc' := 227) rfl xw_m_L_66 xw_c_X7_readLetter xw_ins_X7_readLetter xw_sel_X7_readLetter xw_ini_X7 xd_X7_readLetter (xH_at.trans (xsh_7 kd_0)) rfl ⟨Nat.le_of_ble_eq_true rfl, Nat.le_of_ble_eq_true rfl⟩ rfl (Nat.le_of_ble_eq_true rfl) ⟨Nat.le_of_ble_eq_true rfl, Nat.le_of_ble_eq_true rfl⟩ ?_
                          rintro _ _ ⟨r63, σ64, rfl, hHσ64, hO66, rfl⟩
                          obtain ⟨rT65, T65, hZT65⟩ := ex_readL (S := T61) (u := u) (w := w) (x := (nI j)) hST61.1
                          obtain ⟨eT65, hRσ64⟩ := hO66 rT65 T65 hZT65
                          obtain ⟨e2T65, e3T65⟩ := l_none hZT65 hj ul
                          have e4T65 := e3T65.symm
                          subst e4T65
                          obtain rfl : r63 = (-10005) := eT65.trans e2T65
                          have hlσ64_k : σ64 k 4096 = nI 8 := by rw [hHσ64 k (by omega)]; exact hlσ60_k
                          have hlσ64_k1 : σ64 (k + 1) 4096 = nI 8 := by rw [hHσ64 (k + 1) (by omega)]; exact hlσ60_k1
                          have hfσ64_k : ∀ zz, zz < u → σ64 k zz = (rK S i) zz := fun q hq => by rw [hHσ64 k (by omega)]; exact hfσ60_k q hq
                          have hfσ64_k1 : ∀ zz, zz < u → σ64 (k + 1) zz = (rK T24 j) zz := fun q hq => by rw [hHσ64 (k + 1) (by omega)]; exact hfσ60_k1 q hq
                          show xV _ _ _ _ _ _ _ _ _ _ _ _ _ _ _ _ _ (xH D b σ64) _ _ [.int (-10005)]
                          refine xi_sipush (v := -10005) hC dL_letters_227 (pc' := 230) rfl (by decide +kernel) ?_
                          refine xi_icmpne (tgt := 244) hC dL_letters_230 (pc' := 233) rfl (by decide) (fun zc230 => ?_) (fun zc230 => ?_)
                          · exact absurd rfl zc230
                          · skip
                            refine xi_aload_n hC dL_letters_233 (pc' := 234) rfl rfl rfl ?_
                            refine xi_iload_n hC dL_letters_234 (pc' := 235) rfl rfl rfl ?_
                            refine xi_callV (As := [.int (nI j)]) (rest := []) (c_X7_loseLetter l D b (b + (k + 2)) (σ := σ64) (S := T61) (N := N) (u := u) (w := w) hST61 hRσ64 (by omega) (x := (nI j))) hC dL_letters_235 (pc' := 238) rfl xw_m_L_63 xw_c_X7_loseLetter xw_ins_X7_loseLetter xw_sel_X7_loseLetter xw_ini_X7 xd_X7_loseLetter (xH_at.trans (xsh_7 kd_0)) rfl ⟨Nat.le_of_ble_eq_true rfl, Nat.le_of_ble_eq_true rfl⟩ rfl (Nat.le_of_ble_eq_true rfl) ⟨Nat.le_of_ble_eq_true rfl, Nat.le_of_ble_eq_true rfl⟩ ?_
                            rintro _ _ ⟨r67, σ68, rfl, hHσ68, hO70, rfl⟩
                            obtain ⟨rT69, T69, hZT69⟩ := ex_lose (S := T61) (u := u) (w := w) (x := (nI j)) hST61.1
                            obtain ⟨eT69, hRσ68⟩ := hO70 rT69 T69 hZT69
                            obtain ⟨e2T69, e3T69⟩ := o_none hZT69 hj ul
                            have e4T69 := e3T69.symm
                            subst e4T69
                            obtain rfl : r67 = (-10005) := eT69.trans e2T69
                            have hlσ68_k : σ68 k 4096 = nI 8 := by rw [hHσ68 k (by omega)]; exact hlσ64_k
                            have hlσ68_k1 : σ68 (k + 1) 4096 = nI 8 := by rw [hHσ68 (k + 1) (by omega)]; exact hlσ64_k1
                            have hfσ68_k : ∀ zz, zz < u → σ68 k zz = (rK S i) zz := fun q hq => by rw [hHσ68 k (by omega)]; exact hfσ64_k q hq
                            have hfσ68_k1 : ∀ zz, zz < u → σ68 (k + 1) zz = (rK T24 j) zz := fun q hq => by rw [hHσ68 (k + 1) (by omega)]; exact hfσ64_k1 q hq
                            show xV _ _ _ _ _ _ _ _ _ _ _ _ _ _ _ _ _ (xH D b σ68) _ _ [.int (-10005)]
                            refine xi_sipush (v := -10005) hC dL_letters_238 (pc' := 241) rfl (by decide +kernel) ?_
                            refine xi_icmpeq (tgt := 246) hC dL_letters_241 (pc' := 244) rfl (by decide) (fun zc241 => ?_) (fun zc241 => ?_)
                            · skip
                              refine xi_iconst (v := nI 0) hC dL_letters_246 (pc' := 247) rfl (by decide +kernel) ?_
                              refine xi_istore (lv' := [some (.ref (b + 0)), some (.int (nI i)), some (.int (nI j)), some (.int (nI u)), some (.int g), some (.ref (b + k)), some (.ref (b + (k + 1))), some (.int (nI 0)), some (.int (S m_sentBy i)), some (.int (nI 1)), some (.int (nI a)), some (.int (nI 0)), some (.int (nI 1)), some (.int (nI 0))]) hC dL_letters_247 (pc' := 249) rfl (by decide) rfl ?_
                              have L249 : ∀ (d : Nat) (p1 : Nat), u - p1 < d → (p1 ≤ u) → xV p l e (xR 4 89 2 16) s m args below meth c D b 14 2 16 (MQ below (xQ D b (b + (k + 2)) (fun y' h' => ∃ τ T : XM, y' = some (.int (nI 1)) ∧ SI (N + 1) T u w ∧ RR τ T u w ∧ JJ (N + 1) T u ∧ h' = xH D b τ)) args s 2 16 (fun q => b ≤ q)) (b + (k + 2)) (xH D b σ68) 249 [some (.ref (b + 0)), some (.int (nI i)), some (.int (nI j)), some (.int (nI u)), some (.int g), some (.ref (b + k)), some (.ref (b + (k + 1))), some (.int (nI 0)), some (.int (S m_sentBy i)), some (.int (nI 1)), some (.int (nI a)), some (.int (nI 0)), some (.int (nI 1)), some (.int (nI p1))] [] := by
                                intro d
                                induction d with
                                | zero => intro p1 h; exact absurd h (Nat.not_lt_zero _)
                                | succ d ih249 =>
                                  intro p1 hd249 hp1
                                  refine xi_iload hC dL_letters_249 (pc' := 251) rfl rfl ?_
                                  refine xi_iload_n hC dL_letters_251 (pc' := 252) rfl rfl rfl ?_
                                  refine xn_icmpge (tgt := 336) hC dL_letters_252 (pc' := 255) rfl (by decide) (by omega) (by omega) (fun zc252 => ?_) (fun zc252 => ?_)
                                  · skip
                                    refine xi_aload_n hC dL_letters_336 (pc' := 337) rfl rfl rfl ?_
                                    refine xi_iload_n hC dL_letters_337 (pc' := 338) rfl rfl rfl ?_
                                    refine xi_iconst (v := nI 1) hC dL_letters_338 (pc' := 339) rfl (by decide +kernel) ?_
                                    refine xi_callV (As := [.int (nI j), .int (nI 1)]) (rest := []) (c_X7_user l D b (b + (k + 2)) (σ := σ68) (S := T61) (N := N) (u := u) (w := w) hST61 hRσ68 (by omega) (x := (nI j)) (y := (nI 1))) hC dL_letters_339 (pc' := 342) rfl xw_m_L_18 xw_c_X7_user xw_ins_X7_user xw_sel_X7_user xw_ini_X7 xd_X7_user (xH_at.trans (xsh_7 kd_0)) rfl ⟨Nat.le_of_ble_eq_true rfl, Nat.le_of_ble_eq_true rfl⟩ rfl (Nat.le_of_ble_eq_true rfl) ⟨Nat.le_of_ble_eq_true rfl, Nat.le_of_ble_eq_true rfl⟩ ?_
                                    rintro _ _ ⟨r71, rfl, hO72, rfl⟩
                                    obtain rfl : r71 = (nI a) := hO72 _ (su_1 (by omega) (by omega) ((uA a hA ha5).trans (by rw [if_neg (by omega)])))
                                    show xV _ _ _ _ _ _ _ _ _ _ _ _ _ _ _ _ _ (xH D b σ68) _ _ [.int (nI a)]
                                    refine xi_iload hC dL_letters_342 (pc' := 344) rfl rfl ?_
                                    refine xi_iconst (v := nI 2) hC dL_letters_344 (pc' := 345) rfl (by decide +kernel) ?_
                                    refine xn_icmpne (tgt := 357) hC dL_letters_345 (pc' := 348) rfl (by decide) (by omega) (by omega) (fun zc345 => ?_) (fun zc345 => ?_)
                                    · skip
                                      refine xi_iload hC dL_letters_357 (pc' := 359) rfl rfl ?_
                                      refine xi_icmpne (tgt := 400) hC dL_letters_359 (pc' := 362) rfl (by decide) (fun zc359 => ?_) (fun zc359 => ?_)
                                      · exact absurd rfl zc359
                                      · skip
                                        refine xi_aload_n hC dL_letters_362 (pc' := 363) rfl rfl rfl ?_
                                        refine xi_iload_n hC dL_letters_363 (pc' := 364) rfl rfl rfl ?_
                                        refine xi_iconst (v := nI 2) hC dL_letters_364 (pc' := 365) rfl (by decide +kernel) ?_
                                        refine xi_callV (As := [.int (nI j), .int (nI 2)]) (rest := []) (c_X7_user l D b (b + (k + 2)) (σ := σ68) (S := T61) (N := N) (u := u) (w := w) hST61 hRσ68 (by omega) (x := (nI j)) (y := (nI 2))) hC dL_letters_365 (pc' := 368) rfl xw_m_L_18 xw_c_X7_user xw_ins_X7_user xw_sel_X7_user xw_ini_X7 xd_X7_user (xH_at.trans (xsh_7 kd_0)) rfl ⟨Nat.le_of_ble_eq_true rfl, Nat.le_of_ble_eq_true rfl⟩ rfl (Nat.le_of_ble_eq_true rfl) ⟨Nat.le_of_ble_eq_true rfl, Nat.le_of_ble_eq_true rfl⟩ ?_
                                        rintro _ _ ⟨r73, rfl, hO74, rfl⟩
                                        obtain rfl : r73 = (nI 0) := hO74 _ (su_2f (by omega) (by omega) (by rw [uP (by decide)]; exact hp))
                                        show xV _ _ _ _ _ _ _ _ _ _ _ _ _ _ _ _ _ (xH D b σ68) _ _ [.int (nI 0)]
                                        refine xi_iconst (v := nI 1) hC dL_letters_368 (pc' := 369) rfl (by decide +kernel) ?_
                                        refine xn_icmpne (tgt := 376) hC dL_letters_369 (pc' := 372) rfl (by decide) (by omega) (by omega) (fun zc369 => ?_) (fun zc369 => ?_)
                                        · skip
                                          refine xi_iconst (v := nI 0) hC dL_letters_376 (pc' := 377) rfl (by decide +kernel) ?_
                                          refine xi_iload hC dL_letters_377 (pc' := 379) rfl rfl ?_
                                          refine xn_ifne (tgt := 388) hC dL_letters_379 (pc' := 382) rfl (by decide) (by omega) (fun zc379 => ?_) (fun zc379 => ?_)
                                          · exact absurd zc379 (by decide)
                                          · skip
                                            refine xi_iload hC dL_letters_382 (pc' := 384) rfl rfl ?_
                                            refine xi_iconst (v := nI 2) hC dL_letters_384 (pc' := 385) rfl (by decide +kernel) ?_
                                            refine xn_icmpne (tgt := 392) hC dL_letters_385 (pc' := 388) rfl (by decide) (by omega) (by omega) (fun zc385 => ?_) (fun zc385 => ?_)
                                            · skip
                                              refine xi_iconst (v := nI 0) hC dL_letters_392 (pc' := 393) rfl (by decide +kernel) ?_
                                              refine xn_icmpne (tgt := 400) hC dL_letters_393 (pc' := 396) rfl (by decide) (by omega) (by omega) (fun zc393 => ?_) (fun zc393 => ?_)
                                              · exact absurd zc393 (by decide)
                                              · skip
                                                refine xi_iconst (v := nI 1) hC dL_letters_396 (pc' := 397) rfl (by decide +kernel) ?_
                                                refine xi_goto (tgt := 401) hC dL_letters_397 (by decide) ?_
                                                refine xb_ireturn hC dL_letters_401 hr (by decide) rfl ?_
                                                exact ⟨σ68, T61, rfl, (hST61).up (by omega), hRσ68, (hJT61).up (by omega), rfl⟩
                                            · exact absurd zc385 (by decide)
                                        · exact absurd zc369 (by decide)
                                    · exact absurd zc345 (by decide)
                                  · skip
                                    refine xi_aload_n hC dL_letters_255 (pc' := 256) rfl rfl rfl ?_
                                    refine xi_iload_n hC dL_letters_256 (pc' := 257) rfl rfl rfl ?_
                                    refine xi_iconst (v := nI 1) hC dL_letters_257 (pc' := 258) rfl (by decide +kernel) ?_
                                    refine xi_iload hC dL_letters_258 (pc' := 260) rfl rfl ?_
                                    refine xi_callV (As := [.int (nI j), .int (nI 1), .int (nI p1)]) (rest := []) (c_X7_vector l D b (b + (k + 2)) (σ := σ68) (S := T61) (N := N) (u := u) (w := w) hST61 hRσ68 (by omega) (x := (nI j)) (y := (nI 1)) (z := (nI p1))) hC dL_letters_260 (pc' := 263) rfl xw_m_L_9 xw_c_X7_vector xw_ins_X7_vector xw_sel_X7_vector xw_ini_X7 xd_X7_vector (xH_at.trans (xsh_7 kd_0)) rfl ⟨Nat.le_of_ble_eq_true rfl, Nat.le_of_ble_eq_true rfl⟩ rfl (Nat.le_of_ble_eq_true rfl) ⟨Nat.le_of_ble_eq_true rfl, Nat.le_of_ble_eq_true rfl⟩ ?_
                                    rintro _ _ ⟨r75, rfl, hO76, rfl⟩
                                    obtain rfl : r75 = (rK S i p1) := (hO76 _ (sv_1 (by omega) (by omega) (by omega))).trans ((uK p1 (by omega)).trans (if_pos rfl))
                                    show xV _ _ _ _ _ _ _ _ _ _ _ _ _ _ _ _ _ (xH D b σ68) _ _ [.int (rK S i p1)]
                                    refine xi_iload hC dL_letters_263 (pc' := 265) rfl rfl ?_
                                    refine xi_iconst (v := nI 1) hC dL_letters_265 (pc' := 266) rfl (by decide +kernel) ?_
                                    refine xn_icmpne (tgt := 277) hC dL_letters_266 (pc' := 269) rfl (by decide) (by omega) (by omega) (fun zc266 => ?_) (fun zc266 => ?_)
                                    · exact absurd zc266 (by decide)
                                    · skip
                                      refine xi_aload hC dL_letters_269 (pc' := 271) rfl rfl ?_
                                      refine xi_iload hC dL_letters_271 (pc' := 273) rfl rfl ?_
                                      refine xl_L hC dL_letters_273 (pc' := 274) rfl (by omega) (by decide : (8 : Nat) = 8 ∨ (8 : Nat) = 36) hlσ68_k rfl (by omega) ?_
                                      refine xtop (y := (rK S i p1)) (hfσ68_k p1 (by omega)) ?_
                                      refine xi_goto (tgt := 282) hC dL_letters_274 (by decide) ?_
                                      refine xi_icmpne (tgt := 328) hC dL_letters_282 (pc' := 285) rfl (by decide) (fun zc282 => ?_) (fun zc282 => ?_)
                                      · exact absurd rfl zc282
                                      · skip
                                        refine xi_iload hC dL_letters_285 (pc' := 287) rfl rfl ?_
                                        refine xi_iconst (v := nI 2) hC dL_letters_287 (pc' := 288) rfl (by decide +kernel) ?_
                                        refine xn_icmpne (tgt := 330) hC dL_letters_288 (pc' := 291) rfl (by decide) (by omega) (by omega) (fun zc288 => ?_) (fun zc288 => ?_)
                                        · skip
                                          refine xn_iinc (lv' := [some (.ref (b + 0)), some (.int (nI i)), some (.int (nI j)), some (.int (nI u)), some (.int g), some (.ref (b + k)), some (.ref (b + (k + 1))), some (.int (nI 0)), some (.int (S m_sentBy i)), some (.int (nI 1)), some (.int (nI a)), some (.int (nI 0)), some (.int (nI 1)), some (.int (nI (p1 + 1)))]) hC dL_letters_330 (pc' := 333) rfl rfl (by decide) rfl ?_
                                          refine xi_goto (tgt := 249) hC dL_letters_333 (by decide) ?_
                                          refine ih249 _ (by omega) ?_
                                          · omega
                                        · exact absurd zc288 (by decide)
                              refine L249 _ _ (Nat.lt_succ_self _) ?_
                              · omega
                            · exact absurd rfl zc241
                    · skip
                      refine xi_iconst (v := nI 0) hC dL_letters_190 (pc' := 191) rfl (by decide +kernel) ?_
                      refine xi_goto (tgt := 210) hC dL_letters_191 (by decide) ?_
                      refine xi_istore (lv' := [some (.ref (b + 0)), some (.int (nI i)), some (.int (nI j)), some (.int (nI u)), some (.int g), some (.ref (b + k)), some (.ref (b + (k + 1))), some (.int (nI 0)), some (.int (S m_sentBy i)), some (.int (nI 1)), some (.int (nI a)), some (.int (nI 0)), some (.int (nI 0)), none]) hC dL_letters_210 (pc' := 212) rfl (by decide) rfl ?_
                      refine xi_aload_n hC dL_letters_212 (pc' := 213) rfl rfl rfl ?_
                      refine xi_iload_n hC dL_letters_213 (pc' := 214) rfl rfl rfl ?_
                      refine xi_callV (As := [.int (nI j)]) (rest := []) (c_X7_readLetter l D b (b + (k + 2)) (σ := σ28) (S := T24) (N := N) (u := u) (w := w) hST24 hRσ28 (by omega) (x := (nI j))) hC dL_letters_214 (pc' := 217) rfl xw_m_L_66 xw_c_X7_readLetter xw_ins_X7_readLetter xw_sel_X7_readLetter xw_ini_X7 xd_X7_readLetter (xH_at.trans (xsh_7 kd_0)) rfl ⟨Nat.le_of_ble_eq_true rfl, Nat.le_of_ble_eq_true rfl⟩ rfl (Nat.le_of_ble_eq_true rfl) ⟨Nat.le_of_ble_eq_true rfl, Nat.le_of_ble_eq_true rfl⟩ ?_
                      rintro _ _ ⟨r77, σ78, rfl, hHσ78, hO80, rfl⟩
                      obtain ⟨rT79, T79, hZT79⟩ := ex_readL (S := T24) (u := u) (w := w) (x := (nI j)) hST24.1
                      obtain ⟨eT79, hRσ78⟩ := hO80 rT79 T79 hZT79
                      obtain ⟨x, hx2, ex, hx0, hxx, hL⟩ := l_ok (F := rK S i) hZT79 (by omega) (by omega) fl (fun p hp => fL p hp)
                      have exx : x = 0 := hx0.mpr zc187
                      subst exx
                      obtain ⟨ul, uK, uA, uP, uP2, uF⟩ := hL
                      obtain rfl : r77 = nI 0 := eT79.trans ex
                      have hST79 := SI_readL hST24 hZT79
                      have hJT79 := JJ_readL hST24.1 hJT24 hZT79
                      have hlσ78_k : σ78 k 4096 = nI 8 := by rw [hHσ78 k (by omega)]; exact hlσ28_k
                      have hlσ78_k1 : σ78 (k + 1) 4096 = nI 8 := by rw [hHσ78 (k + 1) (by omega)]; exact hlσ28
                      have hfσ78_k : ∀ zz, zz < u → σ78 k zz = (rK S i) zz := fun q hq => by rw [hHσ78 k (by omega)]; exact hfσ28_k q hq
                      have hfσ78_k1 : ∀ zz, zz < u → σ78 (k + 1) zz = (rK T24 j) zz := fun q hq => by rw [hHσ78 (k + 1) (by omega)]; exact hfσ28 q hq
                      show xV _ _ _ _ _ _ _ _ _ _ _ _ _ _ _ _ _ (xH D b σ78) _ _ [.int (nI 0)]
                      refine xi_iload hC dL_letters_217 (pc' := 219) rfl rfl ?_
                      refine xn_icmpne (tgt := 244) hC dL_letters_219 (pc' := 222) rfl (by decide) (by omega) (by omega) (fun zc219 => ?_) (fun zc219 => ?_)
                      · exact absurd zc219 (by decide)
                      · skip
                        refine xi_aload_n hC dL_letters_222 (pc' := 223) rfl rfl rfl ?_
                        refine xi_iload_n hC dL_letters_223 (pc' := 224) rfl rfl rfl ?_
                        refine xi_callV (As := [.int (nI j)]) (rest := []) (c_X7_readLetter l D b (b + (k + 2)) (σ := σ78) (S := T79) (N := N) (u := u) (w := w) hST79 hRσ78 (by omega) (x := (nI j))) hC dL_letters_224 (pc' := 227) rfl xw_m_L_66 xw_c_X7_readLetter xw_ins_X7_readLetter xw_sel_X7_readLetter xw_ini_X7 xd_X7_readLetter (xH_at.trans (xsh_7 kd_0)) rfl ⟨Nat.le_of_ble_eq_true rfl, Nat.le_of_ble_eq_true rfl⟩ rfl (Nat.le_of_ble_eq_true rfl) ⟨Nat.le_of_ble_eq_true rfl, Nat.le_of_ble_eq_true rfl⟩ ?_
                        rintro _ _ ⟨r81, σ82, rfl, hHσ82, hO84, rfl⟩
                        obtain ⟨rT83, T83, hZT83⟩ := ex_readL (S := T79) (u := u) (w := w) (x := (nI j)) hST79.1
                        obtain ⟨eT83, hRσ82⟩ := hO84 rT83 T83 hZT83
                        obtain ⟨e2T83, e3T83⟩ := l_none hZT83 hj ul
                        have e4T83 := e3T83.symm
                        subst e4T83
                        obtain rfl : r81 = (-10005) := eT83.trans e2T83
                        have hlσ82_k : σ82 k 4096 = nI 8 := by rw [hHσ82 k (by omega)]; exact hlσ78_k
                        have hlσ82_k1 : σ82 (k + 1) 4096 = nI 8 := by rw [hHσ82 (k + 1) (by omega)]; exact hlσ78_k1
                        have hfσ82_k : ∀ zz, zz < u → σ82 k zz = (rK S i) zz := fun q hq => by rw [hHσ82 k (by omega)]; exact hfσ78_k q hq
                        have hfσ82_k1 : ∀ zz, zz < u → σ82 (k + 1) zz = (rK T24 j) zz := fun q hq => by rw [hHσ82 (k + 1) (by omega)]; exact hfσ78_k1 q hq
                        show xV _ _ _ _ _ _ _ _ _ _ _ _ _ _ _ _ _ (xH D b σ82) _ _ [.int (-10005)]
                        refine xi_sipush (v := -10005) hC dL_letters_227 (pc' := 230) rfl (by decide +kernel) ?_
                        refine xi_icmpne (tgt := 244) hC dL_letters_230 (pc' := 233) rfl (by decide) (fun zc230 => ?_) (fun zc230 => ?_)
                        · exact absurd rfl zc230
                        · skip
                          refine xi_aload_n hC dL_letters_233 (pc' := 234) rfl rfl rfl ?_
                          refine xi_iload_n hC dL_letters_234 (pc' := 235) rfl rfl rfl ?_
                          refine xi_callV (As := [.int (nI j)]) (rest := []) (c_X7_loseLetter l D b (b + (k + 2)) (σ := σ82) (S := T79) (N := N) (u := u) (w := w) hST79 hRσ82 (by omega) (x := (nI j))) hC dL_letters_235 (pc' := 238) rfl xw_m_L_63 xw_c_X7_loseLetter xw_ins_X7_loseLetter xw_sel_X7_loseLetter xw_ini_X7 xd_X7_loseLetter (xH_at.trans (xsh_7 kd_0)) rfl ⟨Nat.le_of_ble_eq_true rfl, Nat.le_of_ble_eq_true rfl⟩ rfl (Nat.le_of_ble_eq_true rfl) ⟨Nat.le_of_ble_eq_true rfl, Nat.le_of_ble_eq_true rfl⟩ ?_
                          rintro _ _ ⟨r85, σ86, rfl, hHσ86, hO88, rfl⟩
                          obtain ⟨rT87, T87, hZT87⟩ := ex_lose (S := T79) (u := u) (w := w) (x := (nI j)) hST79.1
                          obtain ⟨eT87, hRσ86⟩ := hO88 rT87 T87 hZT87
                          obtain ⟨e2T87, e3T87⟩ := o_none hZT87 hj ul
                          have e4T87 := e3T87.symm
                          subst e4T87
                          obtain rfl : r85 = (-10005) := eT87.trans e2T87
                          have hlσ86_k : σ86 k 4096 = nI 8 := by rw [hHσ86 k (by omega)]; exact hlσ82_k
                          have hlσ86_k1 : σ86 (k + 1) 4096 = nI 8 := by rw [hHσ86 (k + 1) (by omega)]; exact hlσ82_k1
                          have hfσ86_k : ∀ zz, zz < u → σ86 k zz = (rK S i) zz := fun q hq => by rw [hHσ86 k (by omega)]; exact hfσ82_k q hq
                          have hfσ86_k1 : ∀ zz, zz < u → σ86 (k + 1) zz = (rK T24 j) zz := fun q hq => by rw [hHσ86 (k + 1) (by omega)]; exact hfσ82_k1 q hq
                          show xV _ _ _ _ _ _ _ _ _ _ _ _ _ _ _ _ _ (xH D b σ86) _ _ [.int (-10005)]
                          refine xi_sipush (v := -10005) hC dL_letters_238 (pc' := 241) rfl (by decide +kernel) ?_
                          refine xi_icmpeq (tgt := 246) hC dL_letters_241 (pc' := 244) rfl (by decide) (fun zc241 => ?_) (fun zc241 => ?_)
                          · skip
                            refine xi_iconst (v := nI 0) hC dL_letters_246 (pc' := 247) rfl (by decide +kernel) ?_
                            refine xi_istore (lv' := [some (.ref (b + 0)), some (.int (nI i)), some (.int (nI j)), some (.int (nI u)), some (.int g), some (.ref (b + k)), some (.ref (b + (k + 1))), some (.int (nI 0)), some (.int (S m_sentBy i)), some (.int (nI 1)), some (.int (nI a)), some (.int (nI 0)), some (.int (nI 0)), some (.int (nI 0))]) hC dL_letters_247 (pc' := 249) rfl (by decide) rfl ?_
                            have L249 : ∀ (d : Nat) (p1 : Nat), u - p1 < d → (p1 ≤ u) → xV p l e (xR 4 89 2 16) s m args below meth c D b 14 2 16 (MQ below (xQ D b (b + (k + 2)) (fun y' h' => ∃ τ T : XM, y' = some (.int (nI 1)) ∧ SI (N + 1) T u w ∧ RR τ T u w ∧ JJ (N + 1) T u ∧ h' = xH D b τ)) args s 2 16 (fun q => b ≤ q)) (b + (k + 2)) (xH D b σ86) 249 [some (.ref (b + 0)), some (.int (nI i)), some (.int (nI j)), some (.int (nI u)), some (.int g), some (.ref (b + k)), some (.ref (b + (k + 1))), some (.int (nI 0)), some (.int (S m_sentBy i)), some (.int (nI 1)), some (.int (nI a)), some (.int (nI 0)), some (.int (nI 0)), some (.int (nI p1))] [] := by
                              intro d
                              induction d with
                              | zero => intro p1 h; exact absurd h (Nat.not_lt_zero _)
                              | succ d ih249 =>
                                intro p1 hd249 hp1
                                refine xi_iload hC dL_letters_249 (pc' := 251) rfl rfl ?_
                                refine xi_iload_n hC dL_letters_251 (pc' := 252) rfl rfl rfl ?_
                                refine xn_icmpge (tgt := 336) hC dL_letters_252 (pc' := 255) rfl (by decide) (by omega) (by omega) (fun zc252 => ?_) (fun zc252 => ?_)
                                · skip
                                  refine xi_aload_n hC dL_letters_336 (pc' := 337) rfl rfl rfl ?_
                                  refine xi_iload_n hC dL_letters_337 (pc' := 338) rfl rfl rfl ?_
                                  refine xi_iconst (v := nI 1) hC dL_letters_338 (pc' := 339) rfl (by decide +kernel) ?_
                                  refine xi_callV (As := [.int (nI j), .int (nI 1)]) (rest := []) (c_X7_user l D b (b + (k + 2)) (σ := σ86) (S := T79) (N := N) (u := u) (w := w) hST79 hRσ86 (by omega) (x := (nI j)) (y := (nI 1))) hC dL_letters_339 (pc' := 342) rfl xw_m_L_18 xw_c_X7_user xw_ins_X7_user xw_sel_X7_user xw_ini_X7 xd_X7_user (xH_at.trans (xsh_7 kd_0)) rfl ⟨Nat.le_of_ble_eq_true rfl, Nat.le_of_ble_eq_true rfl⟩ rfl (Nat.le_of_ble_eq_true rfl) ⟨Nat.le_of_ble_eq_true rfl, Nat.le_of_ble_eq_true rfl⟩ ?_
                                  rintro _ _ ⟨r89, rfl, hO90, rfl⟩
                                  obtain rfl : r89 = (nI a) := hO90 _ (su_1 (by omega) (by omega) ((uA a hA ha5).trans (by rw [if_neg (by omega)])))
                                  show xV _ _ _ _ _ _ _ _ _ _ _ _ _ _ _ _ _ (xH D b σ86) _ _ [.int (nI a)]
                                  refine xi_iload hC dL_letters_342 (pc' := 344) rfl rfl ?_
                                  refine xi_iconst (v := nI 2) hC dL_letters_344 (pc' := 345) rfl (by decide +kernel) ?_
                                  refine xn_icmpne (tgt := 357) hC dL_letters_345 (pc' := 348) rfl (by decide) (by omega) (by omega) (fun zc345 => ?_) (fun zc345 => ?_)
                                  · skip
                                    refine xi_iload hC dL_letters_357 (pc' := 359) rfl rfl ?_
                                    refine xi_icmpne (tgt := 400) hC dL_letters_359 (pc' := 362) rfl (by decide) (fun zc359 => ?_) (fun zc359 => ?_)
                                    · exact absurd rfl zc359
                                    · skip
                                      refine xi_aload_n hC dL_letters_362 (pc' := 363) rfl rfl rfl ?_
                                      refine xi_iload_n hC dL_letters_363 (pc' := 364) rfl rfl rfl ?_
                                      refine xi_iconst (v := nI 2) hC dL_letters_364 (pc' := 365) rfl (by decide +kernel) ?_
                                      refine xi_callV (As := [.int (nI j), .int (nI 2)]) (rest := []) (c_X7_user l D b (b + (k + 2)) (σ := σ86) (S := T79) (N := N) (u := u) (w := w) hST79 hRσ86 (by omega) (x := (nI j)) (y := (nI 2))) hC dL_letters_365 (pc' := 368) rfl xw_m_L_18 xw_c_X7_user xw_ins_X7_user xw_sel_X7_user xw_ini_X7 xd_X7_user (xH_at.trans (xsh_7 kd_0)) rfl ⟨Nat.le_of_ble_eq_true rfl, Nat.le_of_ble_eq_true rfl⟩ rfl (Nat.le_of_ble_eq_true rfl) ⟨Nat.le_of_ble_eq_true rfl, Nat.le_of_ble_eq_true rfl⟩ ?_
                                      rintro _ _ ⟨r91, rfl, hO92, rfl⟩
                                      obtain rfl : r91 = (nI 0) := hO92 _ (su_2f (by omega) (by omega) (by rw [uP (by decide)]; exact hp))
                                      show xV _ _ _ _ _ _ _ _ _ _ _ _ _ _ _ _ _ (xH D b σ86) _ _ [.int (nI 0)]
                                      refine xi_iconst (v := nI 1) hC dL_letters_368 (pc' := 369) rfl (by decide +kernel) ?_
                                      refine xn_icmpne (tgt := 376) hC dL_letters_369 (pc' := 372) rfl (by decide) (by omega) (by omega) (fun zc369 => ?_) (fun zc369 => ?_)
                                      · skip
                                        refine xi_iconst (v := nI 0) hC dL_letters_376 (pc' := 377) rfl (by decide +kernel) ?_
                                        refine xi_iload hC dL_letters_377 (pc' := 379) rfl rfl ?_
                                        refine xn_ifne (tgt := 388) hC dL_letters_379 (pc' := 382) rfl (by decide) (by omega) (fun zc379 => ?_) (fun zc379 => ?_)
                                        · exact absurd zc379 (by decide)
                                        · skip
                                          refine xi_iload hC dL_letters_382 (pc' := 384) rfl rfl ?_
                                          refine xi_iconst (v := nI 2) hC dL_letters_384 (pc' := 385) rfl (by decide +kernel) ?_
                                          refine xn_icmpne (tgt := 392) hC dL_letters_385 (pc' := 388) rfl (by decide) (by omega) (by omega) (fun zc385 => ?_) (fun zc385 => ?_)
                                          · skip
                                            refine xi_iconst (v := nI 0) hC dL_letters_392 (pc' := 393) rfl (by decide +kernel) ?_
                                            refine xn_icmpne (tgt := 400) hC dL_letters_393 (pc' := 396) rfl (by decide) (by omega) (by omega) (fun zc393 => ?_) (fun zc393 => ?_)
                                            · exact absurd zc393 (by decide)
                                            · skip
                                              refine xi_iconst (v := nI 1) hC dL_letters_396 (pc' := 397) rfl (by decide +kernel) ?_
                                              refine xi_goto (tgt := 401) hC dL_letters_397 (by decide) ?_
                                              refine xb_ireturn hC dL_letters_401 hr (by decide) rfl ?_
                                              exact ⟨σ86, T79, rfl, (hST79).up (by omega), hRσ86, (hJT79).up (by omega), rfl⟩
                                          · exact absurd zc385 (by decide)
                                      · exact absurd zc369 (by decide)
                                  · exact absurd zc345 (by decide)
                                · skip
                                  refine xi_aload_n hC dL_letters_255 (pc' := 256) rfl rfl rfl ?_
                                  refine xi_iload_n hC dL_letters_256 (pc' := 257) rfl rfl rfl ?_
                                  refine xi_iconst (v := nI 1) hC dL_letters_257 (pc' := 258) rfl (by decide +kernel) ?_
                                  refine xi_iload hC dL_letters_258 (pc' := 260) rfl rfl ?_
                                  refine xi_callV (As := [.int (nI j), .int (nI 1), .int (nI p1)]) (rest := []) (c_X7_vector l D b (b + (k + 2)) (σ := σ86) (S := T79) (N := N) (u := u) (w := w) hST79 hRσ86 (by omega) (x := (nI j)) (y := (nI 1)) (z := (nI p1))) hC dL_letters_260 (pc' := 263) rfl xw_m_L_9 xw_c_X7_vector xw_ins_X7_vector xw_sel_X7_vector xw_ini_X7 xd_X7_vector (xH_at.trans (xsh_7 kd_0)) rfl ⟨Nat.le_of_ble_eq_true rfl, Nat.le_of_ble_eq_true rfl⟩ rfl (Nat.le_of_ble_eq_true rfl) ⟨Nat.le_of_ble_eq_true rfl, Nat.le_of_ble_eq_true rfl⟩ ?_
                                  rintro _ _ ⟨r93, rfl, hO94, rfl⟩
                                  obtain rfl : r93 = (rK T24 j p1) := (hO94 _ (sv_1 (by omega) (by omega) (by omega))).trans ((uK p1 (by omega)).trans (if_neg (by decide)))
                                  show xV _ _ _ _ _ _ _ _ _ _ _ _ _ _ _ _ _ (xH D b σ86) _ _ [.int (rK T24 j p1)]
                                  refine xi_iload hC dL_letters_263 (pc' := 265) rfl rfl ?_
                                  refine xi_iconst (v := nI 1) hC dL_letters_265 (pc' := 266) rfl (by decide +kernel) ?_
                                  refine xn_icmpne (tgt := 277) hC dL_letters_266 (pc' := 269) rfl (by decide) (by omega) (by omega) (fun zc266 => ?_) (fun zc266 => ?_)
                                  · skip
                                    refine xi_aload hC dL_letters_277 (pc' := 279) rfl rfl ?_
                                    refine xi_iload hC dL_letters_279 (pc' := 281) rfl rfl ?_
                                    refine xl_L hC dL_letters_281 (pc' := 282) rfl (by omega) (by decide : (8 : Nat) = 8 ∨ (8 : Nat) = 36) hlσ86_k1 rfl (by omega) ?_
                                    refine xtop (y := (rK T24 j p1)) (hfσ86_k1 p1 (by omega)) ?_
                                    refine xi_icmpne (tgt := 328) hC dL_letters_282 (pc' := 285) rfl (by decide) (fun zc282 => ?_) (fun zc282 => ?_)
                                    · exact absurd rfl zc282
                                    · skip
                                      refine xi_iload hC dL_letters_285 (pc' := 287) rfl rfl ?_
                                      refine xi_iconst (v := nI 2) hC dL_letters_287 (pc' := 288) rfl (by decide +kernel) ?_
                                      refine xn_icmpne (tgt := 330) hC dL_letters_288 (pc' := 291) rfl (by decide) (by omega) (by omega) (fun zc288 => ?_) (fun zc288 => ?_)
                                      · skip
                                        refine xn_iinc (lv' := [some (.ref (b + 0)), some (.int (nI i)), some (.int (nI j)), some (.int (nI u)), some (.int g), some (.ref (b + k)), some (.ref (b + (k + 1))), some (.int (nI 0)), some (.int (S m_sentBy i)), some (.int (nI 1)), some (.int (nI a)), some (.int (nI 0)), some (.int (nI 0)), some (.int (nI (p1 + 1)))]) hC dL_letters_330 (pc' := 333) rfl rfl (by decide) rfl ?_
                                        refine xi_goto (tgt := 249) hC dL_letters_333 (by decide) ?_
                                        refine ih249 _ (by omega) ?_
                                        · omega
                                      · exact absurd zc288 (by decide)
                                  · exact absurd zc266 (by decide)
                            refine L249 _ _ (Nat.lt_succ_self _) ?_
                            · omega
                          · exact absurd rfl zc241
                  · exact absurd zc169 (by decide)
                · skip
                  refine xi_aload_n hC dL_letters_154 (pc' := 155) rfl rfl rfl ?_
                  refine xi_iload_n hC dL_letters_155 (pc' := 156) rfl rfl rfl ?_
                  refine xi_iconst (v := nI 1) hC dL_letters_156 (pc' := 157) rfl (by decide +kernel) ?_
                  refine xi_callV (As := [.int (nI j), .int (nI 1)]) (rest := []) (c_X7_user l D b (b + (k + 2)) (σ := σ28) (S := T24) (N := N) (u := u) (w := w) hST24 hRσ28 (by omega) (x := (nI j)) (y := (nI 1))) hC dL_letters_157 (pc' := 160) rfl xw_m_L_18 xw_c_X7_user xw_ins_X7_user xw_sel_X7_user xw_ini_X7 xd_X7_user (xH_at.trans (xsh_7 kd_0)) rfl ⟨Nat.le_of_ble_eq_true rfl, Nat.le_of_ble_eq_true rfl⟩ rfl (Nat.le_of_ble_eq_true rfl) ⟨Nat.le_of_ble_eq_true rfl, Nat.le_of_ble_eq_true rfl⟩ ?_
                  rintro _ _ ⟨r95, rfl, hO96, rfl⟩
                  obtain rfl : r95 = (nI a) := hO96 _ (su_1 (by omega) (by omega) hA)
                  show xV _ _ _ _ _ _ _ _ _ _ _ _ _ _ _ _ _ (xH D b σ28) _ _ [.int (nI a)]
                  refine xi_istore (lv' := [some (.ref (b + 0)), some (.int (nI i)), some (.int (nI j)), some (.int (nI u)), some (.int g), some (.ref (b + k)), some (.ref (b + (k + 1))), some (.int (nI 0)), some (.int (S m_sentBy i)), some (.int (nI 1)), some (.int (nI a)), none, none, none]) hC dL_letters_160 (pc' := 162) rfl (by decide) rfl ?_
                  refine xi_aload_n hC dL_letters_162 (pc' := 163) rfl rfl rfl ?_
                  refine xi_iload_n hC dL_letters_163 (pc' := 164) rfl rfl rfl ?_
                  refine xi_iconst (v := nI 2) hC dL_letters_164 (pc' := 165) rfl (by decide +kernel) ?_
                  refine xi_callV (As := [.int (nI j), .int (nI 2)]) (rest := []) (c_X7_user l D b (b + (k + 2)) (σ := σ28) (S := T24) (N := N) (u := u) (w := w) hST24 hRσ28 (by omega) (x := (nI j)) (y := (nI 2))) hC dL_letters_165 (pc' := 168) rfl xw_m_L_18 xw_c_X7_user xw_ins_X7_user xw_sel_X7_user xw_ini_X7 xd_X7_user (xH_at.trans (xsh_7 kd_0)) rfl ⟨Nat.le_of_ble_eq_true rfl, Nat.le_of_ble_eq_true rfl⟩ rfl (Nat.le_of_ble_eq_true rfl) ⟨Nat.le_of_ble_eq_true rfl, Nat.le_of_ble_eq_true rfl⟩ ?_
                  rintro _ _ ⟨r97, rfl, hO98, rfl⟩
                  obtain rfl : r97 = (nI 1) := hO98 _ (su_2t (by omega) (by omega) hp)
                  show xV _ _ _ _ _ _ _ _ _ _ _ _ _ _ _ _ _ (xH D b σ28) _ _ [.int (nI 1)]
                  refine xi_iconst (v := nI 1) hC dL_letters_168 (pc' := 169) rfl (by decide +kernel) ?_
                  refine xn_icmpne (tgt := 176) hC dL_letters_169 (pc' := 172) rfl (by decide) (by omega) (by omega) (fun zc169 => ?_) (fun zc169 => ?_)
                  · exact absurd zc169 (by decide)
                  · skip
                    refine xi_iconst (v := nI 1) hC dL_letters_172 (pc' := 173) rfl (by decide +kernel) ?_
                    refine xi_goto (tgt := 177) hC dL_letters_173 (by decide) ?_
                    refine xi_istore (lv' := [some (.ref (b + 0)), some (.int (nI i)), some (.int (nI j)), some (.int (nI u)), some (.int g), some (.ref (b + k)), some (.ref (b + (k + 1))), some (.int (nI 0)), some (.int (S m_sentBy i)), some (.int (nI 1)), some (.int (nI a)), some (.int (nI 1)), none, none]) hC dL_letters_177 (pc' := 179) rfl (by decide) rfl ?_
                    refine xi_aload hC dL_letters_179 (pc' := 181) rfl rfl ?_
                    refine xi_aload hC dL_letters_181 (pc' := 183) rfl rfl ?_
                    refine xi_iload_n hC dL_letters_183 (pc' := 184) rfl rfl rfl ?_
                    refine xi_callS (As := [.ref (b + k), .ref (b + (k + 1)), .int (nI u)]) (rest := []) (c_L_most l D b (b + (k + 2)) (σ := σ28) (ta := k) (tb := (k + 1)) (u := u) (by omega) (by omega) hlσ28_k hlσ28 (by omega)) hC dL_letters_184 (pc' := 187) rfl xw_m_L_28 xw_c_L_most xw_sta_L_most xw_ini_L xd_L_most ⟨Nat.le_of_ble_eq_true rfl, Nat.le_of_ble_eq_true rfl⟩ rfl (Nat.le_of_ble_eq_true rfl) ⟨Nat.le_of_ble_eq_true rfl, Nat.le_of_ble_eq_true rfl⟩ ?_
                    rintro _ _ ⟨rfl, rfl⟩
                    show xV _ _ _ _ _ _ _ _ _ _ _ _ _ _ _ _ _ (xH D b σ28) _ _ [.int (bI (vle u (σ28 k) (σ28 (k + 1))))]
                    refine xtop (y := (bI (vle u (rK S i) (rK T24 j)))) (bI_congr (vle_congr hfσ28_k hfσ28)) ?_
                    refine xb_ifeq (tgt := 194) hC dL_letters_187 (pc' := 190) rfl (by decide) (fun zc187 => ?_) (fun zc187 => ?_)
                    · skip
                      refine xi_aload hC dL_letters_194 (pc' := 196) rfl rfl ?_
                      refine xi_aload hC dL_letters_196 (pc' := 198) rfl rfl ?_
                      refine xi_iload_n hC dL_letters_198 (pc' := 199) rfl rfl rfl ?_
                      refine xi_callS (As := [.ref (b + (k + 1)), .ref (b + k), .int (nI u)]) (rest := []) (c_L_most l D b (b + (k + 2)) (σ := σ28) (ta := (k + 1)) (tb := k) (u := u) (by omega) (by omega) hlσ28 hlσ28_k (by omega)) hC dL_letters_199 (pc' := 202) rfl xw_m_L_28 xw_c_L_most xw_sta_L_most xw_ini_L xd_L_most ⟨Nat.le_of_ble_eq_true rfl, Nat.le_of_ble_eq_true rfl⟩ rfl (Nat.le_of_ble_eq_true rfl) ⟨Nat.le_of_ble_eq_true rfl, Nat.le_of_ble_eq_true rfl⟩ ?_
                      rintro _ _ ⟨rfl, rfl⟩
                      show xV _ _ _ _ _ _ _ _ _ _ _ _ _ _ _ _ _ (xH D b σ28) _ _ [.int (bI (vle u (σ28 (k + 1)) (σ28 k)))]
                      refine xtop (y := (bI (vle u (rK T24 j) (rK S i)))) (bI_congr (vle_congr hfσ28 hfσ28_k)) ?_
                      refine xb_ifeq (tgt := 209) hC dL_letters_202 (pc' := 205) rfl (by decide) (fun zc202 => ?_) (fun zc202 => ?_)
                      · skip
                        refine xi_iconst (v := nI 2) hC dL_letters_209 (pc' := 210) rfl (by decide +kernel) ?_
                        refine xi_istore (lv' := [some (.ref (b + 0)), some (.int (nI i)), some (.int (nI j)), some (.int (nI u)), some (.int g), some (.ref (b + k)), some (.ref (b + (k + 1))), some (.int (nI 0)), some (.int (S m_sentBy i)), some (.int (nI 1)), some (.int (nI a)), some (.int (nI 1)), some (.int (nI 2)), none]) hC dL_letters_210 (pc' := 212) rfl (by decide) rfl ?_
                        refine xi_aload_n hC dL_letters_212 (pc' := 213) rfl rfl rfl ?_
                        refine xi_iload_n hC dL_letters_213 (pc' := 214) rfl rfl rfl ?_
                        refine xi_callV (As := [.int (nI j)]) (rest := []) (c_X7_readLetter l D b (b + (k + 2)) (σ := σ28) (S := T24) (N := N) (u := u) (w := w) hST24 hRσ28 (by omega) (x := (nI j))) hC dL_letters_214 (pc' := 217) rfl xw_m_L_66 xw_c_X7_readLetter xw_ins_X7_readLetter xw_sel_X7_readLetter xw_ini_X7 xd_X7_readLetter (xH_at.trans (xsh_7 kd_0)) rfl ⟨Nat.le_of_ble_eq_true rfl, Nat.le_of_ble_eq_true rfl⟩ rfl (Nat.le_of_ble_eq_true rfl) ⟨Nat.le_of_ble_eq_true rfl, Nat.le_of_ble_eq_true rfl⟩ ?_
                        rintro _ _ ⟨r99, σ100, rfl, hHσ100, hO102, rfl⟩
                        obtain ⟨rT101, T101, hZT101⟩ := ex_readL (S := T24) (u := u) (w := w) (x := (nI j)) hST24.1
                        obtain ⟨eT101, hRσ100⟩ := hO102 rT101 T101 hZT101
                        obtain ⟨x, hx2, ex, hx0, hxx, hL⟩ := l_ok (F := rK S i) hZT101 (by omega) (by omega) fl (fun p hp => fL p hp)
                        have exx : x = 2 := hxx.mpr ⟨zc187, zc202⟩
                        subst exx
                        obtain ⟨ul, uK, uA, uP, uP2, uF⟩ := hL
                        obtain rfl : r99 = nI 2 := eT101.trans ex
                        have hST101 := SI_readL hST24 hZT101
                        have hJT101 := JJ_readL hST24.1 hJT24 hZT101
                        have hlσ100_k : σ100 k 4096 = nI 8 := by rw [hHσ100 k (by omega)]; exact hlσ28_k
                        have hlσ100_k1 : σ100 (k + 1) 4096 = nI 8 := by rw [hHσ100 (k + 1) (by omega)]; exact hlσ28
                        have hfσ100_k : ∀ zz, zz < u → σ100 k zz = (rK S i) zz := fun q hq => by rw [hHσ100 k (by omega)]; exact hfσ28_k q hq
                        have hfσ100_k1 : ∀ zz, zz < u → σ100 (k + 1) zz = (rK T24 j) zz := fun q hq => by rw [hHσ100 (k + 1) (by omega)]; exact hfσ28 q hq
                        show xV _ _ _ _ _ _ _ _ _ _ _ _ _ _ _ _ _ (xH D b σ100) _ _ [.int (nI 2)]
                        refine xi_iload hC dL_letters_217 (pc' := 219) rfl rfl ?_
                        refine xn_icmpne (tgt := 244) hC dL_letters_219 (pc' := 222) rfl (by decide) (by omega) (by omega) (fun zc219 => ?_) (fun zc219 => ?_)
                        · exact absurd zc219 (by decide)
                        · skip
                          refine xi_aload_n hC dL_letters_222 (pc' := 223) rfl rfl rfl ?_
                          refine xi_iload_n hC dL_letters_223 (pc' := 224) rfl rfl rfl ?_
                          refine xi_callV (As := [.int (nI j)]) (rest := []) (c_X7_readLetter l D b (b + (k + 2)) (σ := σ100) (S := T101) (N := N) (u := u) (w := w) hST101 hRσ100 (by omega) (x := (nI j))) hC dL_letters_224 (pc' := 227) rfl xw_m_L_66 xw_c_X7_readLetter xw_ins_X7_readLetter xw_sel_X7_readLetter xw_ini_X7 xd_X7_readLetter (xH_at.trans (xsh_7 kd_0)) rfl ⟨Nat.le_of_ble_eq_true rfl, Nat.le_of_ble_eq_true rfl⟩ rfl (Nat.le_of_ble_eq_true rfl) ⟨Nat.le_of_ble_eq_true rfl, Nat.le_of_ble_eq_true rfl⟩ ?_
                          rintro _ _ ⟨r103, σ104, rfl, hHσ104, hO106, rfl⟩
                          obtain ⟨rT105, T105, hZT105⟩ := ex_readL (S := T101) (u := u) (w := w) (x := (nI j)) hST101.1
                          obtain ⟨eT105, hRσ104⟩ := hO106 rT105 T105 hZT105
                          obtain ⟨e2T105, e3T105⟩ := l_none hZT105 hj ul
                          have e4T105 := e3T105.symm
                          subst e4T105
                          obtain rfl : r103 = (-10005) := eT105.trans e2T105
                          have hlσ104_k : σ104 k 4096 = nI 8 := by rw [hHσ104 k (by omega)]; exact hlσ100_k
                          have hlσ104_k1 : σ104 (k + 1) 4096 = nI 8 := by rw [hHσ104 (k + 1) (by omega)]; exact hlσ100_k1
                          have hfσ104_k : ∀ zz, zz < u → σ104 k zz = (rK S i) zz := fun q hq => by rw [hHσ104 k (by omega)]; exact hfσ100_k q hq
                          have hfσ104_k1 : ∀ zz, zz < u → σ104 (k + 1) zz = (rK T24 j) zz := fun q hq => by rw [hHσ104 (k + 1) (by omega)]; exact hfσ100_k1 q hq
                          show xV _ _ _ _ _ _ _ _ _ _ _ _ _ _ _ _ _ (xH D b σ104) _ _ [.int (-10005)]
                          refine xi_sipush (v := -10005) hC dL_letters_227 (pc' := 230) rfl (by decide +kernel) ?_
                          refine xi_icmpne (tgt := 244) hC dL_letters_230 (pc' := 233) rfl (by decide) (fun zc230 => ?_) (fun zc230 => ?_)
                          · exact absurd rfl zc230
                          · skip
                            refine xi_aload_n hC dL_letters_233 (pc' := 234) rfl rfl rfl ?_
                            refine xi_iload_n hC dL_letters_234 (pc' := 235) rfl rfl rfl ?_
                            refine xi_callV (As := [.int (nI j)]) (rest := []) (c_X7_loseLetter l D b (b + (k + 2)) (σ := σ104) (S := T101) (N := N) (u := u) (w := w) hST101 hRσ104 (by omega) (x := (nI j))) hC dL_letters_235 (pc' := 238) rfl xw_m_L_63 xw_c_X7_loseLetter xw_ins_X7_loseLetter xw_sel_X7_loseLetter xw_ini_X7 xd_X7_loseLetter (xH_at.trans (xsh_7 kd_0)) rfl ⟨Nat.le_of_ble_eq_true rfl, Nat.le_of_ble_eq_true rfl⟩ rfl (Nat.le_of_ble_eq_true rfl) ⟨Nat.le_of_ble_eq_true rfl, Nat.le_of_ble_eq_true rfl⟩ ?_
                            rintro _ _ ⟨r107, σ108, rfl, hHσ108, hO110, rfl⟩
                            obtain ⟨rT109, T109, hZT109⟩ := ex_lose (S := T101) (u := u) (w := w) (x := (nI j)) hST101.1
                            obtain ⟨eT109, hRσ108⟩ := hO110 rT109 T109 hZT109
                            obtain ⟨e2T109, e3T109⟩ := o_none hZT109 hj ul
                            have e4T109 := e3T109.symm
                            subst e4T109
                            obtain rfl : r107 = (-10005) := eT109.trans e2T109
                            have hlσ108_k : σ108 k 4096 = nI 8 := by rw [hHσ108 k (by omega)]; exact hlσ104_k
                            have hlσ108_k1 : σ108 (k + 1) 4096 = nI 8 := by rw [hHσ108 (k + 1) (by omega)]; exact hlσ104_k1
                            have hfσ108_k : ∀ zz, zz < u → σ108 k zz = (rK S i) zz := fun q hq => by rw [hHσ108 k (by omega)]; exact hfσ104_k q hq
                            have hfσ108_k1 : ∀ zz, zz < u → σ108 (k + 1) zz = (rK T24 j) zz := fun q hq => by rw [hHσ108 (k + 1) (by omega)]; exact hfσ104_k1 q hq
                            show xV _ _ _ _ _ _ _ _ _ _ _ _ _ _ _ _ _ (xH D b σ108) _ _ [.int (-10005)]
                            refine xi_sipush (v := -10005) hC dL_letters_238 (pc' := 241) rfl (by decide +kernel) ?_
                            refine xi_icmpeq (tgt := 246) hC dL_letters_241 (pc' := 244) rfl (by decide) (fun zc241 => ?_) (fun zc241 => ?_)
                            · skip
                              refine xi_iconst (v := nI 0) hC dL_letters_246 (pc' := 247) rfl (by decide +kernel) ?_
                              refine xi_istore (lv' := [some (.ref (b + 0)), some (.int (nI i)), some (.int (nI j)), some (.int (nI u)), some (.int g), some (.ref (b + k)), some (.ref (b + (k + 1))), some (.int (nI 0)), some (.int (S m_sentBy i)), some (.int (nI 1)), some (.int (nI a)), some (.int (nI 1)), some (.int (nI 2)), some (.int (nI 0))]) hC dL_letters_247 (pc' := 249) rfl (by decide) rfl ?_
                              have L249 : ∀ (d : Nat) (p1 : Nat), u - p1 < d → (p1 ≤ u) → xV p l e (xR 4 89 2 16) s m args below meth c D b 14 2 16 (MQ below (xQ D b (b + (k + 2)) (fun y' h' => ∃ τ T : XM, y' = some (.int (nI 1)) ∧ SI (N + 1) T u w ∧ RR τ T u w ∧ JJ (N + 1) T u ∧ h' = xH D b τ)) args s 2 16 (fun q => b ≤ q)) (b + (k + 2)) (xH D b σ108) 249 [some (.ref (b + 0)), some (.int (nI i)), some (.int (nI j)), some (.int (nI u)), some (.int g), some (.ref (b + k)), some (.ref (b + (k + 1))), some (.int (nI 0)), some (.int (S m_sentBy i)), some (.int (nI 1)), some (.int (nI a)), some (.int (nI 1)), some (.int (nI 2)), some (.int (nI p1))] [] := by
                                intro d
                                induction d with
                                | zero => intro p1 h; exact absurd h (Nat.not_lt_zero _)
                                | succ d ih249 =>
                                  intro p1 hd249 hp1
                                  refine xi_iload hC dL_letters_249 (pc' := 251) rfl rfl ?_
                                  refine xi_iload_n hC dL_letters_251 (pc' := 252) rfl rfl rfl ?_
                                  refine xn_icmpge (tgt := 336) hC dL_letters_252 (pc' := 255) rfl (by decide) (by omega) (by omega) (fun zc252 => ?_) (fun zc252 => ?_)
                                  · skip
                                    rcases Nat.eq_zero_or_pos a with rfl | ha0
                                    · skip
                                      refine xi_aload_n hC dL_letters_336 (pc' := 337) rfl rfl rfl ?_
                                      refine xi_iload_n hC dL_letters_337 (pc' := 338) rfl rfl rfl ?_
                                      refine xi_iconst (v := nI 1) hC dL_letters_338 (pc' := 339) rfl (by decide +kernel) ?_
                                      refine xi_callV (As := [.int (nI j), .int (nI 1)]) (rest := []) (c_X7_user l D b (b + (k + 2)) (σ := σ108) (S := T101) (N := N) (u := u) (w := w) hST101 hRσ108 (by omega) (x := (nI j)) (y := (nI 1))) hC dL_letters_339 (pc' := 342) rfl xw_m_L_18 xw_c_X7_user xw_ins_X7_user xw_sel_X7_user xw_ini_X7 xd_X7_user (xH_at.trans (xsh_7 kd_0)) rfl ⟨Nat.le_of_ble_eq_true rfl, Nat.le_of_ble_eq_true rfl⟩ rfl (Nat.le_of_ble_eq_true rfl) ⟨Nat.le_of_ble_eq_true rfl, Nat.le_of_ble_eq_true rfl⟩ ?_
                                      rintro _ _ ⟨r111, rfl, hO112, rfl⟩
                                      obtain rfl : r111 = (nI 4) := hO112 _ (su_1 (by omega) (by omega) ((uA 0 hA (by decide)).trans (by rw [if_pos ⟨rfl, rfl⟩])))
                                      show xV _ _ _ _ _ _ _ _ _ _ _ _ _ _ _ _ _ (xH D b σ108) _ _ [.int (nI 4)]
                                      refine xi_iload hC dL_letters_342 (pc' := 344) rfl rfl ?_
                                      refine xi_iconst (v := nI 2) hC dL_letters_344 (pc' := 345) rfl (by decide +kernel) ?_
                                      refine xn_icmpne (tgt := 357) hC dL_letters_345 (pc' := 348) rfl (by decide) (by omega) (by omega) (fun zc345 => ?_) (fun zc345 => ?_)
                                      · exact absurd zc345 (by decide)
                                      · skip
                                        refine xi_iload hC dL_letters_348 (pc' := 350) rfl rfl ?_
                                        refine xn_ifne (tgt := 357) hC dL_letters_350 (pc' := 353) rfl (by decide) (by omega) (fun zc350 => ?_) (fun zc350 => ?_)
                                        · exact absurd zc350 (by decide)
                                        · skip
                                          refine xi_iconst (v := nI 4) hC dL_letters_353 (pc' := 354) rfl (by decide +kernel) ?_
                                          refine xi_goto (tgt := 359) hC dL_letters_354 (by decide) ?_
                                          refine xn_icmpne (tgt := 400) hC dL_letters_359 (pc' := 362) rfl (by decide) (by omega) (by omega) (fun zc359 => ?_) (fun zc359 => ?_)
                                          · exact absurd zc359 (by decide)
                                          · skip
                                            refine xi_aload_n hC dL_letters_362 (pc' := 363) rfl rfl rfl ?_
                                            refine xi_iload_n hC dL_letters_363 (pc' := 364) rfl rfl rfl ?_
                                            refine xi_iconst (v := nI 2) hC dL_letters_364 (pc' := 365) rfl (by decide +kernel) ?_
                                            refine xi_callV (As := [.int (nI j), .int (nI 2)]) (rest := []) (c_X7_user l D b (b + (k + 2)) (σ := σ108) (S := T101) (N := N) (u := u) (w := w) hST101 hRσ108 (by omega) (x := (nI j)) (y := (nI 2))) hC dL_letters_365 (pc' := 368) rfl xw_m_L_18 xw_c_X7_user xw_ins_X7_user xw_sel_X7_user xw_ini_X7 xd_X7_user (xH_at.trans (xsh_7 kd_0)) rfl ⟨Nat.le_of_ble_eq_true rfl, Nat.le_of_ble_eq_true rfl⟩ rfl (Nat.le_of_ble_eq_true rfl) ⟨Nat.le_of_ble_eq_true rfl, Nat.le_of_ble_eq_true rfl⟩ ?_
                                            rintro _ _ ⟨r113, rfl, hO114, rfl⟩
                                            obtain rfl : r113 = (nI 1) := hO114 _ (su_2t (by omega) (by omega) (uP2 rfl))
                                            show xV _ _ _ _ _ _ _ _ _ _ _ _ _ _ _ _ _ (xH D b σ108) _ _ [.int (nI 1)]
                                            refine xi_iconst (v := nI 1) hC dL_letters_368 (pc' := 369) rfl (by decide +kernel) ?_
                                            refine xn_icmpne (tgt := 376) hC dL_letters_369 (pc' := 372) rfl (by decide) (by omega) (by omega) (fun zc369 => ?_) (fun zc369 => ?_)
                                            · exact absurd zc369 (by decide)
                                            · skip
                                              refine xi_iconst (v := nI 1) hC dL_letters_372 (pc' := 373) rfl (by decide +kernel) ?_
                                              refine xi_goto (tgt := 377) hC dL_letters_373 (by decide) ?_
                                              refine xi_iload hC dL_letters_377 (pc' := 379) rfl rfl ?_
                                              refine xn_ifne (tgt := 388) hC dL_letters_379 (pc' := 382) rfl (by decide) (by omega) (fun zc379 => ?_) (fun zc379 => ?_)
                                              · skip
                                                refine xi_iconst (v := nI 1) hC dL_letters_388 (pc' := 389) rfl (by decide +kernel) ?_
                                                refine xi_goto (tgt := 393) hC dL_letters_389 (by decide) ?_
                                                refine xn_icmpne (tgt := 400) hC dL_letters_393 (pc' := 396) rfl (by decide) (by omega) (by omega) (fun zc393 => ?_) (fun zc393 => ?_)
                                                · exact absurd zc393 (by decide)
                                                · skip
                                                  refine xi_iconst (v := nI 1) hC dL_letters_396 (pc' := 397) rfl (by decide +kernel) ?_
                                                  refine xi_goto (tgt := 401) hC dL_letters_397 (by decide) ?_
                                                  refine xb_ireturn hC dL_letters_401 hr (by decide) rfl ?_
                                                  exact ⟨σ108, T101, rfl, (hST101).up (by omega), hRσ108, (hJT101).up (by omega), rfl⟩
                                              · exact absurd zc379 (by decide)
                                    · skip
                                      refine xi_aload_n hC dL_letters_336 (pc' := 337) rfl rfl rfl ?_
                                      refine xi_iload_n hC dL_letters_337 (pc' := 338) rfl rfl rfl ?_
                                      refine xi_iconst (v := nI 1) hC dL_letters_338 (pc' := 339) rfl (by decide +kernel) ?_
                                      refine xi_callV (As := [.int (nI j), .int (nI 1)]) (rest := []) (c_X7_user l D b (b + (k + 2)) (σ := σ108) (S := T101) (N := N) (u := u) (w := w) hST101 hRσ108 (by omega) (x := (nI j)) (y := (nI 1))) hC dL_letters_339 (pc' := 342) rfl xw_m_L_18 xw_c_X7_user xw_ins_X7_user xw_sel_X7_user xw_ini_X7 xd_X7_user (xH_at.trans (xsh_7 kd_0)) rfl ⟨Nat.le_of_ble_eq_true rfl, Nat.le_of_ble_eq_true rfl⟩ rfl (Nat.le_of_ble_eq_true rfl) ⟨Nat.le_of_ble_eq_true rfl, Nat.le_of_ble_eq_true rfl⟩ ?_
                                      rintro _ _ ⟨r115, rfl, hO116, rfl⟩
                                      obtain rfl : r115 = (nI a) := hO116 _ (su_1 (by omega) (by omega) ((uA a hA ha5).trans (by rw [if_neg (by omega)])))
                                      show xV _ _ _ _ _ _ _ _ _ _ _ _ _ _ _ _ _ (xH D b σ108) _ _ [.int (nI a)]
                                      refine xi_iload hC dL_letters_342 (pc' := 344) rfl rfl ?_
                                      refine xi_iconst (v := nI 2) hC dL_letters_344 (pc' := 345) rfl (by decide +kernel) ?_
                                      refine xn_icmpne (tgt := 357) hC dL_letters_345 (pc' := 348) rfl (by decide) (by omega) (by omega) (fun zc345 => ?_) (fun zc345 => ?_)
                                      · exact absurd zc345 (by decide)
                                      · skip
                                        refine xi_iload hC dL_letters_348 (pc' := 350) rfl rfl ?_
                                        refine xn_ifne (tgt := 357) hC dL_letters_350 (pc' := 353) rfl (by decide) (by omega) (fun zc350 => ?_) (fun zc350 => ?_)
                                        · skip
                                          refine xi_iload hC dL_letters_357 (pc' := 359) rfl rfl ?_
                                          refine xi_icmpne (tgt := 400) hC dL_letters_359 (pc' := 362) rfl (by decide) (fun zc359 => ?_) (fun zc359 => ?_)
                                          · exact absurd rfl zc359
                                          · skip
                                            refine xi_aload_n hC dL_letters_362 (pc' := 363) rfl rfl rfl ?_
                                            refine xi_iload_n hC dL_letters_363 (pc' := 364) rfl rfl rfl ?_
                                            refine xi_iconst (v := nI 2) hC dL_letters_364 (pc' := 365) rfl (by decide +kernel) ?_
                                            refine xi_callV (As := [.int (nI j), .int (nI 2)]) (rest := []) (c_X7_user l D b (b + (k + 2)) (σ := σ108) (S := T101) (N := N) (u := u) (w := w) hST101 hRσ108 (by omega) (x := (nI j)) (y := (nI 2))) hC dL_letters_365 (pc' := 368) rfl xw_m_L_18 xw_c_X7_user xw_ins_X7_user xw_sel_X7_user xw_ini_X7 xd_X7_user (xH_at.trans (xsh_7 kd_0)) rfl ⟨Nat.le_of_ble_eq_true rfl, Nat.le_of_ble_eq_true rfl⟩ rfl (Nat.le_of_ble_eq_true rfl) ⟨Nat.le_of_ble_eq_true rfl, Nat.le_of_ble_eq_true rfl⟩ ?_
                                            rintro _ _ ⟨r117, rfl, hO118, rfl⟩
                                            obtain rfl : r117 = (nI 1) := hO118 _ (su_2t (by omega) (by omega) (uP2 rfl))
                                            show xV _ _ _ _ _ _ _ _ _ _ _ _ _ _ _ _ _ (xH D b σ108) _ _ [.int (nI 1)]
                                            refine xi_iconst (v := nI 1) hC dL_letters_368 (pc' := 369) rfl (by decide +kernel) ?_
                                            refine xn_icmpne (tgt := 376) hC dL_letters_369 (pc' := 372) rfl (by decide) (by omega) (by omega) (fun zc369 => ?_) (fun zc369 => ?_)
                                            · exact absurd zc369 (by decide)
                                            · skip
                                              refine xi_iconst (v := nI 1) hC dL_letters_372 (pc' := 373) rfl (by decide +kernel) ?_
                                              refine xi_goto (tgt := 377) hC dL_letters_373 (by decide) ?_
                                              refine xi_iload hC dL_letters_377 (pc' := 379) rfl rfl ?_
                                              refine xn_ifne (tgt := 388) hC dL_letters_379 (pc' := 382) rfl (by decide) (by omega) (fun zc379 => ?_) (fun zc379 => ?_)
                                              · skip
                                                refine xi_iconst (v := nI 1) hC dL_letters_388 (pc' := 389) rfl (by decide +kernel) ?_
                                                refine xi_goto (tgt := 393) hC dL_letters_389 (by decide) ?_
                                                refine xn_icmpne (tgt := 400) hC dL_letters_393 (pc' := 396) rfl (by decide) (by omega) (by omega) (fun zc393 => ?_) (fun zc393 => ?_)
                                                · exact absurd zc393 (by decide)
                                                · skip
                                                  refine xi_iconst (v := nI 1) hC dL_letters_396 (pc' := 397) rfl (by decide +kernel) ?_
                                                  refine xi_goto (tgt := 401) hC dL_letters_397 (by decide) ?_
                                                  refine xb_ireturn hC dL_letters_401 hr (by decide) rfl ?_
                                                  exact ⟨σ108, T101, rfl, (hST101).up (by omega), hRσ108, (hJT101).up (by omega), rfl⟩
                                              · exact absurd zc379 (by decide)
                                        · exact absurd zc350 (by omega)
                                  · skip
                                    refine xi_aload_n hC dL_letters_255 (pc' := 256) rfl rfl rfl ?_
                                    refine xi_iload_n hC dL_letters_256 (pc' := 257) rfl rfl rfl ?_
                                    refine xi_iconst (v := nI 1) hC dL_letters_257 (pc' := 258) rfl (by decide +kernel) ?_
                                    refine xi_iload hC dL_letters_258 (pc' := 260) rfl rfl ?_
                                    refine xi_callV (As := [.int (nI j), .int (nI 1), .int (nI p1)]) (rest := []) (c_X7_vector l D b (b + (k + 2)) (σ := σ108) (S := T101) (N := N) (u := u) (w := w) hST101 hRσ108 (by omega) (x := (nI j)) (y := (nI 1)) (z := (nI p1))) hC dL_letters_260 (pc' := 263) rfl xw_m_L_9 xw_c_X7_vector xw_ins_X7_vector xw_sel_X7_vector xw_ini_X7 xd_X7_vector (xH_at.trans (xsh_7 kd_0)) rfl ⟨Nat.le_of_ble_eq_true rfl, Nat.le_of_ble_eq_true rfl⟩ rfl (Nat.le_of_ble_eq_true rfl) ⟨Nat.le_of_ble_eq_true rfl, Nat.le_of_ble_eq_true rfl⟩ ?_
                                    rintro _ _ ⟨r119, rfl, hO120, rfl⟩
                                    obtain rfl : r119 = (rK T24 j p1) := (hO120 _ (sv_1 (by omega) (by omega) (by omega))).trans ((uK p1 (by omega)).trans (if_neg (by decide)))
                                    show xV _ _ _ _ _ _ _ _ _ _ _ _ _ _ _ _ _ (xH D b σ108) _ _ [.int (rK T24 j p1)]
                                    refine xi_iload hC dL_letters_263 (pc' := 265) rfl rfl ?_
                                    refine xi_iconst (v := nI 1) hC dL_letters_265 (pc' := 266) rfl (by decide +kernel) ?_
                                    refine xn_icmpne (tgt := 277) hC dL_letters_266 (pc' := 269) rfl (by decide) (by omega) (by omega) (fun zc266 => ?_) (fun zc266 => ?_)
                                    · skip
                                      refine xi_aload hC dL_letters_277 (pc' := 279) rfl rfl ?_
                                      refine xi_iload hC dL_letters_279 (pc' := 281) rfl rfl ?_
                                      refine xl_L hC dL_letters_281 (pc' := 282) rfl (by omega) (by decide : (8 : Nat) = 8 ∨ (8 : Nat) = 36) hlσ108_k1 rfl (by omega) ?_
                                      refine xtop (y := (rK T24 j p1)) (hfσ108_k1 p1 (by omega)) ?_
                                      refine xi_icmpne (tgt := 328) hC dL_letters_282 (pc' := 285) rfl (by decide) (fun zc282 => ?_) (fun zc282 => ?_)
                                      · exact absurd rfl zc282
                                      · skip
                                        refine xi_iload hC dL_letters_285 (pc' := 287) rfl rfl ?_
                                        refine xi_iconst (v := nI 2) hC dL_letters_287 (pc' := 288) rfl (by decide +kernel) ?_
                                        refine xn_icmpne (tgt := 330) hC dL_letters_288 (pc' := 291) rfl (by decide) (by omega) (by omega) (fun zc288 => ?_) (fun zc288 => ?_)
                                        · exact absurd zc288 (by decide)
                                        · skip
                                          refine xi_iload hC dL_letters_291 (pc' := 293) rfl rfl ?_
                                          refine xn_ifne (tgt := 330) hC dL_letters_293 (pc' := 296) rfl (by decide) (by omega) (fun zc293 => ?_) (fun zc293 => ?_)
                                          · skip
                                            refine xn_iinc (lv' := [some (.ref (b + 0)), some (.int (nI i)), some (.int (nI j)), some (.int (nI u)), some (.int g), some (.ref (b + k)), some (.ref (b + (k + 1))), some (.int (nI 0)), some (.int (S m_sentBy i)), some (.int (nI 1)), some (.int (nI a)), some (.int (nI 1)), some (.int (nI 2)), some (.int (nI (p1 + 1)))]) hC dL_letters_330 (pc' := 333) rfl rfl (by decide) rfl ?_
                                            refine xi_goto (tgt := 249) hC dL_letters_333 (by decide) ?_
                                            refine ih249 _ (by omega) ?_
                                            · omega
                                          · exact absurd zc293 (by decide)
                                    · exact absurd zc266 (by decide)
                              refine L249 _ _ (Nat.lt_succ_self _) ?_
                              · omega
                            · exact absurd rfl zc241
                      · skip
                        refine xi_iconst (v := nI 1) hC dL_letters_205 (pc' := 206) rfl (by decide +kernel) ?_
                        refine xi_goto (tgt := 210) hC dL_letters_206 (by decide) ?_
                        refine xi_istore (lv' := [some (.ref (b + 0)), some (.int (nI i)), some (.int (nI j)), some (.int (nI u)), some (.int g), some (.ref (b + k)), some (.ref (b + (k + 1))), some (.int (nI 0)), some (.int (S m_sentBy i)), some (.int (nI 1)), some (.int (nI a)), some (.int (nI 1)), some (.int (nI 1)), none]) hC dL_letters_210 (pc' := 212) rfl (by decide) rfl ?_
                        refine xi_aload_n hC dL_letters_212 (pc' := 213) rfl rfl rfl ?_
                        refine xi_iload_n hC dL_letters_213 (pc' := 214) rfl rfl rfl ?_
                        refine xi_callV (As := [.int (nI j)]) (rest := []) (c_X7_readLetter l D b (b + (k + 2)) (σ := σ28) (S := T24) (N := N) (u := u) (w := w) hST24 hRσ28 (by omega) (x := (nI j))) hC dL_letters_214 (pc' := 217) rfl xw_m_L_66 xw_c_X7_readLetter xw_ins_X7_readLetter xw_sel_X7_readLetter xw_ini_X7 xd_X7_readLetter (xH_at.trans (xsh_7 kd_0)) rfl ⟨Nat.le_of_ble_eq_true rfl, Nat.le_of_ble_eq_true rfl⟩ rfl (Nat.le_of_ble_eq_true rfl) ⟨Nat.le_of_ble_eq_true rfl, Nat.le_of_ble_eq_true rfl⟩ ?_
                        rintro _ _ ⟨r121, σ122, rfl, hHσ122, hO124, rfl⟩
                        obtain ⟨rT123, T123, hZT123⟩ := ex_readL (S := T24) (u := u) (w := w) (x := (nI j)) hST24.1
                        obtain ⟨eT123, hRσ122⟩ := hO124 rT123 T123 hZT123
                        obtain ⟨x, hx2, ex, hx0, hxx, hL⟩ := l_ok (F := rK S i) hZT123 (by omega) (by omega) fl (fun p hp => fL p hp)
                        have exx : x = 1 := by
                          have n0 : ¬ x = 0 := fun q => zc187 (hx0.mp q)
                          have n2 : ¬ x = 2 := fun q => (hxx.mp q).2 zc202
                          omega
                        subst exx
                        obtain ⟨ul, uK, uA, uP, uP2, uF⟩ := hL
                        obtain rfl : r121 = nI 1 := eT123.trans ex
                        have hST123 := SI_readL hST24 hZT123
                        have hJT123 := JJ_readL hST24.1 hJT24 hZT123
                        have hlσ122_k : σ122 k 4096 = nI 8 := by rw [hHσ122 k (by omega)]; exact hlσ28_k
                        have hlσ122_k1 : σ122 (k + 1) 4096 = nI 8 := by rw [hHσ122 (k + 1) (by omega)]; exact hlσ28
                        have hfσ122_k : ∀ zz, zz < u → σ122 k zz = (rK S i) zz := fun q hq => by rw [hHσ122 k (by omega)]; exact hfσ28_k q hq
                        have hfσ122_k1 : ∀ zz, zz < u → σ122 (k + 1) zz = (rK T24 j) zz := fun q hq => by rw [hHσ122 (k + 1) (by omega)]; exact hfσ28 q hq
                        show xV _ _ _ _ _ _ _ _ _ _ _ _ _ _ _ _ _ (xH D b σ122) _ _ [.int (nI 1)]
                        refine xi_iload hC dL_letters_217 (pc' := 219) rfl rfl ?_
                        refine xn_icmpne (tgt := 244) hC dL_letters_219 (pc' := 222) rfl (by decide) (by omega) (by omega) (fun zc219 => ?_) (fun zc219 => ?_)
                        · exact absurd zc219 (by decide)
                        · skip
                          refine xi_aload_n hC dL_letters_222 (pc' := 223) rfl rfl rfl ?_
                          refine xi_iload_n hC dL_letters_223 (pc' := 224) rfl rfl rfl ?_
                          refine xi_callV (As := [.int (nI j)]) (rest := []) (c_X7_readLetter l D b (b + (k + 2)) (σ := σ122) (S := T123) (N := N) (u := u) (w := w) hST123 hRσ122 (by omega) (x := (nI j))) hC dL_letters_224 (pc' := 227) rfl xw_m_L_66 xw_c_X7_readLetter xw_ins_X7_readLetter xw_sel_X7_readLetter xw_ini_X7 xd_X7_readLetter (xH_at.trans (xsh_7 kd_0)) rfl ⟨Nat.le_of_ble_eq_true rfl, Nat.le_of_ble_eq_true rfl⟩ rfl (Nat.le_of_ble_eq_true rfl) ⟨Nat.le_of_ble_eq_true rfl, Nat.le_of_ble_eq_true rfl⟩ ?_
                          rintro _ _ ⟨r125, σ126, rfl, hHσ126, hO128, rfl⟩
                          obtain ⟨rT127, T127, hZT127⟩ := ex_readL (S := T123) (u := u) (w := w) (x := (nI j)) hST123.1
                          obtain ⟨eT127, hRσ126⟩ := hO128 rT127 T127 hZT127
                          obtain ⟨e2T127, e3T127⟩ := l_none hZT127 hj ul
                          have e4T127 := e3T127.symm
                          subst e4T127
                          obtain rfl : r125 = (-10005) := eT127.trans e2T127
                          have hlσ126_k : σ126 k 4096 = nI 8 := by rw [hHσ126 k (by omega)]; exact hlσ122_k
                          have hlσ126_k1 : σ126 (k + 1) 4096 = nI 8 := by rw [hHσ126 (k + 1) (by omega)]; exact hlσ122_k1
                          have hfσ126_k : ∀ zz, zz < u → σ126 k zz = (rK S i) zz := fun q hq => by rw [hHσ126 k (by omega)]; exact hfσ122_k q hq
                          have hfσ126_k1 : ∀ zz, zz < u → σ126 (k + 1) zz = (rK T24 j) zz := fun q hq => by rw [hHσ126 (k + 1) (by omega)]; exact hfσ122_k1 q hq
                          show xV _ _ _ _ _ _ _ _ _ _ _ _ _ _ _ _ _ (xH D b σ126) _ _ [.int (-10005)]
                          refine xi_sipush (v := -10005) hC dL_letters_227 (pc' := 230) rfl (by decide +kernel) ?_
                          refine xi_icmpne (tgt := 244) hC dL_letters_230 (pc' := 233) rfl (by decide) (fun zc230 => ?_) (fun zc230 => ?_)
                          · exact absurd rfl zc230
                          · skip
                            refine xi_aload_n hC dL_letters_233 (pc' := 234) rfl rfl rfl ?_
                            refine xi_iload_n hC dL_letters_234 (pc' := 235) rfl rfl rfl ?_
                            refine xi_callV (As := [.int (nI j)]) (rest := []) (c_X7_loseLetter l D b (b + (k + 2)) (σ := σ126) (S := T123) (N := N) (u := u) (w := w) hST123 hRσ126 (by omega) (x := (nI j))) hC dL_letters_235 (pc' := 238) rfl xw_m_L_63 xw_c_X7_loseLetter xw_ins_X7_loseLetter xw_sel_X7_loseLetter xw_ini_X7 xd_X7_loseLetter (xH_at.trans (xsh_7 kd_0)) rfl ⟨Nat.le_of_ble_eq_true rfl, Nat.le_of_ble_eq_true rfl⟩ rfl (Nat.le_of_ble_eq_true rfl) ⟨Nat.le_of_ble_eq_true rfl, Nat.le_of_ble_eq_true rfl⟩ ?_
                            rintro _ _ ⟨r129, σ130, rfl, hHσ130, hO132, rfl⟩
                            obtain ⟨rT131, T131, hZT131⟩ := ex_lose (S := T123) (u := u) (w := w) (x := (nI j)) hST123.1
                            obtain ⟨eT131, hRσ130⟩ := hO132 rT131 T131 hZT131
                            obtain ⟨e2T131, e3T131⟩ := o_none hZT131 hj ul
                            have e4T131 := e3T131.symm
                            subst e4T131
                            obtain rfl : r129 = (-10005) := eT131.trans e2T131
                            have hlσ130_k : σ130 k 4096 = nI 8 := by rw [hHσ130 k (by omega)]; exact hlσ126_k
                            have hlσ130_k1 : σ130 (k + 1) 4096 = nI 8 := by rw [hHσ130 (k + 1) (by omega)]; exact hlσ126_k1
                            have hfσ130_k : ∀ zz, zz < u → σ130 k zz = (rK S i) zz := fun q hq => by rw [hHσ130 k (by omega)]; exact hfσ126_k q hq
                            have hfσ130_k1 : ∀ zz, zz < u → σ130 (k + 1) zz = (rK T24 j) zz := fun q hq => by rw [hHσ130 (k + 1) (by omega)]; exact hfσ126_k1 q hq
                            show xV _ _ _ _ _ _ _ _ _ _ _ _ _ _ _ _ _ (xH D b σ130) _ _ [.int (-10005)]
                            refine xi_sipush (v := -10005) hC dL_letters_238 (pc' := 241) rfl (by decide +kernel) ?_
                            refine xi_icmpeq (tgt := 246) hC dL_letters_241 (pc' := 244) rfl (by decide) (fun zc241 => ?_) (fun zc241 => ?_)
                            · skip
                              refine xi_iconst (v := nI 0) hC dL_letters_246 (pc' := 247) rfl (by decide +kernel) ?_
                              refine xi_istore (lv' := [some (.ref (b + 0)), some (.int (nI i)), some (.int (nI j)), some (.int (nI u)), some (.int g), some (.ref (b + k)), some (.ref (b + (k + 1))), some (.int (nI 0)), some (.int (S m_sentBy i)), some (.int (nI 1)), some (.int (nI a)), some (.int (nI 1)), some (.int (nI 1)), some (.int (nI 0))]) hC dL_letters_247 (pc' := 249) rfl (by decide) rfl ?_
                              have L249 : ∀ (d : Nat) (p1 : Nat), u - p1 < d → (p1 ≤ u) → xV p l e (xR 4 89 2 16) s m args below meth c D b 14 2 16 (MQ below (xQ D b (b + (k + 2)) (fun y' h' => ∃ τ T : XM, y' = some (.int (nI 1)) ∧ SI (N + 1) T u w ∧ RR τ T u w ∧ JJ (N + 1) T u ∧ h' = xH D b τ)) args s 2 16 (fun q => b ≤ q)) (b + (k + 2)) (xH D b σ130) 249 [some (.ref (b + 0)), some (.int (nI i)), some (.int (nI j)), some (.int (nI u)), some (.int g), some (.ref (b + k)), some (.ref (b + (k + 1))), some (.int (nI 0)), some (.int (S m_sentBy i)), some (.int (nI 1)), some (.int (nI a)), some (.int (nI 1)), some (.int (nI 1)), some (.int (nI p1))] [] := by
                                intro d
                                induction d with
                                | zero => intro p1 h; exact absurd h (Nat.not_lt_zero _)
                                | succ d ih249 =>
                                  intro p1 hd249 hp1
                                  refine xi_iload hC dL_letters_249 (pc' := 251) rfl rfl ?_
                                  refine xi_iload_n hC dL_letters_251 (pc' := 252) rfl rfl rfl ?_
                                  refine xn_icmpge (tgt := 336) hC dL_letters_252 (pc' := 255) rfl (by decide) (by omega) (by omega) (fun zc252 => ?_) (fun zc252 => ?_)
                                  · skip
                                    refine xi_aload_n hC dL_letters_336 (pc' := 337) rfl rfl rfl ?_
                                    refine xi_iload_n hC dL_letters_337 (pc' := 338) rfl rfl rfl ?_
                                    refine xi_iconst (v := nI 1) hC dL_letters_338 (pc' := 339) rfl (by decide +kernel) ?_
                                    refine xi_callV (As := [.int (nI j), .int (nI 1)]) (rest := []) (c_X7_user l D b (b + (k + 2)) (σ := σ130) (S := T123) (N := N) (u := u) (w := w) hST123 hRσ130 (by omega) (x := (nI j)) (y := (nI 1))) hC dL_letters_339 (pc' := 342) rfl xw_m_L_18 xw_c_X7_user xw_ins_X7_user xw_sel_X7_user xw_ini_X7 xd_X7_user (xH_at.trans (xsh_7 kd_0)) rfl ⟨Nat.le_of_ble_eq_true rfl, Nat.le_of_ble_eq_true rfl⟩ rfl (Nat.le_of_ble_eq_true rfl) ⟨Nat.le_of_ble_eq_true rfl, Nat.le_of_ble_eq_true rfl⟩ ?_
                                    rintro _ _ ⟨r133, rfl, hO134, rfl⟩
                                    obtain rfl : r133 = (nI a) := hO134 _ (su_1 (by omega) (by omega) ((uA a hA ha5).trans (by rw [if_neg (by omega)])))
                                    show xV _ _ _ _ _ _ _ _ _ _ _ _ _ _ _ _ _ (xH D b σ130) _ _ [.int (nI a)]
                                    refine xi_iload hC dL_letters_342 (pc' := 344) rfl rfl ?_
                                    refine xi_iconst (v := nI 2) hC dL_letters_344 (pc' := 345) rfl (by decide +kernel) ?_
                                    refine xn_icmpne (tgt := 357) hC dL_letters_345 (pc' := 348) rfl (by decide) (by omega) (by omega) (fun zc345 => ?_) (fun zc345 => ?_)
                                    · skip
                                      refine xi_iload hC dL_letters_357 (pc' := 359) rfl rfl ?_
                                      refine xi_icmpne (tgt := 400) hC dL_letters_359 (pc' := 362) rfl (by decide) (fun zc359 => ?_) (fun zc359 => ?_)
                                      · exact absurd rfl zc359
                                      · skip
                                        refine xi_aload_n hC dL_letters_362 (pc' := 363) rfl rfl rfl ?_
                                        refine xi_iload_n hC dL_letters_363 (pc' := 364) rfl rfl rfl ?_
                                        refine xi_iconst (v := nI 2) hC dL_letters_364 (pc' := 365) rfl (by decide +kernel) ?_
                                        refine xi_callV (As := [.int (nI j), .int (nI 2)]) (rest := []) (c_X7_user l D b (b + (k + 2)) (σ := σ130) (S := T123) (N := N) (u := u) (w := w) hST123 hRσ130 (by omega) (x := (nI j)) (y := (nI 2))) hC dL_letters_365 (pc' := 368) rfl xw_m_L_18 xw_c_X7_user xw_ins_X7_user xw_sel_X7_user xw_ini_X7 xd_X7_user (xH_at.trans (xsh_7 kd_0)) rfl ⟨Nat.le_of_ble_eq_true rfl, Nat.le_of_ble_eq_true rfl⟩ rfl (Nat.le_of_ble_eq_true rfl) ⟨Nat.le_of_ble_eq_true rfl, Nat.le_of_ble_eq_true rfl⟩ ?_
                                        rintro _ _ ⟨r135, rfl, hO136, rfl⟩
                                        obtain rfl : r135 = (nI 1) := hO136 _ (su_2t (by omega) (by omega) (by rw [uP (by decide)]; exact hp))
                                        show xV _ _ _ _ _ _ _ _ _ _ _ _ _ _ _ _ _ (xH D b σ130) _ _ [.int (nI 1)]
                                        refine xi_iconst (v := nI 1) hC dL_letters_368 (pc' := 369) rfl (by decide +kernel) ?_
                                        refine xn_icmpne (tgt := 376) hC dL_letters_369 (pc' := 372) rfl (by decide) (by omega) (by omega) (fun zc369 => ?_) (fun zc369 => ?_)
                                        · exact absurd zc369 (by decide)
                                        · skip
                                          refine xi_iconst (v := nI 1) hC dL_letters_372 (pc' := 373) rfl (by decide +kernel) ?_
                                          refine xi_goto (tgt := 377) hC dL_letters_373 (by decide) ?_
                                          refine xi_iload hC dL_letters_377 (pc' := 379) rfl rfl ?_
                                          refine xn_ifne (tgt := 388) hC dL_letters_379 (pc' := 382) rfl (by decide) (by omega) (fun zc379 => ?_) (fun zc379 => ?_)
                                          · skip
                                            refine xi_iconst (v := nI 1) hC dL_letters_388 (pc' := 389) rfl (by decide +kernel) ?_
                                            refine xi_goto (tgt := 393) hC dL_letters_389 (by decide) ?_
                                            refine xn_icmpne (tgt := 400) hC dL_letters_393 (pc' := 396) rfl (by decide) (by omega) (by omega) (fun zc393 => ?_) (fun zc393 => ?_)
                                            · exact absurd zc393 (by decide)
                                            · skip
                                              refine xi_iconst (v := nI 1) hC dL_letters_396 (pc' := 397) rfl (by decide +kernel) ?_
                                              refine xi_goto (tgt := 401) hC dL_letters_397 (by decide) ?_
                                              refine xb_ireturn hC dL_letters_401 hr (by decide) rfl ?_
                                              exact ⟨σ130, T123, rfl, (hST123).up (by omega), hRσ130, (hJT123).up (by omega), rfl⟩
                                          · exact absurd zc379 (by decide)
                                    · exact absurd zc345 (by decide)
                                  · skip
                                    refine xi_aload_n hC dL_letters_255 (pc' := 256) rfl rfl rfl ?_
                                    refine xi_iload_n hC dL_letters_256 (pc' := 257) rfl rfl rfl ?_
                                    refine xi_iconst (v := nI 1) hC dL_letters_257 (pc' := 258) rfl (by decide +kernel) ?_
                                    refine xi_iload hC dL_letters_258 (pc' := 260) rfl rfl ?_
                                    refine xi_callV (As := [.int (nI j), .int (nI 1), .int (nI p1)]) (rest := []) (c_X7_vector l D b (b + (k + 2)) (σ := σ130) (S := T123) (N := N) (u := u) (w := w) hST123 hRσ130 (by omega) (x := (nI j)) (y := (nI 1)) (z := (nI p1))) hC dL_letters_260 (pc' := 263) rfl xw_m_L_9 xw_c_X7_vector xw_ins_X7_vector xw_sel_X7_vector xw_ini_X7 xd_X7_vector (xH_at.trans (xsh_7 kd_0)) rfl ⟨Nat.le_of_ble_eq_true rfl, Nat.le_of_ble_eq_true rfl⟩ rfl (Nat.le_of_ble_eq_true rfl) ⟨Nat.le_of_ble_eq_true rfl, Nat.le_of_ble_eq_true rfl⟩ ?_
                                    rintro _ _ ⟨r137, rfl, hO138, rfl⟩
                                    obtain rfl : r137 = (rK S i p1) := (hO138 _ (sv_1 (by omega) (by omega) (by omega))).trans ((uK p1 (by omega)).trans (if_pos rfl))
                                    show xV _ _ _ _ _ _ _ _ _ _ _ _ _ _ _ _ _ (xH D b σ130) _ _ [.int (rK S i p1)]
                                    refine xi_iload hC dL_letters_263 (pc' := 265) rfl rfl ?_
                                    refine xi_iconst (v := nI 1) hC dL_letters_265 (pc' := 266) rfl (by decide +kernel) ?_
                                    refine xn_icmpne (tgt := 277) hC dL_letters_266 (pc' := 269) rfl (by decide) (by omega) (by omega) (fun zc266 => ?_) (fun zc266 => ?_)
                                    · exact absurd zc266 (by decide)
                                    · skip
                                      refine xi_aload hC dL_letters_269 (pc' := 271) rfl rfl ?_
                                      refine xi_iload hC dL_letters_271 (pc' := 273) rfl rfl ?_
                                      refine xl_L hC dL_letters_273 (pc' := 274) rfl (by omega) (by decide : (8 : Nat) = 8 ∨ (8 : Nat) = 36) hlσ130_k rfl (by omega) ?_
                                      refine xtop (y := (rK S i p1)) (hfσ130_k p1 (by omega)) ?_
                                      refine xi_goto (tgt := 282) hC dL_letters_274 (by decide) ?_
                                      refine xi_icmpne (tgt := 328) hC dL_letters_282 (pc' := 285) rfl (by decide) (fun zc282 => ?_) (fun zc282 => ?_)
                                      · exact absurd rfl zc282
                                      · skip
                                        refine xi_iload hC dL_letters_285 (pc' := 287) rfl rfl ?_
                                        refine xi_iconst (v := nI 2) hC dL_letters_287 (pc' := 288) rfl (by decide +kernel) ?_
                                        refine xn_icmpne (tgt := 330) hC dL_letters_288 (pc' := 291) rfl (by decide) (by omega) (by omega) (fun zc288 => ?_) (fun zc288 => ?_)
                                        · skip
                                          refine xn_iinc (lv' := [some (.ref (b + 0)), some (.int (nI i)), some (.int (nI j)), some (.int (nI u)), some (.int g), some (.ref (b + k)), some (.ref (b + (k + 1))), some (.int (nI 0)), some (.int (S m_sentBy i)), some (.int (nI 1)), some (.int (nI a)), some (.int (nI 1)), some (.int (nI 1)), some (.int (nI (p1 + 1)))]) hC dL_letters_330 (pc' := 333) rfl rfl (by decide) rfl ?_
                                          refine xi_goto (tgt := 249) hC dL_letters_333 (by decide) ?_
                                          refine ih249 _ (by omega) ?_
                                          · omega
                                        · exact absurd zc288 (by decide)
                              refine L249 _ _ (Nat.lt_succ_self _) ?_
                              · omega
                            · exact absurd rfl zc241
                    · skip
                      refine xi_iconst (v := nI 0) hC dL_letters_190 (pc' := 191) rfl (by decide +kernel) ?_
                      refine xi_goto (tgt := 210) hC dL_letters_191 (by decide) ?_
                      refine xi_istore (lv' := [some (.ref (b + 0)), some (.int (nI i)), some (.int (nI j)), some (.int (nI u)), some (.int g), some (.ref (b + k)), some (.ref (b + (k + 1))), some (.int (nI 0)), some (.int (S m_sentBy i)), some (.int (nI 1)), some (.int (nI a)), some (.int (nI 1)), some (.int (nI 0)), none]) hC dL_letters_210 (pc' := 212) rfl (by decide) rfl ?_
                      refine xi_aload_n hC dL_letters_212 (pc' := 213) rfl rfl rfl ?_
                      refine xi_iload_n hC dL_letters_213 (pc' := 214) rfl rfl rfl ?_
                      refine xi_callV (As := [.int (nI j)]) (rest := []) (c_X7_readLetter l D b (b + (k + 2)) (σ := σ28) (S := T24) (N := N) (u := u) (w := w) hST24 hRσ28 (by omega) (x := (nI j))) hC dL_letters_214 (pc' := 217) rfl xw_m_L_66 xw_c_X7_readLetter xw_ins_X7_readLetter xw_sel_X7_readLetter xw_ini_X7 xd_X7_readLetter (xH_at.trans (xsh_7 kd_0)) rfl ⟨Nat.le_of_ble_eq_true rfl, Nat.le_of_ble_eq_true rfl⟩ rfl (Nat.le_of_ble_eq_true rfl) ⟨Nat.le_of_ble_eq_true rfl, Nat.le_of_ble_eq_true rfl⟩ ?_
                      rintro _ _ ⟨r139, σ140, rfl, hHσ140, hO142, rfl⟩
                      obtain ⟨rT141, T141, hZT141⟩ := ex_readL (S := T24) (u := u) (w := w) (x := (nI j)) hST24.1
                      obtain ⟨eT141, hRσ140⟩ := hO142 rT141 T141 hZT141
                      obtain ⟨x, hx2, ex, hx0, hxx, hL⟩ := l_ok (F := rK S i) hZT141 (by omega) (by omega) fl (fun p hp => fL p hp)
                      have exx : x = 0 := hx0.mpr zc187
                      subst exx
                      obtain ⟨ul, uK, uA, uP, uP2, uF⟩ := hL
                      obtain rfl : r139 = nI 0 := eT141.trans ex
                      have hST141 := SI_readL hST24 hZT141
                      have hJT141 := JJ_readL hST24.1 hJT24 hZT141
                      have hlσ140_k : σ140 k 4096 = nI 8 := by rw [hHσ140 k (by omega)]; exact hlσ28_k
                      have hlσ140_k1 : σ140 (k + 1) 4096 = nI 8 := by rw [hHσ140 (k + 1) (by omega)]; exact hlσ28
                      have hfσ140_k : ∀ zz, zz < u → σ140 k zz = (rK S i) zz := fun q hq => by rw [hHσ140 k (by omega)]; exact hfσ28_k q hq
                      have hfσ140_k1 : ∀ zz, zz < u → σ140 (k + 1) zz = (rK T24 j) zz := fun q hq => by rw [hHσ140 (k + 1) (by omega)]; exact hfσ28 q hq
                      show xV _ _ _ _ _ _ _ _ _ _ _ _ _ _ _ _ _ (xH D b σ140) _ _ [.int (nI 0)]
                      refine xi_iload hC dL_letters_217 (pc' := 219) rfl rfl ?_
                      refine xn_icmpne (tgt := 244) hC dL_letters_219 (pc' := 222) rfl (by decide) (by omega) (by omega) (fun zc219 => ?_) (fun zc219 => ?_)
                      · exact absurd zc219 (by decide)
                      · skip
                        refine xi_aload_n hC dL_letters_222 (pc' := 223) rfl rfl rfl ?_
                        refine xi_iload_n hC dL_letters_223 (pc' := 224) rfl rfl rfl ?_
                        refine xi_callV (As := [.int (nI j)]) (rest := []) (c_X7_readLetter l D b (b + (k + 2)) (σ := σ140) (S := T141) (N := N) (u := u) (w := w) hST141 hRσ140 (by omega) (x := (nI j))) hC dL_letters_224 (pc' := 227) rfl xw_m_L_66 xw_c_X7_readLetter xw_ins_X7_readLetter xw_sel_X7_readLetter xw_ini_X7 xd_X7_readLetter (xH_at.trans (xsh_7 kd_0)) rfl ⟨Nat.le_of_ble_eq_true rfl, Nat.le_of_ble_eq_true rfl⟩ rfl (Nat.le_of_ble_eq_true rfl) ⟨Nat.le_of_ble_eq_true rfl, Nat.le_of_ble_eq_true rfl⟩ ?_
                        rintro _ _ ⟨r143, σ144, rfl, hHσ144, hO146, rfl⟩
                        obtain ⟨rT145, T145, hZT145⟩ := ex_readL (S := T141) (u := u) (w := w) (x := (nI j)) hST141.1
                        obtain ⟨eT145, hRσ144⟩ := hO146 rT145 T145 hZT145
                        obtain ⟨e2T145, e3T145⟩ := l_none hZT145 hj ul
                        have e4T145 := e3T145.symm
                        subst e4T145
                        obtain rfl : r143 = (-10005) := eT145.trans e2T145
                        have hlσ144_k : σ144 k 4096 = nI 8 := by rw [hHσ144 k (by omega)]; exact hlσ140_k
                        have hlσ144_k1 : σ144 (k + 1) 4096 = nI 8 := by rw [hHσ144 (k + 1) (by omega)]; exact hlσ140_k1
                        have hfσ144_k : ∀ zz, zz < u → σ144 k zz = (rK S i) zz := fun q hq => by rw [hHσ144 k (by omega)]; exact hfσ140_k q hq
                        have hfσ144_k1 : ∀ zz, zz < u → σ144 (k + 1) zz = (rK T24 j) zz := fun q hq => by rw [hHσ144 (k + 1) (by omega)]; exact hfσ140_k1 q hq
                        show xV _ _ _ _ _ _ _ _ _ _ _ _ _ _ _ _ _ (xH D b σ144) _ _ [.int (-10005)]
                        refine xi_sipush (v := -10005) hC dL_letters_227 (pc' := 230) rfl (by decide +kernel) ?_
                        refine xi_icmpne (tgt := 244) hC dL_letters_230 (pc' := 233) rfl (by decide) (fun zc230 => ?_) (fun zc230 => ?_)
                        · exact absurd rfl zc230
                        · skip
                          refine xi_aload_n hC dL_letters_233 (pc' := 234) rfl rfl rfl ?_
                          refine xi_iload_n hC dL_letters_234 (pc' := 235) rfl rfl rfl ?_
                          refine xi_callV (As := [.int (nI j)]) (rest := []) (c_X7_loseLetter l D b (b + (k + 2)) (σ := σ144) (S := T141) (N := N) (u := u) (w := w) hST141 hRσ144 (by omega) (x := (nI j))) hC dL_letters_235 (pc' := 238) rfl xw_m_L_63 xw_c_X7_loseLetter xw_ins_X7_loseLetter xw_sel_X7_loseLetter xw_ini_X7 xd_X7_loseLetter (xH_at.trans (xsh_7 kd_0)) rfl ⟨Nat.le_of_ble_eq_true rfl, Nat.le_of_ble_eq_true rfl⟩ rfl (Nat.le_of_ble_eq_true rfl) ⟨Nat.le_of_ble_eq_true rfl, Nat.le_of_ble_eq_true rfl⟩ ?_
                          rintro _ _ ⟨r147, σ148, rfl, hHσ148, hO150, rfl⟩
                          obtain ⟨rT149, T149, hZT149⟩ := ex_lose (S := T141) (u := u) (w := w) (x := (nI j)) hST141.1
                          obtain ⟨eT149, hRσ148⟩ := hO150 rT149 T149 hZT149
                          obtain ⟨e2T149, e3T149⟩ := o_none hZT149 hj ul
                          have e4T149 := e3T149.symm
                          subst e4T149
                          obtain rfl : r147 = (-10005) := eT149.trans e2T149
                          have hlσ148_k : σ148 k 4096 = nI 8 := by rw [hHσ148 k (by omega)]; exact hlσ144_k
                          have hlσ148_k1 : σ148 (k + 1) 4096 = nI 8 := by rw [hHσ148 (k + 1) (by omega)]; exact hlσ144_k1
                          have hfσ148_k : ∀ zz, zz < u → σ148 k zz = (rK S i) zz := fun q hq => by rw [hHσ148 k (by omega)]; exact hfσ144_k q hq
                          have hfσ148_k1 : ∀ zz, zz < u → σ148 (k + 1) zz = (rK T24 j) zz := fun q hq => by rw [hHσ148 (k + 1) (by omega)]; exact hfσ144_k1 q hq
                          show xV _ _ _ _ _ _ _ _ _ _ _ _ _ _ _ _ _ (xH D b σ148) _ _ [.int (-10005)]
                          refine xi_sipush (v := -10005) hC dL_letters_238 (pc' := 241) rfl (by decide +kernel) ?_
                          refine xi_icmpeq (tgt := 246) hC dL_letters_241 (pc' := 244) rfl (by decide) (fun zc241 => ?_) (fun zc241 => ?_)
                          · skip
                            refine xi_iconst (v := nI 0) hC dL_letters_246 (pc' := 247) rfl (by decide +kernel) ?_
                            refine xi_istore (lv' := [some (.ref (b + 0)), some (.int (nI i)), some (.int (nI j)), some (.int (nI u)), some (.int g), some (.ref (b + k)), some (.ref (b + (k + 1))), some (.int (nI 0)), some (.int (S m_sentBy i)), some (.int (nI 1)), some (.int (nI a)), some (.int (nI 1)), some (.int (nI 0)), some (.int (nI 0))]) hC dL_letters_247 (pc' := 249) rfl (by decide) rfl ?_
                            have L249 : ∀ (d : Nat) (p1 : Nat), u - p1 < d → (p1 ≤ u) → xV p l e (xR 4 89 2 16) s m args below meth c D b 14 2 16 (MQ below (xQ D b (b + (k + 2)) (fun y' h' => ∃ τ T : XM, y' = some (.int (nI 1)) ∧ SI (N + 1) T u w ∧ RR τ T u w ∧ JJ (N + 1) T u ∧ h' = xH D b τ)) args s 2 16 (fun q => b ≤ q)) (b + (k + 2)) (xH D b σ148) 249 [some (.ref (b + 0)), some (.int (nI i)), some (.int (nI j)), some (.int (nI u)), some (.int g), some (.ref (b + k)), some (.ref (b + (k + 1))), some (.int (nI 0)), some (.int (S m_sentBy i)), some (.int (nI 1)), some (.int (nI a)), some (.int (nI 1)), some (.int (nI 0)), some (.int (nI p1))] [] := by
                              intro d
                              induction d with
                              | zero => intro p1 h; exact absurd h (Nat.not_lt_zero _)
                              | succ d ih249 =>
                                intro p1 hd249 hp1
                                refine xi_iload hC dL_letters_249 (pc' := 251) rfl rfl ?_
                                refine xi_iload_n hC dL_letters_251 (pc' := 252) rfl rfl rfl ?_
                                refine xn_icmpge (tgt := 336) hC dL_letters_252 (pc' := 255) rfl (by decide) (by omega) (by omega) (fun zc252 => ?_) (fun zc252 => ?_)
                                · skip
                                  refine xi_aload_n hC dL_letters_336 (pc' := 337) rfl rfl rfl ?_
                                  refine xi_iload_n hC dL_letters_337 (pc' := 338) rfl rfl rfl ?_
                                  refine xi_iconst (v := nI 1) hC dL_letters_338 (pc' := 339) rfl (by decide +kernel) ?_
                                  refine xi_callV (As := [.int (nI j), .int (nI 1)]) (rest := []) (c_X7_user l D b (b + (k + 2)) (σ := σ148) (S := T141) (N := N) (u := u) (w := w) hST141 hRσ148 (by omega) (x := (nI j)) (y := (nI 1))) hC dL_letters_339 (pc' := 342) rfl xw_m_L_18 xw_c_X7_user xw_ins_X7_user xw_sel_X7_user xw_ini_X7 xd_X7_user (xH_at.trans (xsh_7 kd_0)) rfl ⟨Nat.le_of_ble_eq_true rfl, Nat.le_of_ble_eq_true rfl⟩ rfl (Nat.le_of_ble_eq_true rfl) ⟨Nat.le_of_ble_eq_true rfl, Nat.le_of_ble_eq_true rfl⟩ ?_
                                  rintro _ _ ⟨r151, rfl, hO152, rfl⟩
                                  obtain rfl : r151 = (nI a) := hO152 _ (su_1 (by omega) (by omega) ((uA a hA ha5).trans (by rw [if_neg (by omega)])))
                                  show xV _ _ _ _ _ _ _ _ _ _ _ _ _ _ _ _ _ (xH D b σ148) _ _ [.int (nI a)]
                                  refine xi_iload hC dL_letters_342 (pc' := 344) rfl rfl ?_
                                  refine xi_iconst (v := nI 2) hC dL_letters_344 (pc' := 345) rfl (by decide +kernel) ?_
                                  refine xn_icmpne (tgt := 357) hC dL_letters_345 (pc' := 348) rfl (by decide) (by omega) (by omega) (fun zc345 => ?_) (fun zc345 => ?_)
                                  · skip
                                    refine xi_iload hC dL_letters_357 (pc' := 359) rfl rfl ?_
                                    refine xi_icmpne (tgt := 400) hC dL_letters_359 (pc' := 362) rfl (by decide) (fun zc359 => ?_) (fun zc359 => ?_)
                                    · exact absurd rfl zc359
                                    · skip
                                      refine xi_aload_n hC dL_letters_362 (pc' := 363) rfl rfl rfl ?_
                                      refine xi_iload_n hC dL_letters_363 (pc' := 364) rfl rfl rfl ?_
                                      refine xi_iconst (v := nI 2) hC dL_letters_364 (pc' := 365) rfl (by decide +kernel) ?_
                                      refine xi_callV (As := [.int (nI j), .int (nI 2)]) (rest := []) (c_X7_user l D b (b + (k + 2)) (σ := σ148) (S := T141) (N := N) (u := u) (w := w) hST141 hRσ148 (by omega) (x := (nI j)) (y := (nI 2))) hC dL_letters_365 (pc' := 368) rfl xw_m_L_18 xw_c_X7_user xw_ins_X7_user xw_sel_X7_user xw_ini_X7 xd_X7_user (xH_at.trans (xsh_7 kd_0)) rfl ⟨Nat.le_of_ble_eq_true rfl, Nat.le_of_ble_eq_true rfl⟩ rfl (Nat.le_of_ble_eq_true rfl) ⟨Nat.le_of_ble_eq_true rfl, Nat.le_of_ble_eq_true rfl⟩ ?_
                                      rintro _ _ ⟨r153, rfl, hO154, rfl⟩
                                      obtain rfl : r153 = (nI 1) := hO154 _ (su_2t (by omega) (by omega) (by rw [uP (by decide)]; exact hp))
                                      show xV _ _ _ _ _ _ _ _ _ _ _ _ _ _ _ _ _ (xH D b σ148) _ _ [.int (nI 1)]
                                      refine xi_iconst (v := nI 1) hC dL_letters_368 (pc' := 369) rfl (by decide +kernel) ?_
                                      refine xn_icmpne (tgt := 376) hC dL_letters_369 (pc' := 372) rfl (by decide) (by omega) (by omega) (fun zc369 => ?_) (fun zc369 => ?_)
                                      · exact absurd zc369 (by decide)
                                      · skip
                                        refine xi_iconst (v := nI 1) hC dL_letters_372 (pc' := 373) rfl (by decide +kernel) ?_
                                        refine xi_goto (tgt := 377) hC dL_letters_373 (by decide) ?_
                                        refine xi_iload hC dL_letters_377 (pc' := 379) rfl rfl ?_
                                        refine xn_ifne (tgt := 388) hC dL_letters_379 (pc' := 382) rfl (by decide) (by omega) (fun zc379 => ?_) (fun zc379 => ?_)
                                        · skip
                                          refine xi_iconst (v := nI 1) hC dL_letters_388 (pc' := 389) rfl (by decide +kernel) ?_
                                          refine xi_goto (tgt := 393) hC dL_letters_389 (by decide) ?_
                                          refine xn_icmpne (tgt := 400) hC dL_letters_393 (pc' := 396) rfl (by decide) (by omega) (by omega) (fun zc393 => ?_) (fun zc393 => ?_)
                                          · exact absurd zc393 (by decide)
                                          · skip
                                            refine xi_iconst (v := nI 1) hC dL_letters_396 (pc' := 397) rfl (by decide +kernel) ?_
                                            refine xi_goto (tgt := 401) hC dL_letters_397 (by decide) ?_
                                            refine xb_ireturn hC dL_letters_401 hr (by decide) rfl ?_
                                            exact ⟨σ148, T141, rfl, (hST141).up (by omega), hRσ148, (hJT141).up (by omega), rfl⟩
                                        · exact absurd zc379 (by decide)
                                  · exact absurd zc345 (by decide)
                                · skip
                                  refine xi_aload_n hC dL_letters_255 (pc' := 256) rfl rfl rfl ?_
                                  refine xi_iload_n hC dL_letters_256 (pc' := 257) rfl rfl rfl ?_
                                  refine xi_iconst (v := nI 1) hC dL_letters_257 (pc' := 258) rfl (by decide +kernel) ?_
                                  refine xi_iload hC dL_letters_258 (pc' := 260) rfl rfl ?_
                                  refine xi_callV (As := [.int (nI j), .int (nI 1), .int (nI p1)]) (rest := []) (c_X7_vector l D b (b + (k + 2)) (σ := σ148) (S := T141) (N := N) (u := u) (w := w) hST141 hRσ148 (by omega) (x := (nI j)) (y := (nI 1)) (z := (nI p1))) hC dL_letters_260 (pc' := 263) rfl xw_m_L_9 xw_c_X7_vector xw_ins_X7_vector xw_sel_X7_vector xw_ini_X7 xd_X7_vector (xH_at.trans (xsh_7 kd_0)) rfl ⟨Nat.le_of_ble_eq_true rfl, Nat.le_of_ble_eq_true rfl⟩ rfl (Nat.le_of_ble_eq_true rfl) ⟨Nat.le_of_ble_eq_true rfl, Nat.le_of_ble_eq_true rfl⟩ ?_
                                  rintro _ _ ⟨r155, rfl, hO156, rfl⟩
                                  obtain rfl : r155 = (rK T24 j p1) := (hO156 _ (sv_1 (by omega) (by omega) (by omega))).trans ((uK p1 (by omega)).trans (if_neg (by decide)))
                                  show xV _ _ _ _ _ _ _ _ _ _ _ _ _ _ _ _ _ (xH D b σ148) _ _ [.int (rK T24 j p1)]
                                  refine xi_iload hC dL_letters_263 (pc' := 265) rfl rfl ?_
                                  refine xi_iconst (v := nI 1) hC dL_letters_265 (pc' := 266) rfl (by decide +kernel) ?_
                                  refine xn_icmpne (tgt := 277) hC dL_letters_266 (pc' := 269) rfl (by decide) (by omega) (by omega) (fun zc266 => ?_) (fun zc266 => ?_)
                                  · skip
                                    refine xi_aload hC dL_letters_277 (pc' := 279) rfl rfl ?_
                                    refine xi_iload hC dL_letters_279 (pc' := 281) rfl rfl ?_
                                    refine xl_L hC dL_letters_281 (pc' := 282) rfl (by omega) (by decide : (8 : Nat) = 8 ∨ (8 : Nat) = 36) hlσ148_k1 rfl (by omega) ?_
                                    refine xtop (y := (rK T24 j p1)) (hfσ148_k1 p1 (by omega)) ?_
                                    refine xi_icmpne (tgt := 328) hC dL_letters_282 (pc' := 285) rfl (by decide) (fun zc282 => ?_) (fun zc282 => ?_)
                                    · exact absurd rfl zc282
                                    · skip
                                      refine xi_iload hC dL_letters_285 (pc' := 287) rfl rfl ?_
                                      refine xi_iconst (v := nI 2) hC dL_letters_287 (pc' := 288) rfl (by decide +kernel) ?_
                                      refine xn_icmpne (tgt := 330) hC dL_letters_288 (pc' := 291) rfl (by decide) (by omega) (by omega) (fun zc288 => ?_) (fun zc288 => ?_)
                                      · skip
                                        refine xn_iinc (lv' := [some (.ref (b + 0)), some (.int (nI i)), some (.int (nI j)), some (.int (nI u)), some (.int g), some (.ref (b + k)), some (.ref (b + (k + 1))), some (.int (nI 0)), some (.int (S m_sentBy i)), some (.int (nI 1)), some (.int (nI a)), some (.int (nI 1)), some (.int (nI 0)), some (.int (nI (p1 + 1)))]) hC dL_letters_330 (pc' := 333) rfl rfl (by decide) rfl ?_
                                        refine xi_goto (tgt := 249) hC dL_letters_333 (by decide) ?_
                                        refine ih249 _ (by omega) ?_
                                        · omega
                                      · exact absurd zc288 (by decide)
                                  · exact absurd zc266 (by decide)
                            refine L249 _ _ (Nat.lt_succ_self _) ?_
                            · omega
                          · exact absurd rfl zc241
              · skip
                refine xi_iconst (v := nI 1) hC dL_letters_143 (pc' := 144) rfl (by decide +kernel) ?_
                refine xb_ireturn hC dL_letters_144 hr (by decide) rfl ?_
                exact ⟨σ23, T24, rfl, (hST24).up (by omega), hRσ23, (hJT24).up (by omega), rfl⟩
          · exact absurd rfl zc126
      · exact absurd zc68 (by decide)
    · exact absurd zc48 hij
  · skip
    refine xi_aload_n hC dL_letters_38 (pc' := 39) rfl rfl rfl ?_
    refine xi_iload_n hC dL_letters_39 (pc' := 40) rfl rfl rfl ?_
    refine xi_iload_n hC dL_letters_40 (pc' := 41) rfl rfl rfl ?_
    refine xi_callV (As := [.int (nI i), .int (nI j)]) (rest := []) (c_X7_sendLetter l D b (b + (k + 2)) (σ := σ7) (S := S) (N := N) (u := u) (w := w) hS hRσ7 (by omega) (x := (nI i)) (y := (nI j))) hC dL_letters_41 (pc' := 44) rfl xw_m_L_60 xw_c_X7_sendLetter xw_ins_X7_sendLetter xw_sel_X7_sendLetter xw_ini_X7 xd_X7_sendLetter (xH_at.trans (xsh_7 kd_0)) rfl ⟨Nat.le_of_ble_eq_true rfl, Nat.le_of_ble_eq_true rfl⟩ rfl (Nat.le_of_ble_eq_true rfl) ⟨Nat.le_of_ble_eq_true rfl, Nat.le_of_ble_eq_true rfl⟩ ?_
    rintro _ _ ⟨r157, σ158, rfl, hHσ158, hO160, rfl⟩
    obtain ⟨rT159, T159, hZT159⟩ := ex_send (S := S) (u := u) (w := w) (x := (nI i)) (y := (nI j)) hS.1
    obtain ⟨eT159, hRσ158⟩ := hO160 rT159 T159 hZT159
    obtain ⟨e2T159, fs, fl, fK, fA, fP, fL⟩ := d_ok hZT159 hi hj hij hZl (by omega)
    obtain rfl : r157 = nI (z + 1) := eT159.trans e2T159
    have hST159 := SI_send hS hZT159
    have hJT159 := JJ_send hS.1 hJ hZT159
    have hlσ158_k : σ158 k 4096 = nI 8 := by rw [hHσ158 k (by omega)]; exact hlσ7
    have hlσ158_k1 : σ158 (k + 1) 4096 = nI 8 := by rw [hHσ158 (k + 1) (by omega)]; exact hlσ7_k1
    have hfσ158_k : ∀ zz, zz < u → σ158 k zz = (rK S i) zz := fun q hq => by rw [hHσ158 k (by omega)]; exact hfσ7 q hq
    show xV _ _ _ _ _ _ _ _ _ _ _ _ _ _ _ _ _ (xH D b σ158) _ _ [.int (nI (z + 1))]
    refine xi_istore (lv' := [some (.ref (b + 0)), some (.int (nI i)), some (.int (nI j)), some (.int (nI u)), some (.int g), some (.ref (b + k)), some (.ref (b + (k + 1))), some (.int (nI z)), some (.int (S m_sentBy i)), some (.int (nI (z + 1))), none, none, none, none]) hC dL_letters_44 (pc' := 46) rfl (by decide) rfl ?_
    refine xi_iload_n hC dL_letters_46 (pc' := 47) rfl rfl rfl ?_
    refine xi_iload_n hC dL_letters_47 (pc' := 48) rfl rfl rfl ?_
    refine xn_icmpne (tgt := 65) hC dL_letters_48 (pc' := 51) rfl (by decide) (by omega) (by omega) (fun zc48 => ?_) (fun zc48 => ?_)
    · skip
      refine xi_iload hC dL_letters_65 (pc' := 67) rfl rfl ?_
      refine xi_iconst (v := nI 4) hC dL_letters_67 (pc' := 68) rfl (by decide +kernel) ?_
      refine xn_icmpne (tgt := 106) hC dL_letters_68 (pc' := 71) rfl (by decide) (by omega) (by omega) (fun zc68 => ?_) (fun zc68 => ?_)
      · skip
        refine xi_iload hC dL_letters_106 (pc' := 108) rfl rfl ?_
        refine xi_iload hC dL_letters_108 (pc' := 110) rfl rfl ?_
        refine xi_iconst (v := nI 1) hC dL_letters_110 (pc' := 111) rfl (by decide +kernel) ?_
        refine xn_iadd hC dL_letters_111 (pc' := 112) rfl ?_
        refine xi_icmpne (tgt := 129) hC dL_letters_112 (pc' := 115) rfl (by decide) (fun zc112 => ?_) (fun zc112 => ?_)
        · exact absurd rfl zc112
        · skip
          refine xi_aload_n hC dL_letters_115 (pc' := 116) rfl rfl rfl ?_
          refine xi_iload_n hC dL_letters_116 (pc' := 117) rfl rfl rfl ?_
          refine xi_bipush (v := nI 6) hC dL_letters_117 (pc' := 119) rfl (by decide +kernel) ?_
          refine xi_callV (As := [.int (nI i), .int (nI 6)]) (rest := []) (c_X7_user l D b (b + (k + 2)) (σ := σ158) (S := T159) (N := N) (u := u) (w := w) hST159 hRσ158 (by omega) (x := (nI i)) (y := (nI 6))) hC dL_letters_119 (pc' := 122) rfl xw_m_L_18 xw_c_X7_user xw_ins_X7_user xw_sel_X7_user xw_ini_X7 xd_X7_user (xH_at.trans (xsh_7 kd_0)) rfl ⟨Nat.le_of_ble_eq_true rfl, Nat.le_of_ble_eq_true rfl⟩ rfl (Nat.le_of_ble_eq_true rfl) ⟨Nat.le_of_ble_eq_true rfl, Nat.le_of_ble_eq_true rfl⟩ ?_
          rintro _ _ ⟨r161, rfl, hO162, rfl⟩
          obtain rfl : r161 = ((S m_sentBy i) + (nI u)) := (hO162 _ (su_6 (by omega) (by omega))).trans (fs)
          show xV _ _ _ _ _ _ _ _ _ _ _ _ _ _ _ _ _ (xH D b σ158) _ _ [.int ((S m_sentBy i) + (nI u))]
          refine xi_iload hC dL_letters_122 (pc' := 124) rfl rfl ?_
          refine xi_iload_n hC dL_letters_124 (pc' := 125) rfl rfl rfl ?_
          refine xi_iadd hC dL_letters_125 (pc' := 126) rfl ?_
          refine xi_icmpeq (tgt := 131) hC dL_letters_126 (pc' := 129) rfl (by decide) (fun zc126 => ?_) (fun zc126 => ?_)
          · skip
            refine xi_iload hC dL_letters_131 (pc' := 133) rfl rfl ?_
            refine xn_ifgt (tgt := 143) hC dL_letters_133 (pc' := 136) rfl (by decide) (by omega) (fun zc133 => ?_) (fun zc133 => ?_)
            · skip
              refine xi_iconst (v := nI 1) hC dL_letters_143 (pc' := 144) rfl (by decide +kernel) ?_
              refine xb_ireturn hC dL_letters_144 hr (by decide) rfl ?_
              exact ⟨σ158, T159, rfl, (hST159).up (by omega), hRσ158, (hJT159).up (by omega), rfl⟩
            · exact absurd zc133 (by omega)
          · exact absurd rfl zc126
      · exact absurd zc68 (by omega)
    · exact absurd zc48 hij
