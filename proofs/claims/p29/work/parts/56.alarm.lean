set_option maxRecDepth 100000 in
set_option maxHeartbeats 8000000 in
theorem c_L_alarm (l : Launch) (D : XD) (b k : Nat) {σ S : XM} {N u w : Nat} (hS : SI N S u w) (hR : RR σ S u w) (hN : N + 1 < 2 ^ 31) {i v t : Nat} (hi : i < u) (hv : v < w) (hV : S m_viewOf i = nI v) (hk : 585 ≤ k) (ht : 585 ≤ t) (htk : t < k) (lt : σ t 4096 = nI 8) : xM l yL_alarm cL_alarm 9 (some .int) 3 70 2 16 D b (b + k) [.ref (b + 0), .int (nI i), .int (nI u), .ref (b + t)] (xH D b σ) (b + (k + 2)) (fun y' h' => ∃ τ : XM, y' = some (.int (nI (al S u v i))) ∧ (∀ o, o ≠ t → o < k → τ o = σ o) ∧ τ t 4096 = nI 8 ∧ (al S u v i = 0 → ∀ p, p < u → τ t p = rV S v (bst S u v) p) ∧ h' = xH D b τ) := by
  refine xM.of (lv := [some (.ref (b + 0)), some (.int (nI i)), some (.int (nI u)), some (.ref (b + t)), none, none, none, none, none]) (by decide +kernel) rfl (List.forall_mem_cons.mpr ⟨rfl, List.forall_mem_cons.mpr ⟨rfl, List.forall_mem_cons.mpr ⟨rfl, List.forall_mem_cons.mpr ⟨rfl, fun _ h => absurd h List.not_mem_nil⟩⟩⟩⟩) (Nat.le_of_ble_eq_true rfl) rfl ?_
  intro p e s m args below meth c hC hr hnm
  have hu := hS.1.1.2
  have hw := hS.1.2.1.2
  have fr0 : ∀ o, o ≠ t → o < k → σ o = σ o := fun _ _ _ => rfl
  refine xi_aload_n hC dL_alarm_0 (pc' := 1) rfl rfl rfl ?_
  refine xi_iload_n hC dL_alarm_1 (pc' := 2) rfl rfl rfl ?_
  refine xi_iconst (v := nI 0) hC dL_alarm_2 (pc' := 3) rfl (by decide +kernel) ?_
  refine xi_callV (As := [.int (nI i), .int (nI 0)]) (rest := []) (c_X7_user l D b (b + k) (σ := σ) (S := S) (N := N) (u := u) (w := w) hS hR (by omega) (x := (nI i)) (y := (nI 0))) hC dL_alarm_3 (pc' := 6) rfl xw_m_L_18 xw_c_X7_user xw_ins_X7_user xw_sel_X7_user xw_ini_X7 xd_X7_user (xH_at.trans (xsh_7 kd_0)) rfl ⟨Nat.le_of_ble_eq_true rfl, Nat.le_of_ble_eq_true rfl⟩ rfl (Nat.le_of_ble_eq_true rfl) ⟨Nat.le_of_ble_eq_true rfl, Nat.le_of_ble_eq_true rfl⟩ ?_
  rintro _ _ ⟨r1, rfl, hO2, rfl⟩
  obtain rfl : r1 = (nI v) := hO2 _ (su_0 (by omega) (by omega) hV)
  show xV _ _ _ _ _ _ _ _ _ _ _ _ _ _ _ _ _ (xH D b σ) _ _ [.int (nI v)]
  refine xi_istore (lv' := [some (.ref (b + 0)), some (.int (nI i)), some (.int (nI u)), some (.ref (b + t)), some (.int (nI v)), none, none, none, none]) hC dL_alarm_6 (pc' := 8) rfl (by decide) rfl ?_
  refine xi_bipush (v := nI 8) hC dL_alarm_8 (pc' := 10) rfl (by decide +kernel) ?_
  refine xn_L (k0 := k) (N := 8) hC dL_alarm_10 (pc' := 12) rfl rfl (by omega) (by decide) rfl ⟨Nat.le_of_ble_eq_true rfl, Nat.le_of_ble_eq_true rfl⟩ ?_
  have hlσ3 : su σ k (zL 8) k 4096 = nI 8 := by rw [su_s]; exact zL_len
  have heσ3 : ∀ o, o ≠ k → su σ k (zL 8) o = σ o := fun o ho => su_n ho
  generalize su σ k (zL 8) = σ3 at hlσ3 heσ3 ⊢
  have hRσ3 := hR.hi (by omega) (fun o ho => heσ3 o (by omega))
  have frσ3 : ∀ o, o ≠ t → o < k → σ3 o = σ o := fun o h0 h1 => (heσ3 o (by omega)).trans (fr0 o h0 h1)
  have hlσ3_t : σ3 t 4096 = nI 8 := by rw [heσ3 t (by omega)]; exact lt
  refine xi_astore (lv' := [some (.ref (b + 0)), some (.int (nI i)), some (.int (nI u)), some (.ref (b + t)), some (.int (nI v)), some (.ref (b + k)), none, none, none]) hC dL_alarm_12 (pc' := 14) rfl (by decide) rfl ?_
  refine xi_bipush (v := nI 8) hC dL_alarm_14 (pc' := 16) rfl (by decide +kernel) ?_
  refine xn_L (k0 := (k + 1)) (N := 8) hC dL_alarm_16 (pc' := 18) rfl rfl (by omega) (by decide) rfl ⟨Nat.le_of_ble_eq_true rfl, Nat.le_of_ble_eq_true rfl⟩ ?_
  have hlσ4 : su σ3 (k + 1) (zL 8) (k + 1) 4096 = nI 8 := by rw [su_s]; exact zL_len
  have heσ4 : ∀ o, o ≠ (k + 1) → su σ3 (k + 1) (zL 8) o = σ3 o := fun o ho => su_n ho
  generalize su σ3 (k + 1) (zL 8) = σ4 at hlσ4 heσ4 ⊢
  have hRσ4 := hRσ3.hi (by omega) (fun o ho => heσ4 o (by omega))
  have frσ4 : ∀ o, o ≠ t → o < k → σ4 o = σ o := fun o h0 h1 => (heσ4 o (by omega)).trans (frσ3 o h0 h1)
  have hlσ4_t : σ4 t 4096 = nI 8 := by rw [heσ4 t (by omega)]; exact hlσ3_t
  have hlσ4_k : σ4 k 4096 = nI 8 := by rw [heσ4 k (by omega)]; exact hlσ3
  refine xi_astore (lv' := [some (.ref (b + 0)), some (.int (nI i)), some (.int (nI u)), some (.ref (b + t)), some (.int (nI v)), some (.ref (b + k)), some (.ref (b + (k + 1))), none, none]) hC dL_alarm_18 (pc' := 20) rfl (by decide) rfl ?_
  refine xi_aload_n hC dL_alarm_20 (pc' := 21) rfl rfl rfl ?_
  refine xi_bipush (v := nI 100) hC dL_alarm_21 (pc' := 23) rfl (by decide +kernel) ?_
  refine xi_bipush (v := nI 10) hC dL_alarm_23 (pc' := 25) rfl (by decide +kernel) ?_
  refine xi_iload hC dL_alarm_25 (pc' := 27) rfl rfl ?_
  refine xn_imul hC dL_alarm_27 (pc' := 28) rfl ?_
  refine xn_iadd hC dL_alarm_28 (pc' := 29) rfl ?_
  refine xi_iload_n hC dL_alarm_29 (pc' := 30) rfl rfl rfl ?_
  refine xi_iload_n hC dL_alarm_30 (pc' := 31) rfl rfl rfl ?_
  refine xi_aload hC dL_alarm_31 (pc' := 33) rfl rfl ?_
  refine xi_callS (As := [.ref (b + 0), .int (nI (100 + (10 * v))), .int (nI i), .int (nI u), .ref (b + k)]) (rest := []) (c_L_reade l D b (b + (k + 2)) (σ := σ4) (S := S) (N := N) (u := u) (w := w) hS hRσ4 (by omega) (t := k) (by omega) hlσ4_k (f := (rV S v i)) (v := v) (i := i) (by omega) (by omega) (fun _ => rfl)) hC dL_alarm_33 (pc' := 36) rfl xw_m_L_22 xw_c_L_read xw_sta_L_read xw_ini_L xd_L_read ⟨Nat.le_of_ble_eq_true rfl, Nat.le_of_ble_eq_true rfl⟩ rfl (Nat.le_of_ble_eq_true rfl) ⟨Nat.le_of_ble_eq_true rfl, Nat.le_of_ble_eq_true rfl⟩ ?_
  rintro _ _ ⟨σ5, rfl, heσ5, hfσ5, hlσ5, rfl⟩
  show xV _ _ _ _ _ _ _ _ _ _ _ _ _ _ _ _ _ (xH D b σ5) _ _ []
  have hRσ5 := hRσ4.hi (by omega) (fun o ho => heσ5 o (by omega))
  have frσ5 : ∀ o, o ≠ t → o < k → σ5 o = σ o := fun o h0 h1 => (heσ5 o (by omega)).trans (frσ4 o h0 h1)
  have hlσ5_t : σ5 t 4096 = nI 8 := by rw [heσ5 t (by omega)]; exact hlσ4_t
  have hlσ5_k1 : σ5 (k + 1) 4096 = nI 8 := by rw [heσ5 (k + 1) (by omega)]; exact hlσ4
  refine xi_aload_n hC dL_alarm_36 (pc' := 37) rfl rfl rfl ?_
  refine xi_iconst (v := nI 0) hC dL_alarm_37 (pc' := 38) rfl (by decide +kernel) ?_
  refine xi_iload_n hC dL_alarm_38 (pc' := 39) rfl rfl rfl ?_
  refine xi_iload_n hC dL_alarm_39 (pc' := 40) rfl rfl rfl ?_
  refine xi_aload hC dL_alarm_40 (pc' := 42) rfl rfl ?_
  refine xi_callS (As := [.ref (b + 0), .int (nI 0), .int (nI i), .int (nI u), .ref (b + (k + 1))]) (rest := []) (c_L_readv l D b (b + (k + 2)) (σ := σ5) (S := S) (N := N) (u := u) (w := w) hS hRσ5 (by omega) (t := (k + 1)) (by omega) hlσ5_k1 (f := (rG S i)) (by omega) (fun q hq => sv_0 (by omega) hq (by omega))) hC dL_alarm_42 (pc' := 45) rfl xw_m_L_22 xw_c_L_read xw_sta_L_read xw_ini_L xd_L_read ⟨Nat.le_of_ble_eq_true rfl, Nat.le_of_ble_eq_true rfl⟩ rfl (Nat.le_of_ble_eq_true rfl) ⟨Nat.le_of_ble_eq_true rfl, Nat.le_of_ble_eq_true rfl⟩ ?_
  rintro _ _ ⟨σ6, rfl, heσ6, hfσ6, hlσ6, rfl⟩
  show xV _ _ _ _ _ _ _ _ _ _ _ _ _ _ _ _ _ (xH D b σ6) _ _ []
  have hRσ6 := hRσ5.hi (by omega) (fun o ho => heσ6 o (by omega))
  have frσ6 : ∀ o, o ≠ t → o < k → σ6 o = σ o := fun o h0 h1 => (heσ6 o (by omega)).trans (frσ5 o h0 h1)
  have hlσ6_t : σ6 t 4096 = nI 8 := by rw [heσ6 t (by omega)]; exact hlσ5_t
  have hlσ6_k : σ6 k 4096 = nI 8 := by rw [heσ6 k (by omega)]; exact hlσ5
  have hfσ6_k : ∀ zz, zz < u → σ6 k zz = (rV S v i) zz := fun q hq => by rw [heσ6 k (by omega)]; exact hfσ5 q hq
  refine xi_aload hC dL_alarm_45 (pc' := 47) rfl rfl ?_
  refine xi_aload hC dL_alarm_47 (pc' := 49) rfl rfl ?_
  refine xi_iload_n hC dL_alarm_49 (pc' := 50) rfl rfl rfl ?_
  refine xi_callS (As := [.ref (b + k), .ref (b + (k + 1)), .int (nI u)]) (rest := []) (c_L_most l D b (b + (k + 2)) (σ := σ6) (ta := k) (tb := (k + 1)) (u := u) (by omega) (by omega) hlσ6_k hlσ6 (by omega)) hC dL_alarm_50 (pc' := 53) rfl xw_m_L_28 xw_c_L_most xw_sta_L_most xw_ini_L xd_L_most ⟨Nat.le_of_ble_eq_true rfl, Nat.le_of_ble_eq_true rfl⟩ rfl (Nat.le_of_ble_eq_true rfl) ⟨Nat.le_of_ble_eq_true rfl, Nat.le_of_ble_eq_true rfl⟩ ?_
  rintro _ _ ⟨rfl, rfl⟩
  show xV _ _ _ _ _ _ _ _ _ _ _ _ _ _ _ _ _ (xH D b σ6) _ _ [.int (bI (vle u (σ6 k) (σ6 (k + 1))))]
  refine xtop (y := (bI (vle u (rV S v i) (rG S i)))) (bI_congr (vle_congr hfσ6_k hfσ6)) ?_
  refine xb_ifeq (tgt := 67) hC dL_alarm_53 (pc' := 56) rfl (by decide) (fun zc53 => ?_) (fun zc53 => ?_)
  · skip
    refine xi_iconst (v := nI 1) hC dL_alarm_67 (pc' := 68) rfl (by decide +kernel) ?_
    refine xi_ireturn hC dL_alarm_68 hr rfl ?_
    exact ⟨σ6, by rw [al_1 (fun q => zc53 q.1)], frσ6, hlσ6_t, fun q => absurd ((al_1 (fun q => zc53 q.1)).symm.trans q) (by decide), rfl⟩
  · skip
    refine xi_aload hC dL_alarm_56 (pc' := 58) rfl rfl ?_
    refine xi_aload hC dL_alarm_58 (pc' := 60) rfl rfl ?_
    refine xi_iload_n hC dL_alarm_60 (pc' := 61) rfl rfl rfl ?_
    refine xi_callS (As := [.ref (b + (k + 1)), .ref (b + k), .int (nI u)]) (rest := []) (c_L_most l D b (b + (k + 2)) (σ := σ6) (ta := (k + 1)) (tb := k) (u := u) (by omega) (by omega) hlσ6 hlσ6_k (by omega)) hC dL_alarm_61 (pc' := 64) rfl xw_m_L_28 xw_c_L_most xw_sta_L_most xw_ini_L xd_L_most ⟨Nat.le_of_ble_eq_true rfl, Nat.le_of_ble_eq_true rfl⟩ rfl (Nat.le_of_ble_eq_true rfl) ⟨Nat.le_of_ble_eq_true rfl, Nat.le_of_ble_eq_true rfl⟩ ?_
    rintro _ _ ⟨rfl, rfl⟩
    show xV _ _ _ _ _ _ _ _ _ _ _ _ _ _ _ _ _ (xH D b σ6) _ _ [.int (bI (vle u (σ6 (k + 1)) (σ6 k)))]
    refine xtop (y := (bI (vle u (rG S i) (rV S v i)))) (bI_congr (vle_congr hfσ6 hfσ6_k)) ?_
    refine xb_ifne (tgt := 69) hC dL_alarm_64 (pc' := 67) rfl (by decide) (fun zc64 => ?_) (fun zc64 => ?_)
    · skip
      have hE : vle u (rV S v i) (rG S i) ∧ vle u (rG S i) (rV S v i) := ⟨zc53, zc64⟩
      refine xi_iconst (v := nI 0) hC dL_alarm_69 (pc' := 70) rfl (by decide +kernel) ?_
      refine xi_istore (lv' := [some (.ref (b + 0)), some (.int (nI i)), some (.int (nI u)), some (.ref (b + t)), some (.int (nI v)), some (.ref (b + k)), some (.ref (b + (k + 1))), some (.int (nI 0)), none]) hC dL_alarm_70 (pc' := 72) rfl (by decide) rfl ?_
      have L72 : ∀ (d : Nat) (j : Nat) (τa : XM), u - j < d → (j ≤ u) → (∀ o, o ≠ t → o < k → τa o = σ o) → (τa t 4096 = nI 8) → (τa k 4096 = nI 8) → (τa (k + 1) 4096 = nI 8) → (∀ q, q < j → τa t q = nI 0) → xV p l e (xR 3 70 2 16) s m args below meth c D b 9 2 16 (MQ below (xQ D b (b + (k + 2)) (fun y' h' => ∃ τ : XM, y' = some (.int (nI (al S u v i))) ∧ (∀ o, o ≠ t → o < k → τ o = σ o) ∧ τ t 4096 = nI 8 ∧ (al S u v i = 0 → ∀ p, p < u → τ t p = rV S v (bst S u v) p) ∧ h' = xH D b τ)) args s 2 16 (fun q => b ≤ q)) (b + (k + 2)) (xH D b τa) 72 [some (.ref (b + 0)), some (.int (nI i)), some (.int (nI u)), some (.ref (b + t)), some (.int (nI v)), some (.ref (b + k)), some (.ref (b + (k + 1))), some (.int (nI j)), none] [] := by
        intro d
        induction d with
        | zero => intro j τa h; exact absurd h (Nat.not_lt_zero _)
        | succ d ih72 =>
          intro j τa hd72 hj1 frτa htτa hkτa hjτa z1
          have hRτa := hR.hi (σ' := τa) (by omega) (fun o ho => frτa o (by omega) (by omega))
          refine xi_iload hC dL_alarm_72 (pc' := 74) rfl rfl ?_
          refine xi_iload_n hC dL_alarm_74 (pc' := 75) rfl rfl rfl ?_
          refine xn_icmpge (tgt := 89) hC dL_alarm_75 (pc' := 78) rfl (by decide) (by omega) (by omega) (fun zc75 => ?_) (fun zc75 => ?_)
          · skip
            refine xi_iconst (v := nI 0) hC dL_alarm_89 (pc' := 90) rfl (by decide +kernel) ?_
            refine xi_istore (lv' := [some (.ref (b + 0)), some (.int (nI i)), some (.int (nI u)), some (.ref (b + t)), some (.int (nI v)), some (.ref (b + k)), some (.ref (b + (k + 1))), some (.int (nI 0)), none]) hC dL_alarm_90 (pc' := 92) rfl (by decide) rfl ?_
            have L92 : ∀ (d : Nat) (x : Nat) (τb : XM) (o8 : Option Value), u - x < d → (x ≤ u) → (∀ o, o ≠ t → o < k → τb o = σ o) → (τb t 4096 = nI 8) → (τb k 4096 = nI 8) → (τb (k + 1) 4096 = nI 8) → (∀ q, q < u → τb t q = mxV (rV S v) x q) → (∀ a c, a < c → c < x → rel u (rV S v a) (rV S v c) ≠ 2) → xV p l e (xR 3 70 2 16) s m args below meth c D b 9 2 16 (MQ below (xQ D b (b + (k + 2)) (fun y' h' => ∃ τ : XM, y' = some (.int (nI (al S u v i))) ∧ (∀ o, o ≠ t → o < k → τ o = σ o) ∧ τ t 4096 = nI 8 ∧ (al S u v i = 0 → ∀ p, p < u → τ t p = rV S v (bst S u v) p) ∧ h' = xH D b τ)) args s 2 16 (fun q => b ≤ q)) (b + (k + 2)) (xH D b τb) 92 [some (.ref (b + 0)), some (.int (nI i)), some (.int (nI u)), some (.ref (b + t)), some (.int (nI v)), some (.ref (b + k)), some (.ref (b + (k + 1))), some (.int (nI x)), o8] [] := by
              intro d
              induction d with
              | zero => intro x τb o8 h; exact absurd h (Nat.not_lt_zero _)
              | succ d ih92 =>
                intro x τb o8 hd92 hx1 frτb htτb hkτb hjτb z2 nf
                have hRτb := hR.hi (σ' := τb) (by omega) (fun o ho => frτb o (by omega) (by omega))
                refine xi_iload hC dL_alarm_92 (pc' := 94) rfl rfl ?_
                refine xi_iload_n hC dL_alarm_94 (pc' := 95) rfl rfl rfl ?_
                refine xn_icmpge (tgt := 221) hC dL_alarm_95 (pc' := 98) rfl (by decide) (by omega) (by omega) (fun zc95 => ?_) (fun zc95 => ?_)
                · skip
                  have hxu : x = u := by omega
                  have hnf : ¬ fkd u u (rV S v) := fun ⟨a, c, q1, q2, q3⟩ => nf a c q1 (by omega) q3
                  have hft : ∀ q, q < u → τb t q = rV S v (bst S u v) q := fun q hq => by rw [z2 q hq, hxu]; exact top_best hS (by omega) hv hnf q hq
                  refine xi_aload_n hC dL_alarm_221 (pc' := 222) rfl rfl rfl ?_
                  refine xi_iconst (v := nI 1) hC dL_alarm_222 (pc' := 223) rfl (by decide +kernel) ?_
                  refine xi_iload_n hC dL_alarm_223 (pc' := 224) rfl rfl rfl ?_
                  refine xi_iload_n hC dL_alarm_224 (pc' := 225) rfl rfl rfl ?_
                  refine xi_aload hC dL_alarm_225 (pc' := 227) rfl rfl ?_
                  refine xi_callS (As := [.ref (b + 0), .int (nI 1), .int (nI i), .int (nI u), .ref (b + k)]) (rest := []) (c_L_readv l D b (b + (k + 2)) (σ := τb) (S := S) (N := N) (u := u) (w := w) hS hRτb (by omega) (t := k) (by omega) hkτb (f := (rK S i)) (by omega) (fun q hq => sv_1 (by omega) hq (by omega))) hC dL_alarm_227 (pc' := 230) rfl xw_m_L_22 xw_c_L_read xw_sta_L_read xw_ini_L xd_L_read ⟨Nat.le_of_ble_eq_true rfl, Nat.le_of_ble_eq_true rfl⟩ rfl (Nat.le_of_ble_eq_true rfl) ⟨Nat.le_of_ble_eq_true rfl, Nat.le_of_ble_eq_true rfl⟩ ?_
                  rintro _ _ ⟨σ7, rfl, heσ7, hfσ7, hlσ7, rfl⟩
                  show xV _ _ _ _ _ _ _ _ _ _ _ _ _ _ _ _ _ (xH D b σ7) _ _ []
                  have hRσ7 := hRτb.hi (by omega) (fun o ho => heσ7 o (by omega))
                  have frσ7 : ∀ o, o ≠ t → o < k → σ7 o = σ o := fun o h0 h1 => (heσ7 o (by omega)).trans (frτb o h0 h1)
                  have hlσ7_t : σ7 t 4096 = nI 8 := by rw [heσ7 t (by omega)]; exact htτb
                  have hlσ7_k1 : σ7 (k + 1) 4096 = nI 8 := by rw [heσ7 (k + 1) (by omega)]; exact hjτb
                  have hfσ7_t : ∀ zz, zz < u → σ7 t zz = (rV S v (bst S u v)) zz := fun q hq => by rw [heσ7 t (by omega)]; exact hft q hq
                  refine xi_aload hC dL_alarm_230 (pc' := 232) rfl rfl ?_
                  refine xi_aload_n hC dL_alarm_232 (pc' := 233) rfl rfl rfl ?_
                  refine xi_iload_n hC dL_alarm_233 (pc' := 234) rfl rfl rfl ?_
                  refine xi_callS (As := [.ref (b + k), .ref (b + t), .int (nI u)]) (rest := []) (c_L_most l D b (b + (k + 2)) (σ := σ7) (ta := k) (tb := t) (u := u) (by omega) ht hlσ7 hlσ7_t (by omega)) hC dL_alarm_234 (pc' := 237) rfl xw_m_L_28 xw_c_L_most xw_sta_L_most xw_ini_L xd_L_most ⟨Nat.le_of_ble_eq_true rfl, Nat.le_of_ble_eq_true rfl⟩ rfl (Nat.le_of_ble_eq_true rfl) ⟨Nat.le_of_ble_eq_true rfl, Nat.le_of_ble_eq_true rfl⟩ ?_
                  rintro _ _ ⟨rfl, rfl⟩
                  show xV _ _ _ _ _ _ _ _ _ _ _ _ _ _ _ _ _ (xH D b σ7) _ _ [.int (bI (vle u (σ7 k) (σ7 t)))]
                  refine xtop (y := (bI (vle u (rK S i) (rV S v (bst S u v))))) (bI_congr (vle_congr hfσ7 hfσ7_t)) ?_
                  refine xb_ifeq (tgt := 244) hC dL_alarm_237 (pc' := 240) rfl (by decide) (fun zc237 => ?_) (fun zc237 => ?_)
                  · skip
                    refine xi_iconst (v := nI 3) hC dL_alarm_244 (pc' := 245) rfl (by decide +kernel) ?_
                    refine xi_ireturn hC dL_alarm_245 hr rfl ?_
                    exact ⟨σ7, by rw [al_3 hE hnf zc237], frσ7, hlσ7_t, fun q => absurd ((al_3 hE hnf zc237).symm.trans q) (by decide), rfl⟩
                  · skip
                    refine xi_iconst (v := nI 0) hC dL_alarm_240 (pc' := 241) rfl (by decide +kernel) ?_
                    refine xi_goto (tgt := 245) hC dL_alarm_241 (by decide) ?_
                    refine xi_ireturn hC dL_alarm_245 hr rfl ?_
                    exact ⟨σ7, by rw [al_0 hE hnf zc237], frσ7, hlσ7_t, fun _ => hfσ7_t, rfl⟩
                · skip
                  refine xi_aload_n hC dL_alarm_98 (pc' := 99) rfl rfl rfl ?_
                  refine xi_bipush (v := nI 100) hC dL_alarm_99 (pc' := 101) rfl (by decide +kernel) ?_
                  refine xi_bipush (v := nI 10) hC dL_alarm_101 (pc' := 103) rfl (by decide +kernel) ?_
                  refine xi_iload hC dL_alarm_103 (pc' := 105) rfl rfl ?_
                  refine xn_imul hC dL_alarm_105 (pc' := 106) rfl ?_
                  refine xn_iadd hC dL_alarm_106 (pc' := 107) rfl ?_
                  refine xi_iload hC dL_alarm_107 (pc' := 109) rfl rfl ?_
                  refine xi_iload_n hC dL_alarm_109 (pc' := 110) rfl rfl rfl ?_
                  refine xi_aload hC dL_alarm_110 (pc' := 112) rfl rfl ?_
                  refine xi_callS (As := [.ref (b + 0), .int (nI (100 + (10 * v))), .int (nI x), .int (nI u), .ref (b + k)]) (rest := []) (c_L_reade l D b (b + (k + 2)) (σ := τb) (S := S) (N := N) (u := u) (w := w) hS hRτb (by omega) (t := k) (by omega) hkτb (f := (rV S v x)) (v := v) (i := x) (by omega) (by omega) (fun _ => rfl)) hC dL_alarm_112 (pc' := 115) rfl xw_m_L_22 xw_c_L_read xw_sta_L_read xw_ini_L xd_L_read ⟨Nat.le_of_ble_eq_true rfl, Nat.le_of_ble_eq_true rfl⟩ rfl (Nat.le_of_ble_eq_true rfl) ⟨Nat.le_of_ble_eq_true rfl, Nat.le_of_ble_eq_true rfl⟩ ?_
                  rintro _ _ ⟨σ8, rfl, heσ8, hfσ8, hlσ8, rfl⟩
                  show xV _ _ _ _ _ _ _ _ _ _ _ _ _ _ _ _ _ (xH D b σ8) _ _ []
                  have hRσ8 := hRτb.hi (by omega) (fun o ho => heσ8 o (by omega))
                  have frσ8 : ∀ o, o ≠ t → o < k → σ8 o = σ o := fun o h0 h1 => (heσ8 o (by omega)).trans (frτb o h0 h1)
                  have hlσ8_t : σ8 t 4096 = nI 8 := by rw [heσ8 t (by omega)]; exact htτb
                  have hlσ8_k1 : σ8 (k + 1) 4096 = nI 8 := by rw [heσ8 (k + 1) (by omega)]; exact hjτb
                  refine xi_iconst (v := nI 0) hC dL_alarm_115 (pc' := 116) rfl (by decide +kernel) ?_
                  refine xi_istore (lv' := [some (.ref (b + 0)), some (.int (nI i)), some (.int (nI u)), some (.ref (b + t)), some (.int (nI v)), some (.ref (b + k)), some (.ref (b + (k + 1))), some (.int (nI x)), some (.int (nI 0))]) hC dL_alarm_116 (pc' := 118) rfl (by decide) rfl ?_
                  have L118 : ∀ (d : Nat) (y : Nat) (τc : XM), x - y < d → (y ≤ x) → (∀ o, o ≠ t → o < k → τc o = σ o) → (τc t 4096 = nI 8) → (τc k 4096 = nI 8) → (τc (k + 1) 4096 = nI 8) → (∀ q, q < u → τc t q = mxV (rV S v) x q) → (∀ q, q < u → τc k q = rV S v x q) → (∀ a, a < y → rel u (rV S v a) (rV S v x) ≠ 2) → xV p l e (xR 3 70 2 16) s m args below meth c D b 9 2 16 (MQ below (xQ D b (b + (k + 2)) (fun y' h' => ∃ τ : XM, y' = some (.int (nI (al S u v i))) ∧ (∀ o, o ≠ t → o < k → τ o = σ o) ∧ τ t 4096 = nI 8 ∧ (al S u v i = 0 → ∀ p, p < u → τ t p = rV S v (bst S u v) p) ∧ h' = xH D b τ)) args s 2 16 (fun q => b ≤ q)) (b + (k + 2)) (xH D b τc) 118 [some (.ref (b + 0)), some (.int (nI i)), some (.int (nI u)), some (.ref (b + t)), some (.int (nI v)), some (.ref (b + k)), some (.ref (b + (k + 1))), some (.int (nI x)), some (.int (nI y))] [] := by
                    intro d
                    induction d with
                    | zero => intro y τc h; exact absurd h (Nat.not_lt_zero _)
                    | succ d ih118 =>
                      intro y τc hd118 hy1 frτc htτc hkτc hjτc z3 fk3 nf2
                      have hRτc := hR.hi (σ' := τc) (by omega) (fun o ho => frτc o (by omega) (by omega))
                      refine xi_iload hC dL_alarm_118 (pc' := 120) rfl rfl ?_
                      refine xi_iload hC dL_alarm_120 (pc' := 122) rfl rfl ?_
                      refine xn_icmpge (tgt := 172) hC dL_alarm_122 (pc' := 125) rfl (by decide) (by omega) (by omega) (fun zc122 => ?_) (fun zc122 => ?_)
                      · skip
                        refine xi_iconst (v := nI 0) hC dL_alarm_172 (pc' := 173) rfl (by decide +kernel) ?_
                        refine xi_istore (lv' := [some (.ref (b + 0)), some (.int (nI i)), some (.int (nI u)), some (.ref (b + t)), some (.int (nI v)), some (.ref (b + k)), some (.ref (b + (k + 1))), some (.int (nI x)), some (.int (nI 0))]) hC dL_alarm_173 (pc' := 175) rfl (by decide) rfl ?_
                        have L175 : ∀ (d : Nat) (d8 : Nat) (τd : XM), u - d8 < d → (d8 ≤ u) → (∀ o, o ≠ t → o < k → τd o = σ o) → (τd t 4096 = nI 8) → (τd k 4096 = nI 8) → (τd (k + 1) 4096 = nI 8) → (∀ q, q < u → τd k q = rV S v x q) → (∀ q, q < d8 → τd t q = mxV (rV S v) (x + 1) q) → (∀ q, d8 ≤ q → q < u → τd t q = mxV (rV S v) x q) → xV p l e (xR 3 70 2 16) s m args below meth c D b 9 2 16 (MQ below (xQ D b (b + (k + 2)) (fun y' h' => ∃ τ : XM, y' = some (.int (nI (al S u v i))) ∧ (∀ o, o ≠ t → o < k → τ o = σ o) ∧ τ t 4096 = nI 8 ∧ (al S u v i = 0 → ∀ p, p < u → τ t p = rV S v (bst S u v) p) ∧ h' = xH D b τ)) args s 2 16 (fun q => b ≤ q)) (b + (k + 2)) (xH D b τd) 175 [some (.ref (b + 0)), some (.int (nI i)), some (.int (nI u)), some (.ref (b + t)), some (.int (nI v)), some (.ref (b + k)), some (.ref (b + (k + 1))), some (.int (nI x)), some (.int (nI d8))] [] := by
                          intro d
                          induction d with
                          | zero => intro d8 τd h; exact absurd h (Nat.not_lt_zero _)
                          | succ d ih175 =>
                            intro d8 τd hd175 hz1 frτd htτd hkτd hjτd fk4 zd1 zd2
                            have hRτd := hR.hi (σ' := τd) (by omega) (fun o ho => frτd o (by omega) (by omega))
                            refine xi_iload hC dL_alarm_175 (pc' := 177) rfl rfl ?_
                            refine xi_iload_n hC dL_alarm_177 (pc' := 178) rfl rfl rfl ?_
                            refine xn_icmpge (tgt := 215) hC dL_alarm_178 (pc' := 181) rfl (by decide) (by omega) (by omega) (fun zc178 => ?_) (fun zc178 => ?_)
                            · skip
                              refine xn_iinc (lv' := [some (.ref (b + 0)), some (.int (nI i)), some (.int (nI u)), some (.ref (b + t)), some (.int (nI v)), some (.ref (b + k)), some (.ref (b + (k + 1))), some (.int (nI (x + 1))), some (.int (nI d8))]) hC dL_alarm_215 (pc' := 218) rfl rfl (by decide) rfl ?_
                              refine xi_goto (tgt := 92) hC dL_alarm_218 (by decide) ?_
                              refine ih92 _ _ _ (by omega) ?_ ?_ ?_ ?_ ?_ ?_ ?_
                              · omega
                              · exact frτd
                              · exact htτd
                              · exact hkτd
                              · exact hjτd
                              · exact fun q hq => zd1 q (by omega)
                              · exact fun a c hac hc => by
                                  rcases Nat.lt_or_ge c x with z | z
                                  · exact nf a c hac z
                                  · rw [show c = x by omega]; exact nf2 a (by omega)
                            · skip
                              refine xi_aload_n hC dL_alarm_181 (pc' := 182) rfl rfl rfl ?_
                              refine xi_iload hC dL_alarm_182 (pc' := 184) rfl rfl ?_
                              refine xi_aload hC dL_alarm_184 (pc' := 186) rfl rfl ?_
                              refine xi_iload hC dL_alarm_186 (pc' := 188) rfl rfl ?_
                              refine xl_L hC dL_alarm_188 (pc' := 189) rfl (by omega) (by decide : (8 : Nat) = 8 ∨ (8 : Nat) = 36) hkτd rfl (by omega) ?_
                              refine xtop (y := (rV S v x d8)) (fk4 d8 (by omega)) ?_
                              refine xi_aload_n hC dL_alarm_189 (pc' := 190) rfl rfl rfl ?_
                              refine xi_iload hC dL_alarm_190 (pc' := 192) rfl rfl ?_
                              refine xl_L hC dL_alarm_192 (pc' := 193) rfl ht (by decide : (8 : Nat) = 8 ∨ (8 : Nat) = 36) htτd rfl (by omega) ?_
                              refine xtop (y := (mxV (rV S v) x d8)) (zd2 d8 (Nat.le_refl _) (by omega)) ?_
                              refine xi_icmple (tgt := 204) hC dL_alarm_193 (pc' := 196) rfl (by decide) (fun zc193 => ?_) (fun zc193 => ?_)
                              · skip
                                refine xi_aload_n hC dL_alarm_204 (pc' := 205) rfl rfl rfl ?_
                                refine xi_iload hC dL_alarm_205 (pc' := 207) rfl rfl ?_
                                refine xl_L hC dL_alarm_207 (pc' := 208) rfl ht (by decide : (8 : Nat) = 8 ∨ (8 : Nat) = 36) htτd rfl (by omega) ?_
                                refine xtop (y := (mxV (rV S v) x d8)) (zd2 d8 (Nat.le_refl _) (by omega)) ?_
                                refine xs_L hC dL_alarm_208 (pc' := 209) rfl ht (by decide : (8 : Nat) = 8 ∨ (8 : Nat) = 36) htτd rfl (by omega) ?_
                                refine xn_iinc (lv' := [some (.ref (b + 0)), some (.int (nI i)), some (.int (nI u)), some (.ref (b + t)), some (.int (nI v)), some (.ref (b + k)), some (.ref (b + (k + 1))), some (.int (nI x)), some (.int (nI (d8 + 1)))]) hC dL_alarm_209 (pc' := 212) rfl rfl (by decide) rfl ?_
                                refine xi_goto (tgt := 175) hC dL_alarm_212 (by decide) ?_
                                refine ih175 _ _ (by omega) ?_ ?_ ?_ ?_ ?_ ?_ ?_ ?_
                                · omega
                                · exact fun o h0 h1 => (sw_n (by omega)).trans (frτd o h0 h1)
                                · rw [sw_k (by omega)]; exact htτd
                                · rw [sw_n (by omega)]; exact hkτd
                                · rw [sw_n (by omega)]; exact hjτd
                                · exact fun q hq => by rw [sw_n (by omega)]; exact fk4 q hq
                                · exact fun q hq => by
                                    rcases Nat.lt_or_ge q d8 with z | z
                                    · rw [sw_k (by omega)]; exact zd1 q z
                                    · rw [show q = d8 by omega, sw_s]; exact (mxV_f (i_not_lt.mpr zc193)).symm
                                · exact fun q h1 h2 => by rw [sw_k (by omega)]; exact zd2 q (by omega) h2
                              · skip
                                refine xi_aload hC dL_alarm_196 (pc' := 198) rfl rfl ?_
                                refine xi_iload hC dL_alarm_198 (pc' := 200) rfl rfl ?_
                                refine xl_L hC dL_alarm_200 (pc' := 201) rfl (by omega) (by decide : (8 : Nat) = 8 ∨ (8 : Nat) = 36) hkτd rfl (by omega) ?_
                                refine xtop (y := (rV S v x d8)) (fk4 d8 (by omega)) ?_
                                refine xi_goto (tgt := 208) hC dL_alarm_201 (by decide) ?_
                                refine xs_L hC dL_alarm_208 (pc' := 209) rfl ht (by decide : (8 : Nat) = 8 ∨ (8 : Nat) = 36) htτd rfl (by omega) ?_
                                refine xn_iinc (lv' := [some (.ref (b + 0)), some (.int (nI i)), some (.int (nI u)), some (.ref (b + t)), some (.int (nI v)), some (.ref (b + k)), some (.ref (b + (k + 1))), some (.int (nI x)), some (.int (nI (d8 + 1)))]) hC dL_alarm_209 (pc' := 212) rfl rfl (by decide) rfl ?_
                                refine xi_goto (tgt := 175) hC dL_alarm_212 (by decide) ?_
                                refine ih175 _ _ (by omega) ?_ ?_ ?_ ?_ ?_ ?_ ?_ ?_
                                · omega
                                · exact fun o h0 h1 => (sw_n (by omega)).trans (frτd o h0 h1)
                                · rw [sw_k (by omega)]; exact htτd
                                · rw [sw_n (by omega)]; exact hkτd
                                · rw [sw_n (by omega)]; exact hjτd
                                · exact fun q hq => by rw [sw_n (by omega)]; exact fk4 q hq
                                · exact fun q hq => by
                                    rcases Nat.lt_or_ge q d8 with z | z
                                    · rw [sw_k (by omega)]; exact zd1 q z
                                    · rw [show q = d8 by omega, sw_s]; exact (mxV_t (i_not_le.mp zc193)).symm
                                · exact fun q h1 h2 => by rw [sw_k (by omega)]; exact zd2 q (by omega) h2
                        refine L175 _ _ _ (Nat.lt_succ_self _) ?_ ?_ ?_ ?_ ?_ ?_ ?_ ?_
                        · omega
                        · exact frτc
                        · exact htτc
                        · exact hkτc
                        · exact hjτc
                        · exact fk3
                        · exact fun q hq => absurd hq (Nat.not_lt_zero _)
                        · exact fun q _ hq => z3 q hq
                      · skip
                        refine xi_aload_n hC dL_alarm_125 (pc' := 126) rfl rfl rfl ?_
                        refine xi_bipush (v := nI 100) hC dL_alarm_126 (pc' := 128) rfl (by decide +kernel) ?_
                        refine xi_bipush (v := nI 10) hC dL_alarm_128 (pc' := 130) rfl (by decide +kernel) ?_
                        refine xi_iload hC dL_alarm_130 (pc' := 132) rfl rfl ?_
                        refine xn_imul hC dL_alarm_132 (pc' := 133) rfl ?_
                        refine xn_iadd hC dL_alarm_133 (pc' := 134) rfl ?_
                        refine xi_iload hC dL_alarm_134 (pc' := 136) rfl rfl ?_
                        refine xi_iload_n hC dL_alarm_136 (pc' := 137) rfl rfl rfl ?_
                        refine xi_aload hC dL_alarm_137 (pc' := 139) rfl rfl ?_
                        refine xi_callS (As := [.ref (b + 0), .int (nI (100 + (10 * v))), .int (nI y), .int (nI u), .ref (b + (k + 1))]) (rest := []) (c_L_reade l D b (b + (k + 2)) (σ := τc) (S := S) (N := N) (u := u) (w := w) hS hRτc (by omega) (t := (k + 1)) (by omega) hjτc (f := (rV S v y)) (v := v) (i := y) (by omega) (by omega) (fun _ => rfl)) hC dL_alarm_139 (pc' := 142) rfl xw_m_L_22 xw_c_L_read xw_sta_L_read xw_ini_L xd_L_read ⟨Nat.le_of_ble_eq_true rfl, Nat.le_of_ble_eq_true rfl⟩ rfl (Nat.le_of_ble_eq_true rfl) ⟨Nat.le_of_ble_eq_true rfl, Nat.le_of_ble_eq_true rfl⟩ ?_
                        rintro _ _ ⟨σ9, rfl, heσ9, hfσ9, hlσ9, rfl⟩
                        show xV _ _ _ _ _ _ _ _ _ _ _ _ _ _ _ _ _ (xH D b σ9) _ _ []
                        have hRσ9 := hRτc.hi (by omega) (fun o ho => heσ9 o (by omega))
                        have frσ9 : ∀ o, o ≠ t → o < k → σ9 o = σ o := fun o h0 h1 => (heσ9 o (by omega)).trans (frτc o h0 h1)
                        have hlσ9_t : σ9 t 4096 = nI 8 := by rw [heσ9 t (by omega)]; exact htτc
                        have hlσ9_k : σ9 k 4096 = nI 8 := by rw [heσ9 k (by omega)]; exact hkτc
                        have hfσ9_k : ∀ zz, zz < u → σ9 k zz = (rV S v x) zz := fun q hq => by rw [heσ9 k (by omega)]; exact fk3 q hq
                        refine xi_aload hC dL_alarm_142 (pc' := 144) rfl rfl ?_
                        refine xi_aload hC dL_alarm_144 (pc' := 146) rfl rfl ?_
                        refine xi_iload_n hC dL_alarm_146 (pc' := 147) rfl rfl rfl ?_
                        refine xi_callS (As := [.ref (b + k), .ref (b + (k + 1)), .int (nI u)]) (rest := []) (c_L_most l D b (b + (k + 2)) (σ := σ9) (ta := k) (tb := (k + 1)) (u := u) (by omega) (by omega) hlσ9_k hlσ9 (by omega)) hC dL_alarm_147 (pc' := 150) rfl xw_m_L_28 xw_c_L_most xw_sta_L_most xw_ini_L xd_L_most ⟨Nat.le_of_ble_eq_true rfl, Nat.le_of_ble_eq_true rfl⟩ rfl (Nat.le_of_ble_eq_true rfl) ⟨Nat.le_of_ble_eq_true rfl, Nat.le_of_ble_eq_true rfl⟩ ?_
                        rintro _ _ ⟨rfl, rfl⟩
                        show xV _ _ _ _ _ _ _ _ _ _ _ _ _ _ _ _ _ (xH D b σ9) _ _ [.int (bI (vle u (σ9 k) (σ9 (k + 1))))]
                        refine xtop (y := (bI (vle u (rV S v x) (rV S v y)))) (bI_congr (vle_congr hfσ9_k hfσ9)) ?_
                        refine xb_ifne (tgt := 166) hC dL_alarm_150 (pc' := 153) rfl (by decide) (fun zc150 => ?_) (fun zc150 => ?_)
                        · skip
                          refine xn_iinc (lv' := [some (.ref (b + 0)), some (.int (nI i)), some (.int (nI u)), some (.ref (b + t)), some (.int (nI v)), some (.ref (b + k)), some (.ref (b + (k + 1))), some (.int (nI x)), some (.int (nI (y + 1)))]) hC dL_alarm_166 (pc' := 169) rfl rfl (by decide) rfl ?_
                          refine xi_goto (tgt := 118) hC dL_alarm_169 (by decide) ?_
                          refine ih118 _ _ (by omega) ?_ ?_ ?_ ?_ ?_ ?_ ?_ ?_
                          · omega
                          · exact frσ9
                          · exact hlσ9_t
                          · exact hlσ9_k
                          · exact hlσ9
                          · exact fun q hq => by rw [heσ9 t (by omega)]; exact z3 q hq
                          · exact hfσ9_k
                          · exact fun a h => by
                              rcases Nat.lt_or_ge a y with z | z
                              · exact nf2 a z
                              · rw [show a = y by omega]; exact fun q => (rel_2.mp q).2 zc150
                        · skip
                          refine xi_aload hC dL_alarm_153 (pc' := 155) rfl rfl ?_
                          refine xi_aload hC dL_alarm_155 (pc' := 157) rfl rfl ?_
                          refine xi_iload_n hC dL_alarm_157 (pc' := 158) rfl rfl rfl ?_
                          refine xi_callS (As := [.ref (b + (k + 1)), .ref (b + k), .int (nI u)]) (rest := []) (c_L_most l D b (b + (k + 2)) (σ := σ9) (ta := (k + 1)) (tb := k) (u := u) (by omega) (by omega) hlσ9 hlσ9_k (by omega)) hC dL_alarm_158 (pc' := 161) rfl xw_m_L_28 xw_c_L_most xw_sta_L_most xw_ini_L xd_L_most ⟨Nat.le_of_ble_eq_true rfl, Nat.le_of_ble_eq_true rfl⟩ rfl (Nat.le_of_ble_eq_true rfl) ⟨Nat.le_of_ble_eq_true rfl, Nat.le_of_ble_eq_true rfl⟩ ?_
                          rintro _ _ ⟨rfl, rfl⟩
                          show xV _ _ _ _ _ _ _ _ _ _ _ _ _ _ _ _ _ (xH D b σ9) _ _ [.int (bI (vle u (σ9 (k + 1)) (σ9 k)))]
                          refine xtop (y := (bI (vle u (rV S v y) (rV S v x)))) (bI_congr (vle_congr hfσ9 hfσ9_k)) ?_
                          refine xb_ifne (tgt := 166) hC dL_alarm_161 (pc' := 164) rfl (by decide) (fun zc161 => ?_) (fun zc161 => ?_)
                          · skip
                            refine xn_iinc (lv' := [some (.ref (b + 0)), some (.int (nI i)), some (.int (nI u)), some (.ref (b + t)), some (.int (nI v)), some (.ref (b + k)), some (.ref (b + (k + 1))), some (.int (nI x)), some (.int (nI (y + 1)))]) hC dL_alarm_166 (pc' := 169) rfl rfl (by decide) rfl ?_
                            refine xi_goto (tgt := 118) hC dL_alarm_169 (by decide) ?_
                            refine ih118 _ _ (by omega) ?_ ?_ ?_ ?_ ?_ ?_ ?_ ?_
                            · omega
                            · exact frσ9
                            · exact hlσ9_t
                            · exact hlσ9_k
                            · exact hlσ9
                            · exact fun q hq => by rw [heσ9 t (by omega)]; exact z3 q hq
                            · exact hfσ9_k
                            · exact fun a h => by
                                rcases Nat.lt_or_ge a y with z | z
                                · exact nf2 a z
                                · rw [show a = y by omega]; exact fun q => (rel_2.mp q).1 zc161
                          · skip
                            refine xi_iconst (v := nI 2) hC dL_alarm_164 (pc' := 165) rfl (by decide +kernel) ?_
                            refine xi_ireturn hC dL_alarm_165 hr rfl ?_
                            exact ⟨σ9, by rw [al_2 hE ⟨y, x, by omega, by omega, rel_2.mpr ⟨zc161, zc150⟩⟩], frσ9, hlσ9_t, fun q => absurd ((al_2 hE ⟨y, x, by omega, by omega, rel_2.mpr ⟨zc161, zc150⟩⟩).symm.trans q) (by decide), rfl⟩
                  refine L118 _ _ _ (Nat.lt_succ_self _) ?_ ?_ ?_ ?_ ?_ ?_ ?_ ?_
                  · omega
                  · exact frσ8
                  · exact hlσ8_t
                  · exact hlσ8
                  · exact hlσ8_k1
                  · exact fun q hq => by rw [heσ8 t (by omega)]; exact z2 q hq
                  · exact hfσ8
                  · exact fun a h => absurd h (Nat.not_lt_zero _)
            refine L92 _ _ _ _ (Nat.lt_succ_self _) ?_ ?_ ?_ ?_ ?_ ?_ ?_
            · omega
            · exact frτa
            · exact htτa
            · exact hkτa
            · exact hjτa
            · exact fun q hq => z1 q (by omega)
            · exact fun a c _ hc => absurd hc (Nat.not_lt_zero _)
          · skip
            refine xi_aload_n hC dL_alarm_78 (pc' := 79) rfl rfl rfl ?_
            refine xi_iload hC dL_alarm_79 (pc' := 81) rfl rfl ?_
            refine xi_iconst (v := nI 0) hC dL_alarm_81 (pc' := 82) rfl (by decide +kernel) ?_
            refine xs_L hC dL_alarm_82 (pc' := 83) rfl ht (by decide : (8 : Nat) = 8 ∨ (8 : Nat) = 36) htτa rfl (by omega) ?_
            refine xn_iinc (lv' := [some (.ref (b + 0)), some (.int (nI i)), some (.int (nI u)), some (.ref (b + t)), some (.int (nI v)), some (.ref (b + k)), some (.ref (b + (k + 1))), some (.int (nI (j + 1))), none]) hC dL_alarm_83 (pc' := 86) rfl rfl (by decide) rfl ?_
            refine xi_goto (tgt := 72) hC dL_alarm_86 (by decide) ?_
            refine ih72 _ _ (by omega) ?_ ?_ ?_ ?_ ?_ ?_
            · omega
            · exact fun o h0 h1 => (sw_n (by omega)).trans (frτa o h0 h1)
            · rw [sw_k (by omega)]; exact htτa
            · rw [sw_n (by omega)]; exact hkτa
            · rw [sw_n (by omega)]; exact hjτa
            · exact fun q hq => by
                rcases Nat.lt_or_ge q j with z | z
                · rw [sw_k (by omega)]; exact z1 q z
                · rw [show q = j by omega, sw_s]
      refine L72 _ _ _ (Nat.lt_succ_self _) ?_ ?_ ?_ ?_ ?_ ?_
      · omega
      · exact frσ6
      · exact hlσ6_t
      · exact hlσ6_k
      · exact hlσ6
      · exact fun q hq => absurd hq (Nat.not_lt_zero _)
    · skip
      refine xi_iconst (v := nI 1) hC dL_alarm_67 (pc' := 68) rfl (by decide +kernel) ?_
      refine xi_ireturn hC dL_alarm_68 hr rfl ?_
      exact ⟨σ6, by rw [al_1 (fun q => zc64 q.2)], frσ6, hlσ6_t, fun q => absurd ((al_1 (fun q => zc64 q.2)).symm.trans q) (by decide), rfl⟩
