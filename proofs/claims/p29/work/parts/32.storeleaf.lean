theorem SI.vg {N : Nat} {σ S : XM} {u w v i : Nat} (h : SI N S u w) (hN : N < 2 ^ 31) (hR : RR σ S u w) (hv : v < w) (hi : i < 5) : rel 5 (xve σ (oEnt (oVw v)) i) (σ (oNum (oSig (oMem i)))) = rel u (rV S v i) (rG S i) := by
  have hW := h.w5 hN hR hv
  exact rel_5u hW.2.1 (hW.2.2.1 i hi) (fun p hp => (hR.2.2.1 i hi).2.2.1 p hp) (fun p q q2 => (hW.z hi q2 (Or.inl q)).trans (h.2.2.2.1 i hi p q q2).2.symm)
theorem SI.vk {N : Nat} {σ S : XM} {u w v i : Nat} (h : SI N S u w) (hN : N < 2 ^ 31) (hR : RR σ S u w) (hv : v < w) (hi : i < 5) : vle 5 (σ (oNum (oKno (oMem i)))) (xve σ (oEnt (oVw v)) (gix (fun a c => vle 5 (xve σ (oEnt (oVw v)) a) (xve σ (oEnt (oVw v)) c)) 4)) ↔ vle u (rK S i) (rV S v (bst S u v)) := by
  have hW := h.w5 hN hR hv
  have hb := bst_lt (S := S) (v := v) hW.1
  have hu := hW.2.1
  exact vle_5u hW.2.1 (fun p hp => (hR.2.2.1 i hi).2.1 p hp) hW.g (fun p q q2 => (h.2.2.2.1 i hi p q q2).1.trans (hW.z (i := bst S u v) (by omega) q2 (Or.inl q)).symm)
theorem SI.rk {N : Nat} {σ S : XM} {u w v i : Nat} (h : SI N S u w) (hN : N < 2 ^ 31) (hR : RR σ S u w) (hv : v < w) (hi : i < 5) : rel 5 (σ (oNum (oKno (oMem i)))) (xve σ (oEnt (oVw v)) (gix (fun a c => vle 5 (xve σ (oEnt (oVw v)) a) (xve σ (oEnt (oVw v)) c)) 4)) = rel u (rK S i) (rV S v (bst S u v)) := by
  have hW := h.w5 hN hR hv
  have hb := bst_lt (S := S) (v := v) hW.1
  have hu := hW.2.1
  exact rel_5u hW.2.1 (fun p hp => (hR.2.2.1 i hi).2.1 p hp) hW.g (fun p q q2 => (h.2.2.2.1 i hi p q q2).1.trans (hW.z (i := bst S u v) (by omega) q2 (Or.inl q)).symm)
set_option maxRecDepth 100000 in
set_option maxHeartbeats 4000000 in
theorem c_X7_isUser (l : Launch) (D : XD) (b n : Nat) {σ : XM} {u : Nat} {x : Int32} (hu : σ 0 3 = nI u) (hu5 : u ≤ 6) : xM l yX7_isUser cX7_isUser 2 (some .boolean) 0 0 0 0 D b n [.ref (b + 0), .int x] (xH D b σ) n (fun y' h' => y' = some (.int (bI (isU u x))) ∧ h' = xH D b σ) := by
  refine xM.of (lv := [some (.ref (b + 0)), some (.int x)]) (by decide +kernel) rfl (List.forall_mem_cons.mpr ⟨rfl, List.forall_mem_cons.mpr ⟨rfl, fun _ h => absurd h List.not_mem_nil⟩⟩) (Nat.le_of_ble_eq_true rfl) rfl ?_
  intro p e s m args below meth c hC hr hnm
  refine xi_iload_n hC dX7_isUser_0 (pc' := 1) rfl rfl rfl ?_
  refine xi_iflt (tgt := 16) hC dX7_isUser_1 (pc' := 4) rfl (by decide) (fun zc1 => ?_) (fun zc1 => ?_)
  · skip
    refine xi_iconst (v := nI 0) hC dX7_isUser_16 (pc' := 17) rfl (by decide +kernel) ?_
    refine xb_ireturn hC dX7_isUser_17 hr (by decide) rfl ?_
    exact ⟨by rw [bI_f (fun z => by have := (isU_2 (by omega)).mpr z; first | exact i_not_lt.mpr this.1 zc1 | exact i_not_le.mpr this.2 zc9)], rfl⟩
  · skip
    refine xi_iload_n hC dX7_isUser_4 (pc' := 5) rfl rfl rfl ?_
    refine xi_aload_n hC dX7_isUser_5 (pc' := 6) rfl rfl rfl ?_
    refine xg7_users hC dX7_isUser_6 (pc' := 9) rfl xw_f_X7_28 kd_0 ?_
    refine xtop (y := (nI u)) (hu) ?_
    refine xi_icmpge (tgt := 16) hC dX7_isUser_9 (pc' := 12) rfl (by decide) (fun zc9 => ?_) (fun zc9 => ?_)
    · skip
      refine xi_iconst (v := nI 0) hC dX7_isUser_16 (pc' := 17) rfl (by decide +kernel) ?_
      refine xb_ireturn hC dX7_isUser_17 hr (by decide) rfl ?_
      exact ⟨by rw [bI_f (fun z => by have := (isU_2 (by omega)).mpr z; first | exact i_not_lt.mpr this.1 zc1 | exact i_not_le.mpr this.2 zc9)], rfl⟩
    · skip
      refine xi_iconst (v := nI 1) hC dX7_isUser_12 (pc' := 13) rfl (by decide +kernel) ?_
      refine xi_goto (tgt := 17) hC dX7_isUser_13 (by decide) ?_
      refine xb_ireturn hC dX7_isUser_17 hr (by decide) rfl ?_
      exact ⟨by rw [bI_t ((isU_2 (by omega)).mp ⟨i_not_lt.mp zc1, i_not_le.mp zc9⟩)], rfl⟩
set_option maxRecDepth 100000 in
set_option maxHeartbeats 4000000 in
theorem c_X7_isView (l : Launch) (D : XD) (b n : Nat) {σ : XM} {u : Nat} {x : Int32} (hu : σ 0 4 = nI u) (hu5 : u ≤ 6) : xM l yX7_isView cX7_isView 2 (some .boolean) 0 0 0 0 D b n [.ref (b + 0), .int x] (xH D b σ) n (fun y' h' => y' = some (.int (bI (isU u x))) ∧ h' = xH D b σ) := by
  refine xM.of (lv := [some (.ref (b + 0)), some (.int x)]) (by decide +kernel) rfl (List.forall_mem_cons.mpr ⟨rfl, List.forall_mem_cons.mpr ⟨rfl, fun _ h => absurd h List.not_mem_nil⟩⟩) (Nat.le_of_ble_eq_true rfl) rfl ?_
  intro p e s m args below meth c hC hr hnm
  refine xi_iload_n hC dX7_isView_0 (pc' := 1) rfl rfl rfl ?_
  refine xi_iflt (tgt := 16) hC dX7_isView_1 (pc' := 4) rfl (by decide) (fun zc1 => ?_) (fun zc1 => ?_)
  · skip
    refine xi_iconst (v := nI 0) hC dX7_isView_16 (pc' := 17) rfl (by decide +kernel) ?_
    refine xb_ireturn hC dX7_isView_17 hr (by decide) rfl ?_
    exact ⟨by rw [bI_f (fun z => by have := (isU_2 (by omega)).mpr z; first | exact i_not_lt.mpr this.1 zc1 | exact i_not_le.mpr this.2 zc9)], rfl⟩
  · skip
    refine xi_iload_n hC dX7_isView_4 (pc' := 5) rfl rfl rfl ?_
    refine xi_aload_n hC dX7_isView_5 (pc' := 6) rfl rfl rfl ?_
    refine xg7_viewCount hC dX7_isView_6 (pc' := 9) rfl xw_f_X7_32 kd_0 ?_
    refine xtop (y := (nI u)) (hu) ?_
    refine xi_icmpge (tgt := 16) hC dX7_isView_9 (pc' := 12) rfl (by decide) (fun zc9 => ?_) (fun zc9 => ?_)
    · skip
      refine xi_iconst (v := nI 0) hC dX7_isView_16 (pc' := 17) rfl (by decide +kernel) ?_
      refine xb_ireturn hC dX7_isView_17 hr (by decide) rfl ?_
      exact ⟨by rw [bI_f (fun z => by have := (isU_2 (by omega)).mpr z; first | exact i_not_lt.mpr this.1 zc1 | exact i_not_le.mpr this.2 zc9)], rfl⟩
    · skip
      refine xi_iconst (v := nI 1) hC dX7_isView_12 (pc' := 13) rfl (by decide +kernel) ?_
      refine xi_goto (tgt := 17) hC dX7_isView_13 (by decide) ?_
      refine xb_ireturn hC dX7_isView_17 hr (by decide) rfl ?_
      exact ⟨by rw [bI_t ((isU_2 (by omega)).mp ⟨i_not_lt.mp zc1, i_not_le.mp zc9⟩)], rfl⟩
set_option maxRecDepth 100000 in
set_option maxHeartbeats 4000000 in
theorem c_X7_contains (l : Launch) (D : XD) (b n : Nat) {σ : XM} {y : Int32} {i : Nat} : xM l yX7_contains cX7_contains 2 (some .boolean) 0 0 0 0 D b n [.int y, .int (nI i)] (xH D b σ) n (fun y' h' => y' = some (.int (bI (hasB y i))) ∧ h' = xH D b σ) := by
  refine xM.of (lv := [some (.int y), some (.int (nI i))]) (by decide +kernel) rfl (List.forall_mem_cons.mpr ⟨rfl, List.forall_mem_cons.mpr ⟨rfl, fun _ h => absurd h List.not_mem_nil⟩⟩) (Nat.le_of_ble_eq_true rfl) rfl ?_
  intro p e s m args below meth c hC hr hnm
  refine xi_iload_n hC dX7_contains_0 (pc' := 1) rfl rfl rfl ?_
  refine xi_iload_n hC dX7_contains_1 (pc' := 2) rfl rfl rfl ?_
  refine xi_ishr hC dX7_contains_2 (pc' := 3) rfl ?_
  refine xi_iconst (v := nI 1) hC dX7_contains_3 (pc' := 4) rfl (by decide +kernel) ?_
  refine xi_iand hC dX7_contains_4 (pc' := 5) rfl ?_
  refine xi_iconst (v := nI 1) hC dX7_contains_5 (pc' := 6) rfl (by decide +kernel) ?_
  refine xi_icmpne (tgt := 13) hC dX7_contains_6 (pc' := 9) rfl (by decide) (fun zc6 => ?_) (fun zc6 => ?_)
  · skip
    refine xi_iconst (v := nI 0) hC dX7_contains_13 (pc' := 14) rfl (by decide +kernel) ?_
    refine xb_ireturn hC dX7_contains_14 hr (by decide) rfl ?_
    exact ⟨by rw [bI_f (show ¬ hasB y i from zc6)], rfl⟩
  · skip
    refine xi_iconst (v := nI 1) hC dX7_contains_9 (pc' := 10) rfl (by decide +kernel) ?_
    refine xi_goto (tgt := 14) hC dX7_contains_10 (by decide) ?_
    refine xb_ireturn hC dX7_contains_14 hr (by decide) rfl ?_
    exact ⟨by rw [bI_t (show hasB y i from zc6)], rfl⟩
set_option maxRecDepth 100000 in
set_option maxHeartbeats 4000000 in
theorem c_X7_oneIf (l : Launch) (D : XD) (b n : Nat) {σ : XM} {x : Int32} : xM l yX7_oneIf cX7_oneIf 1 (some .int) 0 0 0 0 D b n [.int x] (xH D b σ) n (fun y' h' => y' = some (.int (bI (x ≠ 0))) ∧ h' = xH D b σ) := by
  refine xM.of (lv := [some (.int x)]) (by decide +kernel) rfl (List.forall_mem_cons.mpr ⟨rfl, fun _ h => absurd h List.not_mem_nil⟩) (Nat.le_of_ble_eq_true rfl) rfl ?_
  intro p e s m args below meth c hC hr hnm
  refine xi_iload_n hC dX7_oneIf_0 (pc' := 1) rfl rfl rfl ?_
  refine xi_ifeq (tgt := 8) hC dX7_oneIf_1 (pc' := 4) rfl (by decide) (fun zc1 => ?_) (fun zc1 => ?_)
  · skip
    refine xi_iconst (v := nI 0) hC dX7_oneIf_8 (pc' := 9) rfl (by decide +kernel) ?_
    refine xi_ireturn hC dX7_oneIf_9 hr rfl ?_
    exact ⟨by rw [bI_f (fun q => q zc1)], rfl⟩
  · skip
    refine xi_iconst (v := nI 1) hC dX7_oneIf_4 (pc' := 5) rfl (by decide +kernel) ?_
    refine xi_goto (tgt := 9) hC dX7_oneIf_5 (by decide) ?_
    refine xi_ireturn hC dX7_oneIf_9 hr rfl ?_
    exact ⟨by rw [bI_t (show x ≠ 0 from zc1)], rfl⟩
set_option maxRecDepth 100000 in
set_option maxHeartbeats 4000000 in
theorem c_X7_entriesShownTo (l : Launch) (D : XD) (b n : Nat) {σ : XM} {i v : Nat} (hi : i < 5) (hv : v < 6) (hV : σ (oMem i) 4 = nI v) : xM l yX7_entriesShownTo cX7_entriesShownTo 2 (some (.object "ForkedStore$Entries")) 0 0 0 0 D b n [.ref (b + 0), .int (nI i)] (xH D b σ) n (fun y' h' => y' = some (.ref (b + oEnt (oVw v))) ∧ h' = xH D b σ) := by
  refine xM.of (lv := [some (.ref (b + 0)), some (.int (nI i))]) (by decide +kernel) rfl (List.forall_mem_cons.mpr ⟨rfl, List.forall_mem_cons.mpr ⟨rfl, fun _ h => absurd h List.not_mem_nil⟩⟩) (Nat.le_of_ble_eq_true rfl) rfl ?_
  intro p e s m args below meth c hC hr hnm
  refine xi_aload_n hC dX7_entriesShownTo_0 (pc' := 1) rfl rfl rfl ?_
  refine xg7_views hC dX7_entriesShownTo_1 (pc' := 4) rfl xw_f_X7_17 kd_0 ?_
  refine xi_aload_n hC dX7_entriesShownTo_4 (pc' := 5) rfl rfl rfl ?_
  refine xg7_members hC dX7_entriesShownTo_5 (pc' := 8) rfl xw_f_X7_11 kd_0 ?_
  refine xi_iload_n hC dX7_entriesShownTo_8 (pc' := 9) rfl rfl rfl ?_
  refine xa_members hC dX7_entriesShownTo_9 (pc' := 10) rfl kd_oMs rfl (by omega) ?_
  refine xg2_view hC dX7_entriesShownTo_10 (pc' := 13) rfl xw_f_X7_90 (kd_oMem (by omega)) ?_
  refine xtop (y := (nI v)) (hV) ?_
  refine xa_views hC dX7_entriesShownTo_13 (pc' := 14) rfl kd_oVws rfl (by omega) ?_
  refine xg6_entries hC dX7_entriesShownTo_14 (pc' := 17) rfl xw_f_X7_102 (kd_oVw (by omega)) ?_
  refine xi_areturn hC dX7_entriesShownTo_17 hr rfl ?_
  exact ⟨rfl, rfl⟩
set_option maxRecDepth 100000 in
set_option maxHeartbeats 4000000 in
theorem c_X7_usersAttachedTo (l : Launch) (D : XD) (b n : Nat) {σ S : XM} {u : Nat} {x : Int32} (hu : σ 0 3 = nI u) (hu5 : u ≤ 5) (hA : ∀ i, i < 5 → σ (oMem i) 4 = S m_viewOf i) : xM l yX7_usersAttachedTo cX7_usersAttachedTo 4 (some .int) 0 0 0 0 D b n [.ref (b + 0), .int x] (xH D b σ) n (fun y' h' => y' = some (.int (attM S x u)) ∧ h' = xH D b σ) := by
  refine xM.of (lv := [some (.ref (b + 0)), some (.int x), none, none]) (by decide +kernel) rfl (List.forall_mem_cons.mpr ⟨rfl, List.forall_mem_cons.mpr ⟨rfl, fun _ h => absurd h List.not_mem_nil⟩⟩) (Nat.le_of_ble_eq_true rfl) rfl ?_
  intro p e s m args below meth c hC hr hnm
  refine xi_iconst (v := nI 0) hC dX7_usersAttachedTo_0 (pc' := 1) rfl (by decide +kernel) ?_
  refine xi_istore_n (lv' := [some (.ref (b + 0)), some (.int x), some (.int (nI 0)), none]) hC dX7_usersAttachedTo_1 (pc' := 2) rfl rfl (by decide) rfl ?_
  refine xi_iconst (v := nI 0) hC dX7_usersAttachedTo_2 (pc' := 3) rfl (by decide +kernel) ?_
  refine xi_istore_n (lv' := [some (.ref (b + 0)), some (.int x), some (.int (nI 0)), some (.int (nI 0))]) hC dX7_usersAttachedTo_3 (pc' := 4) rfl rfl (by decide) rfl ?_
  have L4 : ∀ (d : Nat) (j : Nat) (a : Int32), u - j < d → (j ≤ u) → (a = bitM (fun i => S m_viewOf i = x) j) → xV p l e (xR 0 0 0 0) s m args below meth c D b 4 0 0 (MQ below (xQ D b n (fun y' h' => y' = some (.int (attM S x u)) ∧ h' = xH D b σ)) args s 0 0 (fun q => b ≤ q)) n (xH D b σ) 4 [some (.ref (b + 0)), some (.int x), some (.int a), some (.int (nI j))] [] := by
    intro d
    induction d with
    | zero => intro j a h; exact absurd h (Nat.not_lt_zero _)
    | succ d ih4 =>
      intro j a hd4 hj ea
      refine xi_iload_n hC dX7_usersAttachedTo_4 (pc' := 5) rfl rfl rfl ?_
      refine xi_aload_n hC dX7_usersAttachedTo_5 (pc' := 6) rfl rfl rfl ?_
      refine xg7_users hC dX7_usersAttachedTo_6 (pc' := 9) rfl xw_f_X7_28 kd_0 ?_
      refine xtop (y := (nI u)) (hu) ?_
      refine xn_icmpge (tgt := 37) hC dX7_usersAttachedTo_9 (pc' := 12) rfl (by decide) (by omega) (by omega) (fun zc9 => ?_) (fun zc9 => ?_)
      · skip
        refine xi_iload_n hC dX7_usersAttachedTo_37 (pc' := 38) rfl rfl rfl ?_
        refine xi_ireturn hC dX7_usersAttachedTo_38 hr rfl ?_
        rw [ea, show j = u by omega]
        exact ⟨rfl, rfl⟩
      · skip
        refine xi_aload_n hC dX7_usersAttachedTo_12 (pc' := 13) rfl rfl rfl ?_
        refine xg7_members hC dX7_usersAttachedTo_13 (pc' := 16) rfl xw_f_X7_11 kd_0 ?_
        refine xi_iload_n hC dX7_usersAttachedTo_16 (pc' := 17) rfl rfl rfl ?_
        refine xa_members hC dX7_usersAttachedTo_17 (pc' := 18) rfl kd_oMs rfl (by omega) ?_
        refine xg2_view hC dX7_usersAttachedTo_18 (pc' := 21) rfl xw_f_X7_90 (kd_oMem (by omega)) ?_
        refine xi_iload_n hC dX7_usersAttachedTo_21 (pc' := 22) rfl rfl rfl ?_
        refine xi_icmpne (tgt := 31) hC dX7_usersAttachedTo_22 (pc' := 25) rfl (by decide) (fun zc22 => ?_) (fun zc22 => ?_)
        · skip
          refine xn_iinc (lv' := [some (.ref (b + 0)), some (.int x), some (.int a), some (.int (nI (j + 1)))]) hC dX7_usersAttachedTo_31 (pc' := 34) rfl rfl (by decide) rfl ?_
          refine xi_goto (tgt := 4) hC dX7_usersAttachedTo_34 (by decide) ?_
          refine ih4 _ _ (by omega) ?_ ?_
          · omega
          · rw [hA j (by omega)] at zc22
            first
              | (rw [bitM_t (Q := fun i => S m_viewOf i = x) zc22, ea])
              | (rw [bitM_f (Q := fun i => S m_viewOf i = x) zc22, ea])
        · skip
          refine xi_iload_n hC dX7_usersAttachedTo_25 (pc' := 26) rfl rfl rfl ?_
          refine xi_iconst (v := nI 1) hC dX7_usersAttachedTo_26 (pc' := 27) rfl (by decide +kernel) ?_
          refine xi_iload_n hC dX7_usersAttachedTo_27 (pc' := 28) rfl rfl rfl ?_
          refine xi_ishl hC dX7_usersAttachedTo_28 (pc' := 29) rfl ?_
          refine xi_ior hC dX7_usersAttachedTo_29 (pc' := 30) rfl ?_
          refine xi_istore_n (lv' := [some (.ref (b + 0)), some (.int x), some (.int (a ||| ((nI 1) <<< ((nI j) &&& 31)))), some (.int (nI j))]) hC dX7_usersAttachedTo_30 (pc' := 31) rfl rfl (by decide) rfl ?_
          refine xn_iinc (lv' := [some (.ref (b + 0)), some (.int x), some (.int (a ||| ((nI 1) <<< ((nI j) &&& 31)))), some (.int (nI (j + 1)))]) hC dX7_usersAttachedTo_31 (pc' := 34) rfl rfl (by decide) rfl ?_
          refine xi_goto (tgt := 4) hC dX7_usersAttachedTo_34 (by decide) ?_
          refine ih4 _ _ (by omega) ?_ ?_
          · omega
          · rw [hA j (by omega)] at zc22
            first
              | (rw [bitM_t (Q := fun i => S m_viewOf i = x) zc22, ea])
              | (rw [bitM_f (Q := fun i => S m_viewOf i = x) zc22, ea])
  refine L4 _ _ _ (Nat.lt_succ_self _) ?_ ?_
  · omega
  · rfl
set_option maxRecDepth 100000 in
set_option maxHeartbeats 4000000 in
theorem c_X7_alarmAhead (l : Launch) (D : XD) (b n : Nat) {σ S : XM} {N u w : Nat} (hS : SI N S u w) (hR : RR σ S u w) (hN : N + 1 < 2 ^ 31) {i v : Nat} (hi : i < u) (hv : v < w) (hV : S m_viewOf i = nI v) : xM l yX7_alarmAhead cX7_alarmAhead 4 (some .int) 2 46 0 0 D b n [.ref (b + 0), .int (nI i)] (xH D b σ) n (fun y' h' => y' = some (.int (nI (al S u v i))) ∧ h' = xH D b σ) := by
  refine xM.of (lv := [some (.ref (b + 0)), some (.int (nI i)), none, none]) (by decide +kernel) rfl (List.forall_mem_cons.mpr ⟨rfl, List.forall_mem_cons.mpr ⟨rfl, fun _ h => absurd h List.not_mem_nil⟩⟩) (Nat.le_of_ble_eq_true rfl) rfl ?_
  intro p e s m args below meth c hC hr hnm
  obtain ⟨hU, hn, hVw, hKp, hLt, hTx, hAl⟩ := id hS.1
  obtain ⟨hu, hu2, hu5⟩ := id hU
  obtain ⟨hn1, hw1, hw6⟩ := id hn
  obtain ⟨r3, r4, hMm, hVv, hTt⟩ := id hR
  have k1 := hS.vg (by omega) hR hv (show i < 5 by omega)
  have k2 := (hS.w5 (by omega) hR hv).f
  have k3 := hS.vk (by omega) hR hv (show i < 5 by omega)
  refine xi_aload_n hC dX7_alarmAhead_0 (pc' := 1) rfl rfl rfl ?_
  refine xg7_members hC dX7_alarmAhead_1 (pc' := 4) rfl xw_f_X7_11 kd_0 ?_
  refine xi_iload_n hC dX7_alarmAhead_4 (pc' := 5) rfl rfl rfl ?_
  refine xa_members hC dX7_alarmAhead_5 (pc' := 6) rfl kd_oMs rfl (by omega) ?_
  refine xi_astore_n (lv' := [some (.ref (b + 0)), some (.int (nI i)), some (.ref (b + (oMem i))), none]) hC dX7_alarmAhead_6 (pc' := 7) rfl rfl (by decide) rfl ?_
  refine xi_aload_n hC dX7_alarmAhead_7 (pc' := 8) rfl rfl rfl ?_
  refine xi_iload_n hC dX7_alarmAhead_8 (pc' := 9) rfl rfl rfl ?_
  refine xi_callV (As := [.int (nI i)]) (rest := []) (c_X7_entriesShownTo l D b n (σ := σ) (i := i) (v := v) (by omega) (by omega) (((hMm i (by omega)).1.1).trans hV)) hC dX7_alarmAhead_9 (pc' := 12) rfl xw_m_X7_52 xw_c_X7_entriesShownTo xw_ins_X7_entriesShownTo xw_sel_X7_entriesShownTo xw_ini_X7 xd_X7_entriesShownTo (xH_at.trans (xsh_7 kd_0)) rfl ⟨Nat.le_of_ble_eq_true rfl, Nat.le_of_ble_eq_true rfl⟩ rfl (Nat.le_of_ble_eq_true rfl) ⟨Nat.le_of_ble_eq_true rfl, Nat.le_of_ble_eq_true rfl⟩ ?_
  rintro _ _ ⟨rfl, rfl⟩
  show xV _ _ _ _ _ _ _ _ _ _ _ _ _ _ _ _ _ (xH D b σ) _ _ [.ref (b + (oEnt (oVw v)))]
  refine xi_astore_n (lv' := [some (.ref (b + 0)), some (.int (nI i)), some (.ref (b + (oMem i))), some (.ref (b + (oEnt (oVw v))))]) hC dX7_alarmAhead_12 (pc' := 13) rfl rfl (by decide) rfl ?_
  refine xi_aload_n hC dX7_alarmAhead_13 (pc' := 14) rfl rfl rfl ?_
  refine xg1_vectors hC dX7_alarmAhead_14 (pc' := 17) rfl xw_f_X7_197 (kd_oEnt (kd_oVw (by omega))) ?_
  refine xi_iload_n hC dX7_alarmAhead_17 (pc' := 18) rfl rfl rfl ?_
  refine xa_vectors hC dX7_alarmAhead_18 (pc' := 19) rfl (kd_oVs (kd_oEnt (kd_oVw (by omega)))) rfl (by omega) ?_
  refine xi_aload_n hC dX7_alarmAhead_19 (pc' := 20) rfl rfl rfl ?_
  refine xg2_signed hC dX7_alarmAhead_20 (pc' := 23) rfl xw_f_X7_189 (kd_oMem (by omega)) ?_
  refine xi_callV (As := [.ref (b + (oSig (oMem i)))]) (rest := []) (c_X5_relationTo l D b n (σ := σ) (kd_oVec (kd_oVs (kd_oEnt (kd_oVw (by omega)))) (by omega)) (kd_oSig (kd_oMem (by omega)))) hC dX7_alarmAhead_23 (pc' := 26) rfl xw_m_X7_211 xw_c_X5_relationTo xw_ins_X5_relationTo xw_sel_X5_relationTo xw_ini_X5 xd_X5_relationTo (xH_at.trans (xsh_5 (kd_oVec (kd_oVs (kd_oEnt (kd_oVw (by omega)))) (by omega)))) rfl ⟨Nat.le_of_ble_eq_true rfl, Nat.le_of_ble_eq_true rfl⟩ rfl (Nat.le_of_ble_eq_true rfl) ⟨Nat.le_of_ble_eq_true rfl, Nat.le_of_ble_eq_true rfl⟩ ?_
  rintro _ _ ⟨rfl, rfl⟩
  show xV _ _ _ _ _ _ _ _ _ _ _ _ _ _ _ _ _ (xH D b σ) _ _ [.int (rel 5 (σ (oNum (oVec (oVs (oEnt (oVw v))) i))) (σ (oNum (oSig (oMem i)))))]
  refine xi_ifeq (tgt := 31) hC dX7_alarmAhead_26 (pc' := 29) rfl (by decide) (fun zc26 => ?_) (fun zc26 => ?_)
  · skip
    refine xi_aload_n hC dX7_alarmAhead_31 (pc' := 32) rfl rfl rfl ?_
    refine xi_callV (As := []) (rest := []) (c_X1_areForked l D b n (σ := σ) (kd_oEnt (kd_oVw (by omega)))) hC dX7_alarmAhead_32 (pc' := 35) rfl xw_m_X7_200 xw_c_X1_areForked xw_ins_X1_areForked xw_sel_X1_areForked xw_ini_X1 xd_X1_areForked (xH_at.trans (xsh_1 (kd_oEnt (kd_oVw (by omega))))) rfl ⟨Nat.le_of_ble_eq_true rfl, Nat.le_of_ble_eq_true rfl⟩ rfl (Nat.le_of_ble_eq_true rfl) ⟨Nat.le_of_ble_eq_true rfl, Nat.le_of_ble_eq_true rfl⟩ ?_
    rintro _ _ ⟨rfl, rfl⟩
    show xV _ _ _ _ _ _ _ _ _ _ _ _ _ _ _ _ _ (xH D b σ) _ _ [.int (bI (fkd 5 5 (xve σ (oEnt (oVw v)))))]
    refine xb_ifeq (tgt := 40) hC dX7_alarmAhead_35 (pc' := 38) rfl (by decide) (fun zc35 => ?_) (fun zc35 => ?_)
    · skip
      refine xi_aload_n hC dX7_alarmAhead_40 (pc' := 41) rfl rfl rfl ?_
      refine xg2_known hC dX7_alarmAhead_41 (pc' := 44) rfl xw_f_X7_119 (kd_oMem (by omega)) ?_
      refine xi_aload_n hC dX7_alarmAhead_44 (pc' := 45) rfl rfl rfl ?_
      refine xi_callV (As := []) (rest := [.ref (b + (oKno (oMem i)))]) (c_X1_greatest l D b n (σ := σ) (kd_oEnt (kd_oVw (by omega)))) hC dX7_alarmAhead_45 (pc' := 48) rfl xw_m_X7_204 xw_c_X1_greatest xw_ins_X1_greatest xw_sel_X1_greatest xw_ini_X1 xd_X1_greatest (xH_at.trans (xsh_1 (kd_oEnt (kd_oVw (by omega))))) rfl ⟨Nat.le_of_ble_eq_true rfl, Nat.le_of_ble_eq_true rfl⟩ rfl (Nat.le_of_ble_eq_true rfl) ⟨Nat.le_of_ble_eq_true rfl, Nat.le_of_ble_eq_true rfl⟩ ?_
      rintro _ _ ⟨gi_1, hgi_2, egi_3, rfl, rfl⟩
      show xV _ _ _ _ _ _ _ _ _ _ _ _ _ _ _ _ _ (xH D b σ) _ _ [.ref (b + (oVec (oVs (oEnt (oVw v))) gi_1)), .ref (b + (oKno (oMem i)))]
      refine xi_callV (As := [.ref (b + (oVec (oVs (oEnt (oVw v))) gi_1))]) (rest := []) (c_X5_isAtMost l D b n (σ := σ) (kd_oKno (kd_oMem (by omega))) (kd_oVec (kd_oVs (kd_oEnt (kd_oVw (by omega)))) hgi_2)) hC dX7_alarmAhead_48 (pc' := 51) rfl xw_m_X7_240 xw_c_X5_isAtMost xw_ins_X5_isAtMost xw_sel_X5_isAtMost xw_ini_X5 xd_X5_isAtMost (xH_at.trans (xsh_5 (kd_oKno (kd_oMem (by omega))))) rfl ⟨Nat.le_of_ble_eq_true rfl, Nat.le_of_ble_eq_true rfl⟩ rfl (Nat.le_of_ble_eq_true rfl) ⟨Nat.le_of_ble_eq_true rfl, Nat.le_of_ble_eq_true rfl⟩ ?_
      rintro _ _ ⟨rfl, rfl⟩
      show xV _ _ _ _ _ _ _ _ _ _ _ _ _ _ _ _ _ (xH D b σ) _ _ [.int (bI (vle 5 (σ (oNum (oKno (oMem i)))) (σ (oNum (oVec (oVs (oEnt (oVw v))) gi_1)))))]
      refine xb_ifne (tgt := 56) hC dX7_alarmAhead_51 (pc' := 54) rfl (by decide) (fun zc51 => ?_) (fun zc51 => ?_)
      · skip
        refine xi_iconst (v := nI 0) hC dX7_alarmAhead_56 (pc' := 57) rfl (by decide +kernel) ?_
        refine xi_ireturn hC dX7_alarmAhead_57 hr rfl ?_
        subst egi_3
        exact ⟨by rw [al_0 (rel_0.mp (k1.symm.trans zc26)) (fun q => zc35 (k2.mpr q)) (k3.mp zc51)], rfl⟩
      · skip
        refine xi_iconst (v := nI 3) hC dX7_alarmAhead_54 (pc' := 55) rfl (by decide +kernel) ?_
        refine xi_ireturn hC dX7_alarmAhead_55 hr rfl ?_
        subst egi_3
        exact ⟨by rw [al_3 (rel_0.mp (k1.symm.trans zc26)) (fun q => zc35 (k2.mpr q)) (fun q => zc51 (k3.mpr q))], rfl⟩
    · skip
      refine xi_iconst (v := nI 2) hC dX7_alarmAhead_38 (pc' := 39) rfl (by decide +kernel) ?_
      refine xi_ireturn hC dX7_alarmAhead_39 hr rfl ?_
      exact ⟨by rw [al_2 (rel_0.mp (k1.symm.trans zc26)) (k2.mp zc35)], rfl⟩
  · skip
    refine xi_iconst (v := nI 1) hC dX7_alarmAhead_29 (pc' := 30) rfl (by decide +kernel) ?_
    refine xi_ireturn hC dX7_alarmAhead_30 hr rfl ?_
    exact ⟨by rw [al_1 (fun z => zc26 (k1.trans (rel_0.mpr z)))], rfl⟩
