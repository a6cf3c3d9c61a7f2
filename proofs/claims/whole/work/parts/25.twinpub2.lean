
theorem bit_or : ∀ k, k < 5 → ∀ m, m < 2 ^ k → nI m ||| (nI 1 <<< (nI k &&& 31)) = nI (m + 2 ^ k) := by decide +kernel
theorem bitM_nat (Q : Nat → Prop) : ∀ k, k ≤ 5 → ∃ m, m < 2 ^ k ∧ bitM Q k = nI m
  | 0, _ => ⟨0, by decide, rfl⟩
  | k + 1, h => by
    obtain ⟨m, h1, h2⟩ := bitM_nat Q k (by omega)
    by_cases q : Q k
    · exact ⟨m + 2 ^ k, by rw [Nat.pow_succ]; omega, by rw [bitM_t q, h2, bit_or k (by omega) m h1]⟩
    · exact ⟨m, by rw [Nat.pow_succ]; omega, by rw [bitM_f q, h2]⟩
theorem and_sub {y M : Int32} (h : y &&& (M ^^^ (-1)) = 0) : y = y &&& M := by
  refine Int32.toBitVec_inj.mp (BitVec.eq_of_getLsbD_eq fun i hi => ?_)
  have h1 : (y &&& (M ^^^ (-1))).toBitVec.getLsbD i = false := by rw [h]; exact BitVec.getLsbD_zero
  rw [Int32.toBitVec_and, Int32.toBitVec_xor, BitVec.getLsbD_and, BitVec.getLsbD_xor, show (-1 : Int32).toBitVec.getLsbD i = true from (by decide +kernel : ∀ i, i < 32 → (-1 : Int32).toBitVec.getLsbD i = true) i hi] at h1
  rw [Int32.toBitVec_and, BitVec.getLsbD_and]
  revert h1
  generalize y.toBitVec.getLsbD i = g1
  generalize M.toBitVec.getLsbD i = g2
  revert g1 g2
  decide
theorem and_le {y : Int32} {m : Nat} (hm : m < 32) (h : y = y &&& nI m) : ∃ k, k ≤ m ∧ y = nI k := by
  refine ⟨y.toBitVec.toNat, ?_, Int32.toBitVec_inj.mp (by show _ = BitVec.ofNat 32 _; simp)⟩
  have h1 := congrArg (fun z : Int32 => z.toBitVec.toNat) h
  simp only [Int32.toBitVec_and, BitVec.toNat_and] at h1
  rw [h1]
  refine Nat.le_trans Nat.and_le_right ?_
  show (BitVec.ofNat 32 m).toNat ≤ m
  rw [BitVec.toNat_ofNat]
  exact Nat.mod_le _ _
theorem shl_1 : ∀ u, u < 6 → (nI 1 <<< (nI u &&& 31)) - nI 1 = nI (2 ^ u - 1) := by decide +kernel
theorem fork_rng {S : XM} {u v : Nat} {y : Int32} (hu : u ≤ 5) (h : ¬ (nI 1 ≤ y ∧ y ≤ ((nI 1 <<< (nI u &&& 31)) - (nI 1)))) : badS S u v y := by
  by_cases hy : y = 0
  · exact Or.inl hy
  refine Or.inr fun hz => h ?_
  obtain ⟨m, hm, hM⟩ := bitM_nat (fun i => S m_viewOf i = nI v) u hu
  have hp : 2 ^ u ≤ 2 ^ 5 := Nat.pow_le_pow_right (by decide) hu
  obtain ⟨k, hk, rfl⟩ := and_le (m := m) (by omega) (by have := and_sub hz; unfold attM at this; rw [hM] at this; exact this)
  have hk0 : k ≠ 0 := fun q => hy (by rw [q]; rfl)
  rw [shl_1 u (by omega)]
  exact ⟨nI_le (by omega) (by omega), nI_le (by omega) (by omega)⟩
/-- mixing, as far as the rows: the first j owners -/
def mixR (S : XM) (v o j : Nat) (f : Nat → Int32) : Prop :=
  (∀ i, i < j → (mixC S v o i → (∀ k, k < 5 → f (30 * v + 5 * i + k) = S m_row (30 * o + 5 * i + k)) ∧ f (30 * v + 25 + i) = S m_row (30 * o + 25 + i)) ∧ (¬ mixC S v o i → (∀ k, k < 5 → f (30 * v + 5 * i + k) = S m_row (30 * v + 5 * i + k)) ∧ f (30 * v + 25 + i) = S m_row (30 * v + 25 + i))) ∧
  (∀ i, j ≤ i → i < 5 → (∀ k, k < 5 → f (30 * v + 5 * i + k) = S m_row (30 * v + 5 * i + k)) ∧ f (30 * v + 25 + i) = S m_row (30 * v + 25 + i)) ∧ (∀ q, (q < 30 * v ∨ 30 * v + 30 ≤ q) → f q = S m_row q)
def mixV (S : XM) (v o j : Nat) (f : Nat → Int32) : Prop :=
  (∀ i, i < j → (S m_viewOf i = nI o → f i = nI v) ∧ (S m_viewOf i ≠ nI o → f i = S m_viewOf i)) ∧ (∀ i, j ≤ i → f i = S m_viewOf i)
theorem mixR_0 {S : XM} {v o : Nat} : mixR S v o 0 (S m_row) := ⟨fun i h => absurd h (Nat.not_lt_zero _), fun _ _ _ => ⟨fun _ _ => rfl, rfl⟩, fun _ _ => rfl⟩
theorem mixV_0 {S : XM} {v o : Nat} : mixV S v o 0 (S m_viewOf) := ⟨fun i h => absurd h (Nat.not_lt_zero _), fun _ _ => rfl⟩
theorem mixR_C {S : XM} {v o j : Nat} {f : Nat → Int32} (h : mixR S v o j f) (hne : v ≠ o) (hj : j < 5) : mixC S v o j ↔ f (30 * v + 5 * j + j) < f (30 * o + 5 * j + j) := by
  unfold mixC
  rw [(h.2.1 j (Nat.le_refl _) hj).1 j hj, h.2.2 (30 * o + 5 * j + j) (by omega)]
theorem mixR_f {S : XM} {v o j : Nat} {f : Nat → Int32} (h : mixR S v o j f) (hj : j < 5) (hc : ¬ mixC S v o j) : mixR S v o (j + 1) f := by
  refine ⟨fun i hi => ?_, fun i hi => h.2.1 i (by omega), h.2.2⟩
  rcases Nat.lt_or_ge i j with z | z
  · exact h.1 i z
  · obtain rfl : i = j := by omega
    exact ⟨fun q => absurd q hc, fun _ => h.2.1 i (Nat.le_refl _) hj⟩
theorem mixR_t {S : XM} {v o j : Nat} {f : Nat → Int32} (h : mixR S v o j f) (hne : v ≠ o) (hj : j < 5) (hc : mixC S v o j) : mixR S v o (j + 1) (upd (cpy 5 f (30 * v + 5 * j) (sl f (30 * o + 5 * j))) (30 * v + 25 + j) (cpy 5 f (30 * v + 5 * j) (sl f (30 * o + 5 * j)) (30 * o + 25 + j))) := by
  refine ⟨fun i hi => ?_, fun i hi h5 => ?_, fun q hq => ?_⟩
  · rcases Nat.lt_or_ge i j with z | z
    · have := h.1 i z
      have e1 : ∀ k, k < 5 → upd (cpy 5 f (30 * v + 5 * j) (sl f (30 * o + 5 * j))) (30 * v + 25 + j) (cpy 5 f (30 * v + 5 * j) (sl f (30 * o + 5 * j)) (30 * o + 25 + j)) (30 * v + 5 * i + k) = f (30 * v + 5 * i + k) := fun k hk => by rw [upd_n (by omega), cpy_out (by omega)]
      have e2 : upd (cpy 5 f (30 * v + 5 * j) (sl f (30 * o + 5 * j))) (30 * v + 25 + j) (cpy 5 f (30 * v + 5 * j) (sl f (30 * o + 5 * j)) (30 * o + 25 + j)) (30 * v + 25 + i) = f (30 * v + 25 + i) := by rw [upd_n (by omega), cpy_out (by omega)]
      exact ⟨fun q => ⟨fun k hk => (e1 k hk).trans ((this.1 q).1 k hk), e2.trans (this.1 q).2⟩, fun q => ⟨fun k hk => (e1 k hk).trans ((this.2 q).1 k hk), e2.trans (this.2 q).2⟩⟩
    · obtain rfl : i = j := by omega
      refine ⟨fun _ => ⟨fun k hk => ?_, ?_⟩, fun q => absurd hc q⟩
      · rw [upd_n (by omega), cpy_in hk]
        exact h.2.2 (30 * o + 5 * i + k) (by omega)
      · rw [upd_s, cpy_out (by omega)]
        exact h.2.2 _ (by omega)
  · have := h.2.1 i (by omega) h5
    exact ⟨fun k hk => by rw [upd_n (by omega), cpy_out (by omega)]; exact this.1 k hk, by rw [upd_n (by omega), cpy_out (by omega)]; exact this.2⟩
  · rw [upd_n (by omega), cpy_out (by omega)]
    exact h.2.2 q hq
theorem mixV_t {S : XM} {v o j : Nat} {f : Nat → Int32} (h : mixV S v o j f) (hc : f j = nI o) : mixV S v o (j + 1) (upd f j (nI v)) := by
  refine ⟨fun i hi => ?_, fun i hi => by rw [upd_n (by omega)]; exact h.2 i (by omega)⟩
  rcases Nat.lt_or_ge i j with z | z
  · rw [upd_n (by omega)]; exact h.1 i z
  · obtain rfl : i = j := by omega
    rw [h.2 i (Nat.le_refl _)] at hc
    exact ⟨fun _ => upd_s, fun q => absurd hc q⟩
theorem mixV_f {S : XM} {v o j : Nat} {f : Nat → Int32} (h : mixV S v o j f) (hc : ¬ f j = nI o) : mixV S v o (j + 1) (upd f j (f j)) := by
  rw [← upd_self (f := f) rfl]
  refine ⟨fun i hi => ?_, fun i hi => h.2 i (by omega)⟩
  rcases Nat.lt_or_ge i j with z | z
  · exact h.1 i z
  · obtain rfl : i = j := by omega
    rw [h.2 i (Nat.le_refl _)] at hc
    exact ⟨fun q => absurd q hc, fun _ => h.2 i (Nat.le_refl _)⟩
set_option maxRecDepth 100000 in
set_option maxHeartbeats 4000000 in
theorem c_X8_attached (l : Launch) (D : XD) (b n : Nat) {C S : XM} {u : Nat} (hU : MU S u) {x : Int32} : xM l yX8_attached cX8_attached 4 (some .int) 0 0 0 0 D b n [.ref (b + oMod), .int x] (xH D b (jn C S)) n (fun y' h' => y' = some (.int (attM S x u)) ∧ h' = xH D b (jn C S)) := by
  refine xM.of (lv := [some (.ref (b + oMod)), some (.int x), none, none]) (by decide +kernel) rfl (List.forall_mem_cons.mpr ⟨rfl, List.forall_mem_cons.mpr ⟨rfl, fun _ h => absurd h List.not_mem_nil⟩⟩) (Nat.le_of_ble_eq_true rfl) rfl ?_
  intro p e s m args below meth c hC hr hnm
  obtain ⟨hu, hu2, hu5⟩ := id hU
  refine xi_iconst (v := nI 0) hC dX8_attached_0 (pc' := 1) rfl (by decide +kernel) ?_
  refine xi_istore_n (lv' := [some (.ref (b + oMod)), some (.int x), some (.int (nI 0)), none]) hC dX8_attached_1 (pc' := 2) rfl rfl (by decide) rfl ?_
  refine xi_iconst (v := nI 0) hC dX8_attached_2 (pc' := 3) rfl (by decide +kernel) ?_
  refine xi_istore_n (lv' := [some (.ref (b + oMod)), some (.int x), some (.int (nI 0)), some (.int (nI 0))]) hC dX8_attached_3 (pc' := 4) rfl rfl (by decide) rfl ?_
  have L4 : ∀ (d : Nat) (j : Nat) (a : Int32), u - j < d → (j ≤ u) → (a = bitM (fun i => S m_viewOf i = x) j) → xV p l e (xR 0 0 0 0) s m args below meth c D b 4 0 0 (MQ below (xQ D b n (fun y' h' => y' = some (.int (attM S x u)) ∧ h' = xH D b (jn C S))) args s 0 0 (fun q => b ≤ q)) n (xH D b (jn C S)) 4 [some (.ref (b + oMod)), some (.int x), some (.int a), some (.int (nI j))] [] := by
    intro d
    induction d with
    | zero => intro j a h; exact absurd h (Nat.not_lt_zero _)
    | succ d ih4 =>
      intro j a hd4 hj ea
      refine xi_iload_n hC dX8_attached_4 (pc' := 5) rfl rfl rfl ?_
      refine xi_aload_n hC dX8_attached_5 (pc' := 6) rfl rfl rfl ?_
      refine xt_g_users hC dX8_attached_6 (pc' := 9) rfl xw_f_X8_73 ?_
      refine xtop (y := (nI u)) (hu) ?_
      refine xn_icmpge (tgt := 38) hC dX8_attached_9 (pc' := 12) rfl (by decide) (by omega) (by omega) (fun zc9 => ?_) (fun zc9 => ?_)
      · skip
        refine xi_iload_n hC dX8_attached_38 (pc' := 39) rfl rfl rfl ?_
        refine xi_ireturn hC dX8_attached_39 hr rfl ?_
        rw [ea, show j = u by omega]
        exact ⟨rfl, rfl⟩
      · skip
        refine xi_iload_n hC dX8_attached_12 (pc' := 13) rfl rfl rfl ?_
        refine xi_aload_n hC dX8_attached_13 (pc' := 14) rfl rfl rfl ?_
        refine xg8_viewOf hC dX8_attached_14 (pc' := 17) rfl xw_f_X8_19 kd_oMod ?_
        refine xi_iload_n hC dX8_attached_17 (pc' := 18) rfl rfl rfl ?_
        refine xt_l_i hC dX8_attached_18 (pc' := 19) rfl (N := 5) kd_m_viewOf (by decide) (by decide) rfl (by omega) ?_
        refine xi_iload_n hC dX8_attached_19 (pc' := 20) rfl rfl rfl ?_
        refine xi_icmpne (tgt := 29) hC dX8_attached_20 (pc' := 23) rfl (by decide) (fun zc20 => ?_) (fun zc20 => ?_)
        · skip
          refine xi_iconst (v := nI 0) hC dX8_attached_29 (pc' := 30) rfl (by decide +kernel) ?_
          refine xi_ior hC dX8_attached_30 (pc' := 31) rfl ?_
          refine xi_istore_n (lv' := [some (.ref (b + oMod)), some (.int x), some (.int (a ||| (nI 0))), some (.int (nI j))]) hC dX8_attached_31 (pc' := 32) rfl rfl (by decide) rfl ?_
          refine xn_iinc (lv' := [some (.ref (b + oMod)), some (.int x), some (.int (a ||| (nI 0))), some (.int (nI (j + 1)))]) hC dX8_attached_32 (pc' := 35) rfl rfl (by decide) rfl ?_
          refine xi_goto (tgt := 4) hC dX8_attached_35 (by decide) ?_
          refine ih4 _ _ (by omega) ?_ ?_
          · omega
          · first | (rw [bitM_t (Q := fun i => S m_viewOf i = x) zc20, ea]) | (rw [bitM_f (Q := fun i => S m_viewOf i = x) zc20, ea, or_0])
        · skip
          refine xi_iconst (v := nI 1) hC dX8_attached_23 (pc' := 24) rfl (by decide +kernel) ?_
          refine xi_iload_n hC dX8_attached_24 (pc' := 25) rfl rfl rfl ?_
          refine xi_ishl hC dX8_attached_25 (pc' := 26) rfl ?_
          refine xi_goto (tgt := 30) hC dX8_attached_26 (by decide) ?_
          refine xi_ior hC dX8_attached_30 (pc' := 31) rfl ?_
          refine xi_istore_n (lv' := [some (.ref (b + oMod)), some (.int x), some (.int (a ||| ((nI 1) <<< ((nI j) &&& 31)))), some (.int (nI j))]) hC dX8_attached_31 (pc' := 32) rfl rfl (by decide) rfl ?_
          refine xn_iinc (lv' := [some (.ref (b + oMod)), some (.int x), some (.int (a ||| ((nI 1) <<< ((nI j) &&& 31)))), some (.int (nI (j + 1)))]) hC dX8_attached_32 (pc' := 35) rfl rfl (by decide) rfl ?_
          refine xi_goto (tgt := 4) hC dX8_attached_35 (by decide) ?_
          refine ih4 _ _ (by omega) ?_ ?_
          · omega
          · first | (rw [bitM_t (Q := fun i => S m_viewOf i = x) zc20, ea]) | (rw [bitM_f (Q := fun i => S m_viewOf i = x) zc20, ea, or_0])
  refine L4 _ _ _ (Nat.lt_succ_self _) ?_ ?_
  · omega
  · rfl

set_option maxRecDepth 100000 in
set_option maxHeartbeats 4000000 in
theorem c_X8_fork (l : Launch) (D : XD) (b n : Nat) {C S : XM} {u w : Nat} (hW : MW S u w) {x y : Int32} : xM l yX8_fork cX8_fork 4 (some .int) 2 43 0 0 D b n [.ref (b + oMod), .int x, .int y] (xH D b (jn C S)) n (fun y' h' => ∃ (r : Int32) (T : XM), y' = some (.int r) ∧ s_fork S u w x y r T ∧ h' = xH D b (jn C T)) := by
  refine xM.of (lv := [some (.ref (b + oMod)), some (.int x), some (.int y), none]) (by decide +kernel) rfl (List.forall_mem_cons.mpr ⟨rfl, List.forall_mem_cons.mpr ⟨rfl, List.forall_mem_cons.mpr ⟨rfl, fun _ h => absurd h List.not_mem_nil⟩⟩⟩) (Nat.le_of_ble_eq_true rfl) rfl ?_
  intro p e s m args below meth c hC hr hnm
  obtain ⟨hU, hN, hVw, hKp, hLt, hTx, hAl⟩ := id hW
  obtain ⟨hu, hu2, hu5⟩ := id hU
  obtain ⟨hn, hw1, hw6⟩ := id hN
  refine xi_aload_n hC dX8_fork_0 (pc' := 1) rfl rfl rfl ?_
  refine xi_iload_n hC dX8_fork_1 (pc' := 2) rfl rfl rfl ?_
  refine xi_callV (As := [.int x]) (rest := []) (c_X8_noView l D b n (C := C) (S := S) (x := x) hN) hC dX8_fork_2 (pc' := 5) rfl xw_m_X8_133 xw_c_X8_noView xw_ins_X8_noView xw_sel_X8_noView xw_ini_X8 xd_X8_noView (xH_at.trans (xsh_8 kd_oMod)) rfl ⟨Nat.le_of_ble_eq_true rfl, Nat.le_of_ble_eq_true rfl⟩ rfl (Nat.le_of_ble_eq_true rfl) ⟨Nat.le_of_ble_eq_true rfl, Nat.le_of_ble_eq_true rfl⟩ ?_
  rintro _ _ ⟨rfl, rfl⟩
  show xV _ _ _ _ _ _ _ _ _ _ _ _ _ _ _ _ _ (xH D b (jn C S)) _ _ [.int (bI (¬ isU w x))]
  refine xb_ifeq (tgt := 12) hC dX8_fork_5 (pc' := 8) rfl (by decide) (fun zc5 => ?_) (fun zc5 => ?_)
  · skip
    obtain ⟨v, hv, rfl⟩ := Classical.not_not.mp zc5
    refine xi_iload_n hC dX8_fork_12 (pc' := 13) rfl rfl rfl ?_
    refine xi_iconst (v := nI 1) hC dX8_fork_13 (pc' := 14) rfl (by decide +kernel) ?_
    refine xi_iconst (v := nI 1) hC dX8_fork_14 (pc' := 15) rfl (by decide +kernel) ?_
    refine xi_aload_n hC dX8_fork_15 (pc' := 16) rfl rfl rfl ?_
    refine xt_g_users hC dX8_fork_16 (pc' := 19) rfl xw_f_X8_73 ?_
    refine xtop (y := (nI u)) (hu) ?_
    refine xi_ishl hC dX8_fork_19 (pc' := 20) rfl ?_
    refine xi_iconst (v := nI 1) hC dX8_fork_20 (pc' := 21) rfl (by decide +kernel) ?_
    refine xi_isub hC dX8_fork_21 (pc' := 22) rfl ?_
    refine xi_callS (As := [.int y, .int (nI 1), .int (((nI 1) <<< ((nI u) &&& 31)) - (nI 1))]) (rest := []) (c_X8_in l D b n (C := C) (S := S) (x := y) (lo := (nI 1)) (hi := (((nI 1) <<< ((nI u) &&& 31)) - (nI 1)))) hC dX8_fork_22 (pc' := 25) rfl xw_m_X8_83 xw_c_X8_in xw_sta_X8_in xw_ini_X8 xd_X8_in ⟨Nat.le_of_ble_eq_true rfl, Nat.le_of_ble_eq_true rfl⟩ rfl (Nat.le_of_ble_eq_true rfl) ⟨Nat.le_of_ble_eq_true rfl, Nat.le_of_ble_eq_true rfl⟩ ?_
    rintro _ _ ⟨rfl, rfl⟩
    show xV _ _ _ _ _ _ _ _ _ _ _ _ _ _ _ _ _ (xH D b (jn C S)) _ _ [.int (bI ((nI 1) ≤ y ∧ y ≤ (((nI 1) <<< ((nI u) &&& 31)) - (nI 1))))]
    refine xb_ifeq (tgt := 40) hC dX8_fork_25 (pc' := 28) rfl (by decide) (fun zc25 => ?_) (fun zc25 => ?_)
    · skip
      refine xi_sipush (v := -10002) hC dX8_fork_40 (pc' := 43) rfl (by decide +kernel) ?_
      refine xi_ireturn hC dX8_fork_43 hr rfl ?_
      refine ⟨_, S, rfl, ⟨fun q => absurd ⟨v, hv, rfl⟩ q, fun v' hv' e1 => ?_⟩, rfl⟩
      obtain rfl := nI_inj (by omega) (by omega) e1
      exact ⟨fun _ => ⟨rfl, rfl⟩, fun q => absurd (by first | exact Or.inr zc37 | exact fork_rng hu5 zc25) q⟩
    · skip
      refine xi_iload_n hC dX8_fork_28 (pc' := 29) rfl rfl rfl ?_
      refine xi_aload_n hC dX8_fork_29 (pc' := 30) rfl rfl rfl ?_
      refine xi_iload_n hC dX8_fork_30 (pc' := 31) rfl rfl rfl ?_
      refine xi_callV (As := [.int (nI v)]) (rest := [.int y]) (c_X8_attached l D b n (C := C) (S := S) (u := u) (x := (nI v)) hU) hC dX8_fork_31 (pc' := 34) rfl xw_m_X8_136 xw_c_X8_attached xw_ins_X8_attached xw_sel_X8_attached xw_ini_X8 xd_X8_attached (xH_at.trans (xsh_8 kd_oMod)) rfl ⟨Nat.le_of_ble_eq_true rfl, Nat.le_of_ble_eq_true rfl⟩ rfl (Nat.le_of_ble_eq_true rfl) ⟨Nat.le_of_ble_eq_true rfl, Nat.le_of_ble_eq_true rfl⟩ ?_
      rintro _ _ ⟨rfl, rfl⟩
      show xV _ _ _ _ _ _ _ _ _ _ _ _ _ _ _ _ _ (xH D b (jn C S)) _ _ [.int (attM S (nI v) u), .int y]
      refine xi_iconst (v := -1) hC dX8_fork_34 (pc' := 35) rfl (by decide +kernel) ?_
      refine xi_ixor hC dX8_fork_35 (pc' := 36) rfl ?_
      refine xi_iand hC dX8_fork_36 (pc' := 37) rfl ?_
      refine xi_ifeq (tgt := 44) hC dX8_fork_37 (pc' := 40) rfl (by decide) (fun zc37 => ?_) (fun zc37 => ?_)
      · skip
        have hnb : ¬ badS S u v y := fun q => q.elim (fun z => by rw [z] at zc25; exact absurd zc25.1 (by decide)) (fun z => z zc37)
        refine xi_aload_n hC dX8_fork_44 (pc' := 45) rfl rfl rfl ?_
        refine xt_g_views hC dX8_fork_45 (pc' := 48) rfl xw_f_X8_77 ?_
        refine xtop (y := (nI w)) (hn) ?_
        refine xi_bipush (v := nI 6) hC dX8_fork_48 (pc' := 50) rfl (by decide +kernel) ?_
        refine xn_icmpne (tgt := 57) hC dX8_fork_50 (pc' := 53) rfl (by decide) (by omega) (by omega) (fun zc50 => ?_) (fun zc50 => ?_)
        · skip
          refine xi_iconst (v := nI 0) hC dX8_fork_57 (pc' := 58) rfl (by decide +kernel) ?_
          refine xi_istore_n (lv' := [some (.ref (b + oMod)), some (.int (nI v)), some (.int y), some (.int (nI 0))]) hC dX8_fork_58 (pc' := 59) rfl rfl (by decide) rfl ?_
          refine xstate (congrArg (jn C) ((su_self (o := m_row)).trans (congrArg (su _ m_row) (cpy_0 (t := 30 * w) (g := (sl (S m_row) (30 * v)))).symm))) ?_
          have L59 : ∀ (d : Nat) (j : Nat), 30 - j < d → (j ≤ 30) → xV p l e (xR 2 43 0 0) s m args below meth c D b 4 0 0 (MQ below (xQ D b n (fun y' h' => ∃ (r : Int32) (T : XM), y' = some (.int r) ∧ s_fork S u w (nI v) y r T ∧ h' = xH D b (jn C T))) args s 0 0 (fun q => b ≤ q)) n (xH D b (jn C (su S m_row (cpy j (S m_row) (30 * w) (sl (S m_row) (30 * v)))))) 59 [some (.ref (b + oMod)), some (.int (nI v)), some (.int y), some (.int (nI j))] [] := by
            intro d
            induction d with
            | zero => intro j h; exact absurd h (Nat.not_lt_zero _)
            | succ d ih59 =>
              intro j hd59 hj
              refine xi_iload_n hC dX8_fork_59 (pc' := 60) rfl rfl rfl ?_
              refine xi_bipush (v := nI 30) hC dX8_fork_60 (pc' := 62) rfl (by decide +kernel) ?_
              refine xn_icmpge (tgt := 96) hC dX8_fork_62 (pc' := 65) rfl (by decide) (by omega) (by omega) (fun zc62 => ?_) (fun zc62 => ?_)
              · skip
                obtain rfl : j = 30 := by omega
                refine xi_iconst (v := nI 0) hC dX8_fork_96 (pc' := 97) rfl (by decide +kernel) ?_
                refine xi_istore_n (lv' := [some (.ref (b + oMod)), some (.int (nI v)), some (.int y), some (.int (nI 0))]) hC dX8_fork_97 (pc' := 98) rfl rfl (by decide) rfl ?_
                refine xstate (congrArg (jn C) ((su_self (o := m_keptRow)).trans (congrArg (su _ m_keptRow) (show (su S m_row (cpy 30 (S m_row) (30 * w) (sl (S m_row) (30 * v)))) m_keptRow = cpy 0 (S m_keptRow) (150 * w) (sl (S m_keptRow) (150 * v)) from by rw [su_n (by decide), cpy_0])))) ?_
                have L98 : ∀ (d : Nat) (j : Nat), 150 - j < d → (j ≤ 150) → xV p l e (xR 2 43 0 0) s m args below meth c D b 4 0 0 (MQ below (xQ D b n (fun y' h' => ∃ (r : Int32) (T : XM), y' = some (.int r) ∧ s_fork S u w (nI v) y r T ∧ h' = xH D b (jn C T))) args s 0 0 (fun q => b ≤ q)) n (xH D b (jn C (su (su S m_row (cpy 30 (S m_row) (30 * w) (sl (S m_row) (30 * v)))) m_keptRow (cpy j (S m_keptRow) (150 * w) (sl (S m_keptRow) (150 * v)))))) 98 [some (.ref (b + oMod)), some (.int (nI v)), some (.int y), some (.int (nI j))] [] := by
                  intro d
                  induction d with
                  | zero => intro j h; exact absurd h (Nat.not_lt_zero _)
                  | succ d ih98 =>
                    intro j hd98 hj
                    refine xi_iload_n hC dX8_fork_98 (pc' := 99) rfl rfl rfl ?_
                    refine xi_sipush (v := nI 150) hC dX8_fork_99 (pc' := 102) rfl (by decide +kernel) ?_
                    refine xn_icmpge (tgt := 138) hC dX8_fork_102 (pc' := 105) rfl (by decide) (by omega) (by omega) (fun zc102 => ?_) (fun zc102 => ?_)
                    · skip
                      obtain rfl : j = 150 := by omega
                      refine xi_aload_n hC dX8_fork_138 (pc' := 139) rfl rfl rfl ?_
                      refine xg8_keptOf hC dX8_fork_139 (pc' := 142) rfl xw_f_X8_13 kd_oMod ?_
                      refine xi_aload_n hC dX8_fork_142 (pc' := 143) rfl rfl rfl ?_
                      refine xt_g_views hC dX8_fork_143 (pc' := 146) rfl xw_f_X8_77 ?_
                      refine xtop (y := (S oMod 1)) (by rw [su_n (q := oMod) (o := m_keptRow) (by first | (simp only [oMs, oVws, oScr, oSgn, oMod, oMem, oSig, oKno, oPro, oBox, oFst, oSnd, oLts, oLet, oNum, oVw, oEnt, oBef, oBk, oVs, oCon, oVec, m_row, m_keptOf, m_keptRow, m_viewOf, m_alarmOf, m_hasProof, m_depthOf, m_proofOf, m_signedOf, m_knownOf, m_doneOf, m_shownTo, m_sentBy, m_hasRead, m_readOf, m_lettersOf, m_letter, m_hand, m_text] <;> omega) | decide | omega | (simp only [oMs, oVws, oScr, oSgn, oMod, oMem, oSig, oKno, oPro, oBox, oFst, oSnd, oLts, oLet, oNum, oVw, oEnt, oBef, oBk, oVs, oCon, oVec, m_row, m_keptOf, m_keptRow, m_viewOf, m_alarmOf, m_hasProof, m_depthOf, m_proofOf, m_signedOf, m_knownOf, m_doneOf, m_shownTo, m_sentBy, m_hasRead, m_readOf, m_lettersOf, m_letter, m_hand, m_text] at * <;> omega)), su_n (q := oMod) (o := m_row) (by first | (simp only [oMs, oVws, oScr, oSgn, oMod, oMem, oSig, oKno, oPro, oBox, oFst, oSnd, oLts, oLet, oNum, oVw, oEnt, oBef, oBk, oVs, oCon, oVec, m_row, m_keptOf, m_keptRow, m_viewOf, m_alarmOf, m_hasProof, m_depthOf, m_proofOf, m_signedOf, m_knownOf, m_doneOf, m_shownTo, m_sentBy, m_hasRead, m_readOf, m_lettersOf, m_letter, m_hand, m_text] <;> omega) | decide | omega | (simp only [oMs, oVws, oScr, oSgn, oMod, oMem, oSig, oKno, oPro, oBox, oFst, oSnd, oLts, oLet, oNum, oVw, oEnt, oBef, oBk, oVs, oCon, oVec, m_row, m_keptOf, m_keptRow, m_viewOf, m_alarmOf, m_hasProof, m_depthOf, m_proofOf, m_signedOf, m_knownOf, m_doneOf, m_shownTo, m_sentBy, m_hasRead, m_readOf, m_lettersOf, m_letter, m_hand, m_text] at * <;> omega))]) ?_
                      refine xtop (y := (nI w)) (hn) ?_
                      refine xi_aload_n hC dX8_fork_146 (pc' := 147) rfl rfl rfl ?_
                      refine xg8_keptOf hC dX8_fork_147 (pc' := 150) rfl xw_f_X8_13 kd_oMod ?_
                      refine xi_iload_n hC dX8_fork_150 (pc' := 151) rfl rfl rfl ?_
                      refine xt_l_i hC dX8_fork_151 (pc' := 152) rfl (N := 6) kd_m_keptOf (by decide) (by decide) rfl (by omega) ?_
                      refine xtop (y := (S m_keptOf v)) (by rw [su_n (q := m_keptOf) (o := m_keptRow) (by first | (simp only [oMs, oVws, oScr, oSgn, oMod, oMem, oSig, oKno, oPro, oBox, oFst, oSnd, oLts, oLet, oNum, oVw, oEnt, oBef, oBk, oVs, oCon, oVec, m_row, m_keptOf, m_keptRow, m_viewOf, m_alarmOf, m_hasProof, m_depthOf, m_proofOf, m_signedOf, m_knownOf, m_doneOf, m_shownTo, m_sentBy, m_hasRead, m_readOf, m_lettersOf, m_letter, m_hand, m_text] <;> omega) | decide | omega | (simp only [oMs, oVws, oScr, oSgn, oMod, oMem, oSig, oKno, oPro, oBox, oFst, oSnd, oLts, oLet, oNum, oVw, oEnt, oBef, oBk, oVs, oCon, oVec, m_row, m_keptOf, m_keptRow, m_viewOf, m_alarmOf, m_hasProof, m_depthOf, m_proofOf, m_signedOf, m_knownOf, m_doneOf, m_shownTo, m_sentBy, m_hasRead, m_readOf, m_lettersOf, m_letter, m_hand, m_text] at * <;> omega)), su_n (q := m_keptOf) (o := m_row) (by first | (simp only [oMs, oVws, oScr, oSgn, oMod, oMem, oSig, oKno, oPro, oBox, oFst, oSnd, oLts, oLet, oNum, oVw, oEnt, oBef, oBk, oVs, oCon, oVec, m_row, m_keptOf, m_keptRow, m_viewOf, m_alarmOf, m_hasProof, m_depthOf, m_proofOf, m_signedOf, m_knownOf, m_doneOf, m_shownTo, m_sentBy, m_hasRead, m_readOf, m_lettersOf, m_letter, m_hand, m_text] <;> omega) | decide | omega | (simp only [oMs, oVws, oScr, oSgn, oMod, oMem, oSig, oKno, oPro, oBox, oFst, oSnd, oLts, oLet, oNum, oVw, oEnt, oBef, oBk, oVs, oCon, oVec, m_row, m_keptOf, m_keptRow, m_viewOf, m_alarmOf, m_hasProof, m_depthOf, m_proofOf, m_signedOf, m_knownOf, m_doneOf, m_shownTo, m_sentBy, m_hasRead, m_readOf, m_lettersOf, m_letter, m_hand, m_text] at * <;> omega))]) ?_
                      refine xt_s_i hC dX8_fork_152 (pc' := 153) rfl (N := 6) kd_m_keptOf (by decide) (by decide) rfl (by omega) ?_
                      refine xi_iconst (v := nI 0) hC dX8_fork_153 (pc' := 154) rfl (by decide +kernel) ?_
                      refine xi_istore_n (lv' := [some (.ref (b + oMod)), some (.int (nI v)), some (.int y), some (.int (nI 0))]) hC dX8_fork_154 (pc' := 155) rfl rfl (by decide) rfl ?_
                      refine xstate (congrArg (jn C) ((su_self (o := m_viewOf)).trans (congrArg (su _ m_viewOf) (show (sw (su (su S m_row (cpy 30 (S m_row) (30 * w) (sl (S m_row) (30 * v)))) m_keptRow (cpy 150 (S m_keptRow) (150 * w) (sl (S m_keptRow) (150 * v)))) m_keptOf w (S m_keptOf v)) m_viewOf = S m_viewOf from by rw [sw_n (by decide), su_n (by decide), su_n (by decide)])))) ?_
                      have L155 : ∀ (d : Nat) (j : Nat) (f : Nat → Int32), u - j < d → (j ≤ u) → (∀ i, i < j → (hasB y i → f i = nI w) ∧ (¬ hasB y i → f i = S m_viewOf i)) → (∀ i, j ≤ i → f i = S m_viewOf i) → xV p l e (xR 2 43 0 0) s m args below meth c D b 4 0 0 (MQ below (xQ D b n (fun y' h' => ∃ (r : Int32) (T : XM), y' = some (.int r) ∧ s_fork S u w (nI v) y r T ∧ h' = xH D b (jn C T))) args s 0 0 (fun q => b ≤ q)) n (xH D b (jn C (su (sw (su (su S m_row (cpy 30 (S m_row) (30 * w) (sl (S m_row) (30 * v)))) m_keptRow (cpy 150 (S m_keptRow) (150 * w) (sl (S m_keptRow) (150 * v)))) m_keptOf w (S m_keptOf v)) m_viewOf f))) 155 [some (.ref (b + oMod)), some (.int (nI v)), some (.int y), some (.int (nI j))] [] := by
                        intro d
                        induction d with
                        | zero => intro j f h; exact absurd h (Nat.not_lt_zero _)
                        | succ d ih155 =>
                          intro j f hd155 hj hf1 hf2
                          refine xi_iload_n hC dX8_fork_155 (pc' := 156) rfl rfl rfl ?_
                          refine xi_aload_n hC dX8_fork_156 (pc' := 157) rfl rfl rfl ?_
                          refine xt_g_users hC dX8_fork_157 (pc' := 160) rfl xw_f_X8_73 ?_
                          refine xtop (y := (S oMod 0)) (by rw [su_n (q := oMod) (o := m_viewOf) (by first | (simp only [oMs, oVws, oScr, oSgn, oMod, oMem, oSig, oKno, oPro, oBox, oFst, oSnd, oLts, oLet, oNum, oVw, oEnt, oBef, oBk, oVs, oCon, oVec, m_row, m_keptOf, m_keptRow, m_viewOf, m_alarmOf, m_hasProof, m_depthOf, m_proofOf, m_signedOf, m_knownOf, m_doneOf, m_shownTo, m_sentBy, m_hasRead, m_readOf, m_lettersOf, m_letter, m_hand, m_text] <;> omega) | decide | omega | (simp only [oMs, oVws, oScr, oSgn, oMod, oMem, oSig, oKno, oPro, oBox, oFst, oSnd, oLts, oLet, oNum, oVw, oEnt, oBef, oBk, oVs, oCon, oVec, m_row, m_keptOf, m_keptRow, m_viewOf, m_alarmOf, m_hasProof, m_depthOf, m_proofOf, m_signedOf, m_knownOf, m_doneOf, m_shownTo, m_sentBy, m_hasRead, m_readOf, m_lettersOf, m_letter, m_hand, m_text] at * <;> omega)), sw_n (q := oMod) (o := m_keptOf) (by first | (simp only [oMs, oVws, oScr, oSgn, oMod, oMem, oSig, oKno, oPro, oBox, oFst, oSnd, oLts, oLet, oNum, oVw, oEnt, oBef, oBk, oVs, oCon, oVec, m_row, m_keptOf, m_keptRow, m_viewOf, m_alarmOf, m_hasProof, m_depthOf, m_proofOf, m_signedOf, m_knownOf, m_doneOf, m_shownTo, m_sentBy, m_hasRead, m_readOf, m_lettersOf, m_letter, m_hand, m_text] <;> omega) | decide | omega | (simp only [oMs, oVws, oScr, oSgn, oMod, oMem, oSig, oKno, oPro, oBox, oFst, oSnd, oLts, oLet, oNum, oVw, oEnt, oBef, oBk, oVs, oCon, oVec, m_row, m_keptOf, m_keptRow, m_viewOf, m_alarmOf, m_hasProof, m_depthOf, m_proofOf, m_signedOf, m_knownOf, m_doneOf, m_shownTo, m_sentBy, m_hasRead, m_readOf, m_lettersOf, m_letter, m_hand, m_text] at * <;> omega)), su_n (q := oMod) (o := m_keptRow) (by first | (simp only [oMs, oVws, oScr, oSgn, oMod, oMem, oSig, oKno, oPro, oBox, oFst, oSnd, oLts, oLet, oNum, oVw, oEnt, oBef, oBk, oVs, oCon, oVec, m_row, m_keptOf, m_keptRow, m_viewOf, m_alarmOf, m_hasProof, m_depthOf, m_proofOf, m_signedOf, m_knownOf, m_doneOf, m_shownTo, m_sentBy, m_hasRead, m_readOf, m_lettersOf, m_letter, m_hand, m_text] <;> omega) | decide | omega | (simp only [oMs, oVws, oScr, oSgn, oMod, oMem, oSig, oKno, oPro, oBox, oFst, oSnd, oLts, oLet, oNum, oVw, oEnt, oBef, oBk, oVs, oCon, oVec, m_row, m_keptOf, m_keptRow, m_viewOf, m_alarmOf, m_hasProof, m_depthOf, m_proofOf, m_signedOf, m_knownOf, m_doneOf, m_shownTo, m_sentBy, m_hasRead, m_readOf, m_lettersOf, m_letter, m_hand, m_text] at * <;> omega)), su_n (q := oMod) (o := m_row) (by first | (simp only [oMs, oVws, oScr, oSgn, oMod, oMem, oSig, oKno, oPro, oBox, oFst, oSnd, oLts, oLet, oNum, oVw, oEnt, oBef, oBk, oVs, oCon, oVec, m_row, m_keptOf, m_keptRow, m_viewOf, m_alarmOf, m_hasProof, m_depthOf, m_proofOf, m_signedOf, m_knownOf, m_doneOf, m_shownTo, m_sentBy, m_hasRead, m_readOf, m_lettersOf, m_letter, m_hand, m_text] <;> omega) | decide | omega | (simp only [oMs, oVws, oScr, oSgn, oMod, oMem, oSig, oKno, oPro, oBox, oFst, oSnd, oLts, oLet, oNum, oVw, oEnt, oBef, oBk, oVs, oCon, oVec, m_row, m_keptOf, m_keptRow, m_viewOf, m_alarmOf, m_hasProof, m_depthOf, m_proofOf, m_signedOf, m_knownOf, m_doneOf, m_shownTo, m_sentBy, m_hasRead, m_readOf, m_lettersOf, m_letter, m_hand, m_text] at * <;> omega))]) ?_
                          refine xtop (y := (nI u)) (hu) ?_
                          refine xn_icmpge (tgt := 197) hC dX8_fork_160 (pc' := 163) rfl (by decide) (by omega) (by omega) (fun zc160 => ?_) (fun zc160 => ?_)
                          · skip
                            refine xi_aload_n hC dX8_fork_197 (pc' := 198) rfl rfl rfl ?_
                            refine xi_dup hC dX8_fork_198 (pc' := 199) rfl rfl ?_
                            refine xt_g_views hC dX8_fork_199 (pc' := 202) rfl xw_f_X8_77 ?_
                            refine xtop (y := (S oMod 1)) (by rw [su_n (q := oMod) (o := m_viewOf) (by first | (simp only [oMs, oVws, oScr, oSgn, oMod, oMem, oSig, oKno, oPro, oBox, oFst, oSnd, oLts, oLet, oNum, oVw, oEnt, oBef, oBk, oVs, oCon, oVec, m_row, m_keptOf, m_keptRow, m_viewOf, m_alarmOf, m_hasProof, m_depthOf, m_proofOf, m_signedOf, m_knownOf, m_doneOf, m_shownTo, m_sentBy, m_hasRead, m_readOf, m_lettersOf, m_letter, m_hand, m_text] <;> omega) | decide | omega | (simp only [oMs, oVws, oScr, oSgn, oMod, oMem, oSig, oKno, oPro, oBox, oFst, oSnd, oLts, oLet, oNum, oVw, oEnt, oBef, oBk, oVs, oCon, oVec, m_row, m_keptOf, m_keptRow, m_viewOf, m_alarmOf, m_hasProof, m_depthOf, m_proofOf, m_signedOf, m_knownOf, m_doneOf, m_shownTo, m_sentBy, m_hasRead, m_readOf, m_lettersOf, m_letter, m_hand, m_text] at * <;> omega)), sw_n (q := oMod) (o := m_keptOf) (by first | (simp only [oMs, oVws, oScr, oSgn, oMod, oMem, oSig, oKno, oPro, oBox, oFst, oSnd, oLts, oLet, oNum, oVw, oEnt, oBef, oBk, oVs, oCon, oVec, m_row, m_keptOf, m_keptRow, m_viewOf, m_alarmOf, m_hasProof, m_depthOf, m_proofOf, m_signedOf, m_knownOf, m_doneOf, m_shownTo, m_sentBy, m_hasRead, m_readOf, m_lettersOf, m_letter, m_hand, m_text] <;> omega) | decide | omega | (simp only [oMs, oVws, oScr, oSgn, oMod, oMem, oSig, oKno, oPro, oBox, oFst, oSnd, oLts, oLet, oNum, oVw, oEnt, oBef, oBk, oVs, oCon, oVec, m_row, m_keptOf, m_keptRow, m_viewOf, m_alarmOf, m_hasProof, m_depthOf, m_proofOf, m_signedOf, m_knownOf, m_doneOf, m_shownTo, m_sentBy, m_hasRead, m_readOf, m_lettersOf, m_letter, m_hand, m_text] at * <;> omega)), su_n (q := oMod) (o := m_keptRow) (by first | (simp only [oMs, oVws, oScr, oSgn, oMod, oMem, oSig, oKno, oPro, oBox, oFst, oSnd, oLts, oLet, oNum, oVw, oEnt, oBef, oBk, oVs, oCon, oVec, m_row, m_keptOf, m_keptRow, m_viewOf, m_alarmOf, m_hasProof, m_depthOf, m_proofOf, m_signedOf, m_knownOf, m_doneOf, m_shownTo, m_sentBy, m_hasRead, m_readOf, m_lettersOf, m_letter, m_hand, m_text] <;> omega) | decide | omega | (simp only [oMs, oVws, oScr, oSgn, oMod, oMem, oSig, oKno, oPro, oBox, oFst, oSnd, oLts, oLet, oNum, oVw, oEnt, oBef, oBk, oVs, oCon, oVec, m_row, m_keptOf, m_keptRow, m_viewOf, m_alarmOf, m_hasProof, m_depthOf, m_proofOf, m_signedOf, m_knownOf, m_doneOf, m_shownTo, m_sentBy, m_hasRead, m_readOf, m_lettersOf, m_letter, m_hand, m_text] at * <;> omega)), su_n (q := oMod) (o := m_row) (by first | (simp only [oMs, oVws, oScr, oSgn, oMod, oMem, oSig, oKno, oPro, oBox, oFst, oSnd, oLts, oLet, oNum, oVw, oEnt, oBef, oBk, oVs, oCon, oVec, m_row, m_keptOf, m_keptRow, m_viewOf, m_alarmOf, m_hasProof, m_depthOf, m_proofOf, m_signedOf, m_knownOf, m_doneOf, m_shownTo, m_sentBy, m_hasRead, m_readOf, m_lettersOf, m_letter, m_hand, m_text] <;> omega) | decide | omega | (simp only [oMs, oVws, oScr, oSgn, oMod, oMem, oSig, oKno, oPro, oBox, oFst, oSnd, oLts, oLet, oNum, oVw, oEnt, oBef, oBk, oVs, oCon, oVec, m_row, m_keptOf, m_keptRow, m_viewOf, m_alarmOf, m_hasProof, m_depthOf, m_proofOf, m_signedOf, m_knownOf, m_doneOf, m_shownTo, m_sentBy, m_hasRead, m_readOf, m_lettersOf, m_letter, m_hand, m_text] at * <;> omega))]) ?_
                            refine xtop (y := (nI w)) (hn) ?_
                            refine xi_iconst (v := nI 1) hC dX8_fork_202 (pc' := 203) rfl (by decide +kernel) ?_
                            refine xn_iadd hC dX8_fork_203 (pc' := 204) rfl ?_
                            refine xt_p_views hC dX8_fork_204 (pc' := 207) rfl xw_f_X8_77 ?_
                            refine xi_aload_n hC dX8_fork_207 (pc' := 208) rfl rfl rfl ?_
                            refine xt_g_views hC dX8_fork_208 (pc' := 211) rfl xw_f_X8_77 ?_
                            refine xtop (y := (nI (w + 1))) (by rw [sw_s]) ?_
                            refine xi_iconst (v := nI 1) hC dX8_fork_211 (pc' := 212) rfl (by decide +kernel) ?_
                            refine xn_isub hC dX8_fork_212 (pc' := 213) rfl (by omega) ?_
                            refine xtop (y := nI w) (by rw [Nat.add_sub_cancel]) ?_
                            refine xi_ireturn hC dX8_fork_213 hr rfl ?_
                            refine ⟨_, _, rfl, ⟨fun q => absurd ⟨v, hv, rfl⟩ q, fun v' hv' e1 => ?_⟩, rfl⟩
                            obtain rfl := nI_inj (by omega) (by omega) e1
                            refine ⟨fun q => absurd q hnb, fun _ => ⟨fun q => absurd q zc50, fun _ => ⟨rfl, ?_, ?_, ?_, fun i hi => ?_, fun i hi => ?_, sw_s, fun k hk => ?_, fun o o1 o2 o3 o4 o5 => ?_⟩⟩⟩
                            · rw [sw_n (by decide), su_n (by decide), sw_n (by decide), su_n (by decide), su_s]
                            · rw [sw_n (by decide), su_n (by decide), sw_n (by decide), su_s]
                            · rw [sw_n (by decide), su_n (by decide), sw_o, su_n (by decide), su_n (by decide)]
                            · rw [sw_n (by decide), su_s]; exact hf1 i (by omega)
                            · rw [sw_n (by decide), su_s]; exact hf2 i (by omega)
                            · rw [sw_k hk, su_n (by decide), sw_n (by decide), su_n (by decide), su_n (by decide)]
                            · rw [sw_n o1, su_n o5, sw_n o4, su_n o3, su_n o2]
                          · skip
                            refine xi_aload_n hC dX8_fork_163 (pc' := 164) rfl rfl rfl ?_
                            refine xg8_viewOf hC dX8_fork_164 (pc' := 167) rfl xw_f_X8_19 kd_oMod ?_
                            refine xi_iload_n hC dX8_fork_167 (pc' := 168) rfl rfl rfl ?_
                            refine xi_iload_n hC dX8_fork_168 (pc' := 169) rfl rfl rfl ?_
                            refine xi_iload_n hC dX8_fork_169 (pc' := 170) rfl rfl rfl ?_
                            refine xi_ishr hC dX8_fork_170 (pc' := 171) rfl ?_
                            refine xi_iconst (v := nI 1) hC dX8_fork_171 (pc' := 172) rfl (by decide +kernel) ?_
                            refine xi_iand hC dX8_fork_172 (pc' := 173) rfl ?_
                            refine xi_iconst (v := nI 1) hC dX8_fork_173 (pc' := 174) rfl (by decide +kernel) ?_
                            refine xi_icmpne (tgt := 184) hC dX8_fork_174 (pc' := 177) rfl (by decide) (fun zc174 => ?_) (fun zc174 => ?_)
                            · skip
                              refine xi_aload_n hC dX8_fork_184 (pc' := 185) rfl rfl rfl ?_
                              refine xg8_viewOf hC dX8_fork_185 (pc' := 188) rfl xw_f_X8_19 kd_oMod ?_
                              refine xi_iload_n hC dX8_fork_188 (pc' := 189) rfl rfl rfl ?_
                              refine xt_l_i hC dX8_fork_189 (pc' := 190) rfl (N := 5) kd_m_viewOf (by decide) (by decide) rfl (by omega) ?_
                              refine xtop (y := (f j)) (by rw [su_s]) ?_
                              refine xt_s_i hC dX8_fork_190 (pc' := 191) rfl (N := 5) kd_m_viewOf (by decide) (by decide) rfl (by omega) ?_
                              refine xstate (congrArg (jn C) sw_su) ?_
                              refine xn_iinc (lv' := [some (.ref (b + oMod)), some (.int (nI v)), some (.int y), some (.int (nI (j + 1)))]) hC dX8_fork_191 (pc' := 194) rfl rfl (by decide) rfl ?_
                              refine xi_goto (tgt := 155) hC dX8_fork_194 (by decide) ?_
                              refine ih155 _ _ (by omega) ?_ ?_ ?_
                              · omega
                              · first
                                  | exact upd_all (P := fun i z => (hasB y i → z = nI w) ∧ (¬ hasB y i → z = S m_viewOf i)) hf1 ⟨fun _ => rfl, fun q => absurd zc174 q⟩
                                  | exact upd_all (P := fun i z => (hasB y i → z = nI w) ∧ (¬ hasB y i → z = S m_viewOf i)) hf1 ⟨fun q => absurd q zc174, fun _ => hf2 j (Nat.le_refl _)⟩
                              · intro i hi
                                rw [upd_n (by omega)]
                                exact hf2 i (by omega)
                            · skip
                              refine xi_aload_n hC dX8_fork_177 (pc' := 178) rfl rfl rfl ?_
                              refine xt_g_views hC dX8_fork_178 (pc' := 181) rfl xw_f_X8_77 ?_
                              refine xtop (y := (S oMod 1)) (by rw [su_n (q := oMod) (o := m_viewOf) (by first | (simp only [oMs, oVws, oScr, oSgn, oMod, oMem, oSig, oKno, oPro, oBox, oFst, oSnd, oLts, oLet, oNum, oVw, oEnt, oBef, oBk, oVs, oCon, oVec, m_row, m_keptOf, m_keptRow, m_viewOf, m_alarmOf, m_hasProof, m_depthOf, m_proofOf, m_signedOf, m_knownOf, m_doneOf, m_shownTo, m_sentBy, m_hasRead, m_readOf, m_lettersOf, m_letter, m_hand, m_text] <;> omega) | decide | omega | (simp only [oMs, oVws, oScr, oSgn, oMod, oMem, oSig, oKno, oPro, oBox, oFst, oSnd, oLts, oLet, oNum, oVw, oEnt, oBef, oBk, oVs, oCon, oVec, m_row, m_keptOf, m_keptRow, m_viewOf, m_alarmOf, m_hasProof, m_depthOf, m_proofOf, m_signedOf, m_knownOf, m_doneOf, m_shownTo, m_sentBy, m_hasRead, m_readOf, m_lettersOf, m_letter, m_hand, m_text] at * <;> omega)), sw_n (q := oMod) (o := m_keptOf) (by first | (simp only [oMs, oVws, oScr, oSgn, oMod, oMem, oSig, oKno, oPro, oBox, oFst, oSnd, oLts, oLet, oNum, oVw, oEnt, oBef, oBk, oVs, oCon, oVec, m_row, m_keptOf, m_keptRow, m_viewOf, m_alarmOf, m_hasProof, m_depthOf, m_proofOf, m_signedOf, m_knownOf, m_doneOf, m_shownTo, m_sentBy, m_hasRead, m_readOf, m_lettersOf, m_letter, m_hand, m_text] <;> omega) | decide | omega | (simp only [oMs, oVws, oScr, oSgn, oMod, oMem, oSig, oKno, oPro, oBox, oFst, oSnd, oLts, oLet, oNum, oVw, oEnt, oBef, oBk, oVs, oCon, oVec, m_row, m_keptOf, m_keptRow, m_viewOf, m_alarmOf, m_hasProof, m_depthOf, m_proofOf, m_signedOf, m_knownOf, m_doneOf, m_shownTo, m_sentBy, m_hasRead, m_readOf, m_lettersOf, m_letter, m_hand, m_text] at * <;> omega)), su_n (q := oMod) (o := m_keptRow) (by first | (simp only [oMs, oVws, oScr, oSgn, oMod, oMem, oSig, oKno, oPro, oBox, oFst, oSnd, oLts, oLet, oNum, oVw, oEnt, oBef, oBk, oVs, oCon, oVec, m_row, m_keptOf, m_keptRow, m_viewOf, m_alarmOf, m_hasProof, m_depthOf, m_proofOf, m_signedOf, m_knownOf, m_doneOf, m_shownTo, m_sentBy, m_hasRead, m_readOf, m_lettersOf, m_letter, m_hand, m_text] <;> omega) | decide | omega | (simp only [oMs, oVws, oScr, oSgn, oMod, oMem, oSig, oKno, oPro, oBox, oFst, oSnd, oLts, oLet, oNum, oVw, oEnt, oBef, oBk, oVs, oCon, oVec, m_row, m_keptOf, m_keptRow, m_viewOf, m_alarmOf, m_hasProof, m_depthOf, m_proofOf, m_signedOf, m_knownOf, m_doneOf, m_shownTo, m_sentBy, m_hasRead, m_readOf, m_lettersOf, m_letter, m_hand, m_text] at * <;> omega)), su_n (q := oMod) (o := m_row) (by first | (simp only [oMs, oVws, oScr, oSgn, oMod, oMem, oSig, oKno, oPro, oBox, oFst, oSnd, oLts, oLet, oNum, oVw, oEnt, oBef, oBk, oVs, oCon, oVec, m_row, m_keptOf, m_keptRow, m_viewOf, m_alarmOf, m_hasProof, m_depthOf, m_proofOf, m_signedOf, m_knownOf, m_doneOf, m_shownTo, m_sentBy, m_hasRead, m_readOf, m_lettersOf, m_letter, m_hand, m_text] <;> omega) | decide | omega | (simp only [oMs, oVws, oScr, oSgn, oMod, oMem, oSig, oKno, oPro, oBox, oFst, oSnd, oLts, oLet, oNum, oVw, oEnt, oBef, oBk, oVs, oCon, oVec, m_row, m_keptOf, m_keptRow, m_viewOf, m_alarmOf, m_hasProof, m_depthOf, m_proofOf, m_signedOf, m_knownOf, m_doneOf, m_shownTo, m_sentBy, m_hasRead, m_readOf, m_lettersOf, m_letter, m_hand, m_text] at * <;> omega))]) ?_
                              refine xtop (y := (nI w)) (hn) ?_
                              refine xi_goto (tgt := 190) hC dX8_fork_181 (by decide) ?_
                              refine xt_s_i hC dX8_fork_190 (pc' := 191) rfl (N := 5) kd_m_viewOf (by decide) (by decide) rfl (by omega) ?_
                              refine xstate (congrArg (jn C) sw_su) ?_
                              refine xn_iinc (lv' := [some (.ref (b + oMod)), some (.int (nI v)), some (.int y), some (.int (nI (j + 1)))]) hC dX8_fork_191 (pc' := 194) rfl rfl (by decide) rfl ?_
                              refine xi_goto (tgt := 155) hC dX8_fork_194 (by decide) ?_
                              refine ih155 _ _ (by omega) ?_ ?_ ?_
                              · omega
                              · first
                                  | exact upd_all (P := fun i z => (hasB y i → z = nI w) ∧ (¬ hasB y i → z = S m_viewOf i)) hf1 ⟨fun _ => rfl, fun q => absurd zc174 q⟩
                                  | exact upd_all (P := fun i z => (hasB y i → z = nI w) ∧ (¬ hasB y i → z = S m_viewOf i)) hf1 ⟨fun q => absurd q zc174, fun _ => hf2 j (Nat.le_refl _)⟩
                              · intro i hi
                                rw [upd_n (by omega)]
                                exact hf2 i (by omega)
                      refine L155 _ _ _ (Nat.lt_succ_self _) ?_ ?_ ?_
                      · omega
                      · intro i q; exact absurd q (Nat.not_lt_zero _)
                      · intro i _; rfl
                    · skip
                      refine xi_aload_n hC dX8_fork_105 (pc' := 106) rfl rfl rfl ?_
                      refine xg8_keptRow hC dX8_fork_106 (pc' := 109) rfl xw_f_X8_16 kd_oMod ?_
                      refine xi_sipush (v := nI 150) hC dX8_fork_109 (pc' := 112) rfl (by decide +kernel) ?_
                      refine xi_aload_n hC dX8_fork_112 (pc' := 113) rfl rfl rfl ?_
                      refine xt_g_views hC dX8_fork_113 (pc' := 116) rfl xw_f_X8_77 ?_
                      refine xtop (y := (S oMod 1)) (by rw [su_n (q := oMod) (o := m_keptRow) (by first | (simp only [oMs, oVws, oScr, oSgn, oMod, oMem, oSig, oKno, oPro, oBox, oFst, oSnd, oLts, oLet, oNum, oVw, oEnt, oBef, oBk, oVs, oCon, oVec, m_row, m_keptOf, m_keptRow, m_viewOf, m_alarmOf, m_hasProof, m_depthOf, m_proofOf, m_signedOf, m_knownOf, m_doneOf, m_shownTo, m_sentBy, m_hasRead, m_readOf, m_lettersOf, m_letter, m_hand, m_text] <;> omega) | decide | omega | (simp only [oMs, oVws, oScr, oSgn, oMod, oMem, oSig, oKno, oPro, oBox, oFst, oSnd, oLts, oLet, oNum, oVw, oEnt, oBef, oBk, oVs, oCon, oVec, m_row, m_keptOf, m_keptRow, m_viewOf, m_alarmOf, m_hasProof, m_depthOf, m_proofOf, m_signedOf, m_knownOf, m_doneOf, m_shownTo, m_sentBy, m_hasRead, m_readOf, m_lettersOf, m_letter, m_hand, m_text] at * <;> omega)), su_n (q := oMod) (o := m_row) (by first | (simp only [oMs, oVws, oScr, oSgn, oMod, oMem, oSig, oKno, oPro, oBox, oFst, oSnd, oLts, oLet, oNum, oVw, oEnt, oBef, oBk, oVs, oCon, oVec, m_row, m_keptOf, m_keptRow, m_viewOf, m_alarmOf, m_hasProof, m_depthOf, m_proofOf, m_signedOf, m_knownOf, m_doneOf, m_shownTo, m_sentBy, m_hasRead, m_readOf, m_lettersOf, m_letter, m_hand, m_text] <;> omega) | decide | omega | (simp only [oMs, oVws, oScr, oSgn, oMod, oMem, oSig, oKno, oPro, oBox, oFst, oSnd, oLts, oLet, oNum, oVw, oEnt, oBef, oBk, oVs, oCon, oVec, m_row, m_keptOf, m_keptRow, m_viewOf, m_alarmOf, m_hasProof, m_depthOf, m_proofOf, m_signedOf, m_knownOf, m_doneOf, m_shownTo, m_sentBy, m_hasRead, m_readOf, m_lettersOf, m_letter, m_hand, m_text] at * <;> omega))]) ?_
                      refine xtop (y := (nI w)) (hn) ?_
                      refine xn_imul hC dX8_fork_116 (pc' := 117) rfl ?_
                      refine xi_iload_n hC dX8_fork_117 (pc' := 118) rfl rfl rfl ?_
                      refine xn_iadd hC dX8_fork_118 (pc' := 119) rfl ?_
                      refine xi_aload_n hC dX8_fork_119 (pc' := 120) rfl rfl rfl ?_
                      refine xg8_keptRow hC dX8_fork_120 (pc' := 123) rfl xw_f_X8_16 kd_oMod ?_
                      refine xi_sipush (v := nI 150) hC dX8_fork_123 (pc' := 126) rfl (by decide +kernel) ?_
                      refine xi_iload_n hC dX8_fork_126 (pc' := 127) rfl rfl rfl ?_
                      refine xn_imul hC dX8_fork_127 (pc' := 128) rfl ?_
                      refine xi_iload_n hC dX8_fork_128 (pc' := 129) rfl rfl rfl ?_
                      refine xn_iadd hC dX8_fork_129 (pc' := 130) rfl ?_
                      refine xt_l_i hC dX8_fork_130 (pc' := 131) rfl (N := 900) kd_m_keptRow (by decide) (by decide) rfl (by omega) ?_
                      refine xtop (y := ((cpy j (S m_keptRow) (150 * w) (sl (S m_keptRow) (150 * v))) ((150 * v) + j))) (by rw [su_s]) ?_
                      refine xtop (y := (sl (S m_keptRow) (150 * v) j)) (cpy_out (by omega)) ?_
                      refine xt_s_i hC dX8_fork_131 (pc' := 132) rfl (N := 900) kd_m_keptRow (by decide) (by decide) rfl (by omega) ?_
                      refine xstate (congrArg (jn C) sw_su) ?_
                      refine xstate (congrArg (jn C) (congrArg (su _ m_keptRow) cpy_s)) ?_
                      refine xn_iinc (lv' := [some (.ref (b + oMod)), some (.int (nI v)), some (.int y), some (.int (nI (j + 1)))]) hC dX8_fork_132 (pc' := 135) rfl rfl (by decide) rfl ?_
                      refine xi_goto (tgt := 98) hC dX8_fork_135 (by decide) ?_
                      refine ih98 _ (by omega) ?_
                      · omega
                refine L98 _ _ (Nat.lt_succ_self _) ?_
                · omega
              · skip
                refine xi_aload_n hC dX8_fork_65 (pc' := 66) rfl rfl rfl ?_
                refine xg8_row hC dX8_fork_66 (pc' := 69) rfl xw_f_X8_7 kd_oMod ?_
                refine xi_bipush (v := nI 30) hC dX8_fork_69 (pc' := 71) rfl (by decide +kernel) ?_
                refine xi_aload_n hC dX8_fork_71 (pc' := 72) rfl rfl rfl ?_
                refine xt_g_views hC dX8_fork_72 (pc' := 75) rfl xw_f_X8_77 ?_
                refine xtop (y := (S oMod 1)) (by rw [su_n (q := oMod) (o := m_row) (by first | (simp only [oMs, oVws, oScr, oSgn, oMod, oMem, oSig, oKno, oPro, oBox, oFst, oSnd, oLts, oLet, oNum, oVw, oEnt, oBef, oBk, oVs, oCon, oVec, m_row, m_keptOf, m_keptRow, m_viewOf, m_alarmOf, m_hasProof, m_depthOf, m_proofOf, m_signedOf, m_knownOf, m_doneOf, m_shownTo, m_sentBy, m_hasRead, m_readOf, m_lettersOf, m_letter, m_hand, m_text] <;> omega) | decide | omega | (simp only [oMs, oVws, oScr, oSgn, oMod, oMem, oSig, oKno, oPro, oBox, oFst, oSnd, oLts, oLet, oNum, oVw, oEnt, oBef, oBk, oVs, oCon, oVec, m_row, m_keptOf, m_keptRow, m_viewOf, m_alarmOf, m_hasProof, m_depthOf, m_proofOf, m_signedOf, m_knownOf, m_doneOf, m_shownTo, m_sentBy, m_hasRead, m_readOf, m_lettersOf, m_letter, m_hand, m_text] at * <;> omega))]) ?_
                refine xtop (y := (nI w)) (hn) ?_
                refine xn_imul hC dX8_fork_75 (pc' := 76) rfl ?_
                refine xi_iload_n hC dX8_fork_76 (pc' := 77) rfl rfl rfl ?_
                refine xn_iadd hC dX8_fork_77 (pc' := 78) rfl ?_
                refine xi_aload_n hC dX8_fork_78 (pc' := 79) rfl rfl rfl ?_
                refine xg8_row hC dX8_fork_79 (pc' := 82) rfl xw_f_X8_7 kd_oMod ?_
                refine xi_bipush (v := nI 30) hC dX8_fork_82 (pc' := 84) rfl (by decide +kernel) ?_
                refine xi_iload_n hC dX8_fork_84 (pc' := 85) rfl rfl rfl ?_
                refine xn_imul hC dX8_fork_85 (pc' := 86) rfl ?_
                refine xi_iload_n hC dX8_fork_86 (pc' := 87) rfl rfl rfl ?_
                refine xn_iadd hC dX8_fork_87 (pc' := 88) rfl ?_
                refine xt_l_i hC dX8_fork_88 (pc' := 89) rfl (N := 180) kd_m_row (by decide) (by decide) rfl (by omega) ?_
                refine xtop (y := ((cpy j (S m_row) (30 * w) (sl (S m_row) (30 * v))) ((30 * v) + j))) (by rw [su_s]) ?_
                refine xtop (y := (sl (S m_row) (30 * v) j)) (cpy_out (by omega)) ?_
                refine xt_s_i hC dX8_fork_89 (pc' := 90) rfl (N := 180) kd_m_row (by decide) (by decide) rfl (by omega) ?_
                refine xstate (congrArg (jn C) sw_su) ?_
                refine xstate (congrArg (jn C) (congrArg (su _ m_row) cpy_s)) ?_
                refine xn_iinc (lv' := [some (.ref (b + oMod)), some (.int (nI v)), some (.int y), some (.int (nI (j + 1)))]) hC dX8_fork_90 (pc' := 93) rfl rfl (by decide) rfl ?_
                refine xi_goto (tgt := 59) hC dX8_fork_93 (by decide) ?_
                refine ih59 _ (by omega) ?_
                · omega
          refine L59 _ _ (Nat.lt_succ_self _) ?_
          · omega
        · skip
          refine xi_sipush (v := -10004) hC dX8_fork_53 (pc' := 56) rfl (by decide +kernel) ?_
          refine xi_ireturn hC dX8_fork_56 hr rfl ?_
          refine ⟨_, S, rfl, ⟨fun q => absurd ⟨v, hv, rfl⟩ q, fun v' hv' e1 => ?_⟩, rfl⟩
          obtain rfl := nI_inj (by omega) (by omega) e1
          exact ⟨fun q => absurd q hnb, fun _ => ⟨fun _ => ⟨rfl, rfl⟩, fun q => absurd zc50 q⟩⟩
      · skip
        refine xi_sipush (v := -10002) hC dX8_fork_40 (pc' := 43) rfl (by decide +kernel) ?_
        refine xi_ireturn hC dX8_fork_43 hr rfl ?_
        refine ⟨_, S, rfl, ⟨fun q => absurd ⟨v, hv, rfl⟩ q, fun v' hv' e1 => ?_⟩, rfl⟩
        obtain rfl := nI_inj (by omega) (by omega) e1
        exact ⟨fun _ => ⟨rfl, rfl⟩, fun q => absurd (by first | exact Or.inr zc37 | exact fork_rng hu5 zc25) q⟩
  · skip
    refine xi_sipush (v := -10001) hC dX8_fork_8 (pc' := 11) rfl (by decide +kernel) ?_
    refine xi_ireturn hC dX8_fork_11 hr rfl ?_
    exact ⟨_, S, rfl, ⟨fun _ => ⟨rfl, rfl⟩, fun i h e => absurd ⟨i, h, e⟩ zc5⟩, rfl⟩

set_option maxRecDepth 100000 in
set_option maxHeartbeats 4000000 in
theorem c_X8_mix (l : Launch) (D : XD) (b n : Nat) {C S : XM} {u w : Nat} (hW : MW S u w) {x y : Int32} : xM l yX8_mix cX8_mix 5 (some .int) 2 43 0 0 D b n [.ref (b + oMod), .int x, .int y] (xH D b (jn C S)) n (fun y' h' => ∃ (r : Int32) (T : XM), y' = some (.int r) ∧ s_mix S u w x y r T ∧ h' = xH D b (jn C T)) := by
  refine xM.of (lv := [some (.ref (b + oMod)), some (.int x), some (.int y), none, none]) (by decide +kernel) rfl (List.forall_mem_cons.mpr ⟨rfl, List.forall_mem_cons.mpr ⟨rfl, List.forall_mem_cons.mpr ⟨rfl, fun _ h => absurd h List.not_mem_nil⟩⟩⟩) (Nat.le_of_ble_eq_true rfl) rfl ?_
  intro p e s m args below meth c hC hr hnm
  obtain ⟨hU, hN, hVw, hKp, hLt, hTx, hAl⟩ := id hW
  obtain ⟨hu, hu2, hu5⟩ := id hU
  obtain ⟨hn, hw1, hw6⟩ := id hN
  refine xi_aload_n hC dX8_mix_0 (pc' := 1) rfl rfl rfl ?_
  refine xi_iload_n hC dX8_mix_1 (pc' := 2) rfl rfl rfl ?_
  refine xi_callV (As := [.int x]) (rest := []) (c_X8_noView l D b n (C := C) (S := S) (x := x) hN) hC dX8_mix_2 (pc' := 5) rfl xw_m_X8_133 xw_c_X8_noView xw_ins_X8_noView xw_sel_X8_noView xw_ini_X8 xd_X8_noView (xH_at.trans (xsh_8 kd_oMod)) rfl ⟨Nat.le_of_ble_eq_true rfl, Nat.le_of_ble_eq_true rfl⟩ rfl (Nat.le_of_ble_eq_true rfl) ⟨Nat.le_of_ble_eq_true rfl, Nat.le_of_ble_eq_true rfl⟩ ?_
  rintro _ _ ⟨rfl, rfl⟩
  show xV _ _ _ _ _ _ _ _ _ _ _ _ _ _ _ _ _ (xH D b (jn C S)) _ _ [.int (bI (¬ isU w x))]
  refine xb_ifne (tgt := 16) hC dX8_mix_5 (pc' := 8) rfl (by decide) (fun zc5 => ?_) (fun zc5 => ?_)
  · skip
    refine xi_sipush (v := -10001) hC dX8_mix_16 (pc' := 19) rfl (by decide +kernel) ?_
    refine xi_ireturn hC dX8_mix_19 hr rfl ?_
    exact ⟨_, S, rfl, ⟨fun _ => ⟨rfl, rfl⟩, fun i j h1 h2 e1 e2 => by first | exact absurd (show ∃ k, _ from ⟨j, h2, e2⟩) zc13 | exact absurd (show ∃ k, _ from ⟨i, h1, e1⟩) zc5⟩, rfl⟩
  · skip
    refine xi_aload_n hC dX8_mix_8 (pc' := 9) rfl rfl rfl ?_
    refine xi_iload_n hC dX8_mix_9 (pc' := 10) rfl rfl rfl ?_
    refine xi_callV (As := [.int y]) (rest := []) (c_X8_noView l D b n (C := C) (S := S) (x := y) hN) hC dX8_mix_10 (pc' := 13) rfl xw_m_X8_133 xw_c_X8_noView xw_ins_X8_noView xw_sel_X8_noView xw_ini_X8 xd_X8_noView (xH_at.trans (xsh_8 kd_oMod)) rfl ⟨Nat.le_of_ble_eq_true rfl, Nat.le_of_ble_eq_true rfl⟩ rfl (Nat.le_of_ble_eq_true rfl) ⟨Nat.le_of_ble_eq_true rfl, Nat.le_of_ble_eq_true rfl⟩ ?_
    rintro _ _ ⟨rfl, rfl⟩
    show xV _ _ _ _ _ _ _ _ _ _ _ _ _ _ _ _ _ (xH D b (jn C S)) _ _ [.int (bI (¬ isU w y))]
    refine xb_ifeq (tgt := 20) hC dX8_mix_13 (pc' := 16) rfl (by decide) (fun zc13 => ?_) (fun zc13 => ?_)
    · skip
      obtain ⟨v, hv, rfl⟩ := Classical.not_not.mp zc5
      obtain ⟨o, ho, rfl⟩ := Classical.not_not.mp zc13
      refine xi_iload_n hC dX8_mix_20 (pc' := 21) rfl rfl rfl ?_
      refine xi_iload_n hC dX8_mix_21 (pc' := 22) rfl rfl rfl ?_
      refine xn_icmpne (tgt := 29) hC dX8_mix_22 (pc' := 25) rfl (by decide) (by omega) (by omega) (fun zc22 => ?_) (fun zc22 => ?_)
      · skip
        refine xi_iconst (v := nI 0) hC dX8_mix_29 (pc' := 30) rfl (by decide +kernel) ?_
        refine xi_istore_n (lv' := [some (.ref (b + oMod)), some (.int (nI v)), some (.int (nI o)), some (.int (nI 0)), none]) hC dX8_mix_30 (pc' := 31) rfl rfl (by decide) rfl ?_
        refine xi_iconst (v := nI 0) hC dX8_mix_31 (pc' := 32) rfl (by decide +kernel) ?_
        refine xi_istore (lv' := [some (.ref (b + oMod)), some (.int (nI v)), some (.int (nI o)), some (.int (nI 0)), some (.int (nI 0))]) hC dX8_mix_32 (pc' := 34) rfl (by decide) rfl ?_
        have L34 : ∀ (d : Nat) (j : Nat) (cn : Nat) (T : XM), u - j < d → (j ≤ u) → (cn = xcnt (mixC S v o) j) → (mixR S v o j (T m_row)) → (mixV S v o j (T m_viewOf)) → (∀ q, q ≠ m_row → q ≠ m_viewOf → T q = S q) → xV p l e (xR 2 43 0 0) s m args below meth c D b 5 0 0 (MQ below (xQ D b n (fun y' h' => ∃ (r : Int32) (T : XM), y' = some (.int r) ∧ s_mix S u w (nI v) (nI o) r T ∧ h' = xH D b (jn C T))) args s 0 0 (fun q => b ≤ q)) n (xH D b (jn C T)) 34 [some (.ref (b + oMod)), some (.int (nI v)), some (.int (nI o)), some (.int (nI cn)), some (.int (nI j))] [] := by
          intro d
          induction d with
          | zero => intro j cn T h; exact absurd h (Nat.not_lt_zero _)
          | succ d ih34 =>
            intro j cn T hd34 hj en hR hM hF
            have hcn : cn ≤ j := by rw [en]; exact xcnt_le _ _
            refine xi_iload hC dX8_mix_34 (pc' := 36) rfl rfl ?_
            refine xi_aload_n hC dX8_mix_36 (pc' := 37) rfl rfl rfl ?_
            refine xt_g_users hC dX8_mix_37 (pc' := 40) rfl xw_f_X8_73 ?_
            refine xtop (y := (nI u)) ((congrFun (hF oMod (by decide) (by decide)) 0).trans hu) ?_
            refine xn_icmpge (tgt := 166) hC dX8_mix_40 (pc' := 43) rfl (by decide) (by omega) (by omega) (fun zc40 => ?_) (fun zc40 => ?_)
            · skip
              refine xi_aload_n hC dX8_mix_166 (pc' := 167) rfl rfl rfl ?_
              refine xg8_keptOf hC dX8_mix_167 (pc' := 170) rfl xw_f_X8_13 kd_oMod ?_
              refine xi_iload_n hC dX8_mix_170 (pc' := 171) rfl rfl rfl ?_
              refine xi_iconst (v := nI 0) hC dX8_mix_171 (pc' := 172) rfl (by decide +kernel) ?_
              refine xt_s_i hC dX8_mix_172 (pc' := 173) rfl (N := 6) kd_m_keptOf (by decide) (by decide) rfl (by omega) ?_
              refine xi_iload_n hC dX8_mix_173 (pc' := 174) rfl rfl rfl ?_
              refine xi_ireturn hC dX8_mix_174 hr rfl ?_
              have ej : j = u := by omega
              rw [ej] at en hR hM
              refine ⟨_, _, rfl, ⟨fun q => absurd ⟨⟨v, hv, rfl⟩, ⟨o, ho, rfl⟩⟩ q, fun v' o' hv' ho' e1 e2 => ?_⟩, rfl⟩
              obtain rfl := nI_inj (by omega) (by omega) e1
              obtain rfl := nI_inj (by omega) (by omega) e2
              refine ⟨fun q => absurd q zc22, fun _ => ⟨by rw [en], ?_, ?_, ?_, ?_, ?_, ?_, ?_⟩⟩
              · rw [sw_n (by decide)]; exact hR.1
              · rw [sw_n (by decide)]; exact hR.2.1
              · rw [sw_n (by decide)]; exact hR.2.2
              · rw [sw_n (by decide)]; exact hM.1
              · rw [sw_n (by decide)]; exact hM.2
              · rw [sw_o, hF m_keptOf (by decide) (by decide)]
              · intro q q1 q2 q3
                rw [sw_n q3]; exact hF q q1 q2
            · skip
              refine xi_aload_n hC dX8_mix_43 (pc' := 44) rfl rfl rfl ?_
              refine xg8_row hC dX8_mix_44 (pc' := 47) rfl xw_f_X8_7 kd_oMod ?_
              refine xi_iload_n hC dX8_mix_47 (pc' := 48) rfl rfl rfl ?_
              refine xi_iload hC dX8_mix_48 (pc' := 50) rfl rfl ?_
              refine xi_callS (As := [.int (nI o), .int (nI j)]) (rest := [.ref (b + m_row)]) (c_X8_entryAt l D b n (C := C) (S := T) (a := o) (c := j)) hC dX8_mix_50 (pc' := 53) rfl xw_m_X8_94 xw_c_X8_entryAt xw_sta_X8_entryAt xw_ini_X8 xd_X8_entryAt ⟨Nat.le_of_ble_eq_true rfl, Nat.le_of_ble_eq_true rfl⟩ rfl (Nat.le_of_ble_eq_true rfl) ⟨Nat.le_of_ble_eq_true rfl, Nat.le_of_ble_eq_true rfl⟩ ?_
              rintro _ _ ⟨rfl, rfl⟩
              show xV _ _ _ _ _ _ _ _ _ _ _ _ _ _ _ _ _ (xH D b (jn C T)) _ _ [.int (nI (30 * o + 5 * j)), .ref (b + m_row)]
              refine xi_iload hC dX8_mix_53 (pc' := 55) rfl rfl ?_
              refine xn_iadd hC dX8_mix_55 (pc' := 56) rfl ?_
              refine xt_l_i hC dX8_mix_56 (pc' := 57) rfl (N := 180) kd_m_row (by decide) (by decide) rfl (by omega) ?_
              refine xi_aload_n hC dX8_mix_57 (pc' := 58) rfl rfl rfl ?_
              refine xg8_row hC dX8_mix_58 (pc' := 61) rfl xw_f_X8_7 kd_oMod ?_
              refine xi_iload_n hC dX8_mix_61 (pc' := 62) rfl rfl rfl ?_
              refine xi_iload hC dX8_mix_62 (pc' := 64) rfl rfl ?_
              refine xi_callS (As := [.int (nI v), .int (nI j)]) (rest := [.ref (b + m_row), .int (T m_row ((30 * o + 5 * j) + j))]) (c_X8_entryAt l D b n (C := C) (S := T) (a := v) (c := j)) hC dX8_mix_64 (pc' := 67) rfl xw_m_X8_94 xw_c_X8_entryAt xw_sta_X8_entryAt xw_ini_X8 xd_X8_entryAt ⟨Nat.le_of_ble_eq_true rfl, Nat.le_of_ble_eq_true rfl⟩ rfl (Nat.le_of_ble_eq_true rfl) ⟨Nat.le_of_ble_eq_true rfl, Nat.le_of_ble_eq_true rfl⟩ ?_
              rintro _ _ ⟨rfl, rfl⟩
              show xV _ _ _ _ _ _ _ _ _ _ _ _ _ _ _ _ _ (xH D b (jn C T)) _ _ [.int (nI (30 * v + 5 * j)), .ref (b + m_row), .int (T m_row ((30 * o + 5 * j) + j))]
              refine xi_iload hC dX8_mix_67 (pc' := 69) rfl rfl ?_
              refine xn_iadd hC dX8_mix_69 (pc' := 70) rfl ?_
              refine xt_l_i hC dX8_mix_70 (pc' := 71) rfl (N := 180) kd_m_row (by decide) (by decide) rfl (by omega) ?_
              refine xi_icmple (tgt := 131) hC dX8_mix_71 (pc' := 74) rfl (by decide) (fun zc71 => ?_) (fun zc71 => ?_)
              · skip
                refine xi_aload_n hC dX8_mix_131 (pc' := 132) rfl rfl rfl ?_
                refine xg8_viewOf hC dX8_mix_132 (pc' := 135) rfl xw_f_X8_19 kd_oMod ?_
                refine xi_iload hC dX8_mix_135 (pc' := 137) rfl rfl ?_
                refine xi_aload_n hC dX8_mix_137 (pc' := 138) rfl rfl rfl ?_
                refine xg8_viewOf hC dX8_mix_138 (pc' := 141) rfl xw_f_X8_19 kd_oMod ?_
                refine xi_iload hC dX8_mix_141 (pc' := 143) rfl rfl ?_
                refine xt_l_i hC dX8_mix_143 (pc' := 144) rfl (N := 5) kd_m_viewOf (by decide) (by decide) rfl (by omega) ?_
                refine xi_iload_n hC dX8_mix_144 (pc' := 145) rfl rfl rfl ?_
                refine xi_icmpne (tgt := 152) hC dX8_mix_145 (pc' := 148) rfl (by decide) (fun zc145 => ?_) (fun zc145 => ?_)
                · skip
                  refine xi_aload_n hC dX8_mix_152 (pc' := 153) rfl rfl rfl ?_
                  refine xg8_viewOf hC dX8_mix_153 (pc' := 156) rfl xw_f_X8_19 kd_oMod ?_
                  refine xi_iload hC dX8_mix_156 (pc' := 158) rfl rfl ?_
                  refine xt_l_i hC dX8_mix_158 (pc' := 159) rfl (N := 5) kd_m_viewOf (by decide) (by decide) rfl (by omega) ?_
                  refine xt_s_i hC dX8_mix_159 (pc' := 160) rfl (N := 5) kd_m_viewOf (by decide) (by decide) rfl (by omega) ?_
                  refine xn_iinc (lv' := [some (.ref (b + oMod)), some (.int (nI v)), some (.int (nI o)), some (.int (nI cn)), some (.int (nI (j + 1)))]) hC dX8_mix_160 (pc' := 163) rfl rfl (by decide) rfl ?_
                  refine xi_goto (tgt := 34) hC dX8_mix_163 (by decide) ?_
                  refine ih34 _ _ _ (by omega) ?_ ?_ ?_ ?_ ?_
                  · omega
                  · have hmc := mixR_C hR zc22 (show j < 5 by omega)
                    first
                      | (rw [xcnt_t (hmc.mpr (i_not_le.mp zc71)), en])
                      | (rw [xcnt_f (fun q => i_not_lt.mpr zc71 (hmc.mp q)), en])
                  · have hmc := mixR_C hR zc22 (show j < 5 by omega)
                    first
                      | (rw [sw_n (by decide), sw_o, eT_2]; exact mixR_t hR zc22 (by omega) (hmc.mpr (i_not_le.mp zc71)))
                      | (rw [sw_n (by decide)]; exact mixR_f hR (by omega) (fun q => i_not_lt.mpr zc71 (hmc.mp q)))
                  · first
                      | (rw [sw_o]; exact mixV_t hM zc145)
                      | (rw [sw_o]; exact mixV_f hM zc145)
                      | (rw [sw_o, sw_n (by decide), fT_3 m_viewOf (by decide)]; exact mixV_t hM zc145)
                      | (rw [sw_o, sw_n (by decide), fT_3 m_viewOf (by decide)]; exact mixV_f hM zc145)
                  · intro q q1 q2
                    first
                      | (rw [sw_n q2, sw_n q1, fT_3 q q1]; exact hF q q1 q2)
                      | (rw [sw_n q2]; exact hF q q1 q2)
                · skip
                  refine xi_iload_n hC dX8_mix_148 (pc' := 149) rfl rfl rfl ?_
                  refine xi_goto (tgt := 159) hC dX8_mix_149 (by decide) ?_
                  refine xt_s_i hC dX8_mix_159 (pc' := 160) rfl (N := 5) kd_m_viewOf (by decide) (by decide) rfl (by omega) ?_
                  refine xn_iinc (lv' := [some (.ref (b + oMod)), some (.int (nI v)), some (.int (nI o)), some (.int (nI cn)), some (.int (nI (j + 1)))]) hC dX8_mix_160 (pc' := 163) rfl rfl (by decide) rfl ?_
                  refine xi_goto (tgt := 34) hC dX8_mix_163 (by decide) ?_
                  refine ih34 _ _ _ (by omega) ?_ ?_ ?_ ?_ ?_
                  · omega
                  · have hmc := mixR_C hR zc22 (show j < 5 by omega)
                    first
                      | (rw [xcnt_t (hmc.mpr (i_not_le.mp zc71)), en])
                      | (rw [xcnt_f (fun q => i_not_lt.mpr zc71 (hmc.mp q)), en])
                  · have hmc := mixR_C hR zc22 (show j < 5 by omega)
                    first
                      | (rw [sw_n (by decide), sw_o, eT_2]; exact mixR_t hR zc22 (by omega) (hmc.mpr (i_not_le.mp zc71)))
                      | (rw [sw_n (by decide)]; exact mixR_f hR (by omega) (fun q => i_not_lt.mpr zc71 (hmc.mp q)))
                  · first
                      | (rw [sw_o]; exact mixV_t hM zc145)
                      | (rw [sw_o]; exact mixV_f hM zc145)
                      | (rw [sw_o, sw_n (by decide), fT_3 m_viewOf (by decide)]; exact mixV_t hM zc145)
                      | (rw [sw_o, sw_n (by decide), fT_3 m_viewOf (by decide)]; exact mixV_f hM zc145)
                  · intro q q1 q2
                    first
                      | (rw [sw_n q2, sw_n q1, fT_3 q q1]; exact hF q q1 q2)
                      | (rw [sw_n q2]; exact hF q q1 q2)
              · skip
                refine xi_aload_n hC dX8_mix_74 (pc' := 75) rfl rfl rfl ?_
                refine xi_aload_n hC dX8_mix_75 (pc' := 76) rfl rfl rfl ?_
                refine xg8_row hC dX8_mix_76 (pc' := 79) rfl xw_f_X8_7 kd_oMod ?_
                refine xi_iload_n hC dX8_mix_79 (pc' := 80) rfl rfl rfl ?_
                refine xi_iload hC dX8_mix_80 (pc' := 82) rfl rfl ?_
                refine xi_callS (As := [.int (nI o), .int (nI j)]) (rest := [.ref (b + m_row), .ref (b + oMod)]) (c_X8_entryAt l D b n (C := C) (S := T) (a := o) (c := j)) hC dX8_mix_82 (pc' := 85) rfl xw_m_X8_94 xw_c_X8_entryAt xw_sta_X8_entryAt xw_ini_X8 xd_X8_entryAt ⟨Nat.le_of_ble_eq_true rfl, Nat.le_of_ble_eq_true rfl⟩ rfl (Nat.le_of_ble_eq_true rfl) ⟨Nat.le_of_ble_eq_true rfl, Nat.le_of_ble_eq_true rfl⟩ ?_
                rintro _ _ ⟨rfl, rfl⟩
                show xV _ _ _ _ _ _ _ _ _ _ _ _ _ _ _ _ _ (xH D b (jn C T)) _ _ [.int (nI (30 * o + 5 * j)), .ref (b + m_row), .ref (b + oMod)]
                refine xi_aload_n hC dX8_mix_85 (pc' := 86) rfl rfl rfl ?_
                refine xg8_row hC dX8_mix_86 (pc' := 89) rfl xw_f_X8_7 kd_oMod ?_
                refine xi_iload_n hC dX8_mix_89 (pc' := 90) rfl rfl rfl ?_
                refine xi_iload hC dX8_mix_90 (pc' := 92) rfl rfl ?_
                refine xi_callS (As := [.int (nI v), .int (nI j)]) (rest := [.ref (b + m_row), .int (nI (30 * o + 5 * j)), .ref (b + m_row), .ref (b + oMod)]) (c_X8_entryAt l D b n (C := C) (S := T) (a := v) (c := j)) hC dX8_mix_92 (pc' := 95) rfl xw_m_X8_94 xw_c_X8_entryAt xw_sta_X8_entryAt xw_ini_X8 xd_X8_entryAt ⟨Nat.le_of_ble_eq_true rfl, Nat.le_of_ble_eq_true rfl⟩ rfl (Nat.le_of_ble_eq_true rfl) ⟨Nat.le_of_ble_eq_true rfl, Nat.le_of_ble_eq_true rfl⟩ ?_
                rintro _ _ ⟨rfl, rfl⟩
                show xV _ _ _ _ _ _ _ _ _ _ _ _ _ _ _ _ _ (xH D b (jn C T)) _ _ [.int (nI (30 * v + 5 * j)), .ref (b + m_row), .int (nI (30 * o + 5 * j)), .ref (b + m_row), .ref (b + oMod)]
                refine xi_callV (As := [.ref (b + m_row), .int (nI (30 * o + 5 * j)), .ref (b + m_row), .int (nI (30 * v + 5 * j))]) (rest := []) (c_X8_copy l D b n (C := C) (S := T) (oa := m_row) (Na := 180) (ob := m_row) (Nb := 180) (fa := 30 * o + 5 * j) (fb := 30 * v + 5 * j) kd_m_row (by decide) (by decide) kd_m_row (by decide) (by decide) (by omega) (by omega)  (Or.inr (by omega))) hC dX8_mix_95 (pc' := 98) rfl xw_m_X8_108 xw_c_X8_copy xw_ins_X8_copy xw_sel_X8_copy xw_ini_X8 xd_X8_copy (xH_at.trans (xsh_8 kd_oMod)) rfl ⟨Nat.le_of_ble_eq_true rfl, Nat.le_of_ble_eq_true rfl⟩ rfl (Nat.le_of_ble_eq_true rfl) ⟨Nat.le_of_ble_eq_true rfl, Nat.le_of_ble_eq_true rfl⟩ ?_
                rintro _ _ ⟨rfl, T_1, eT_2, fT_3, rfl⟩
                show xV _ _ _ _ _ _ _ _ _ _ _ _ _ _ _ _ _ (xH D b (jn C T_1)) _ _ []
                refine xi_aload_n hC dX8_mix_98 (pc' := 99) rfl rfl rfl ?_
                refine xg8_row hC dX8_mix_99 (pc' := 102) rfl xw_f_X8_7 kd_oMod ?_
                refine xi_bipush (v := nI 30) hC dX8_mix_102 (pc' := 104) rfl (by decide +kernel) ?_
                refine xi_iload_n hC dX8_mix_104 (pc' := 105) rfl rfl rfl ?_
                refine xn_imul hC dX8_mix_105 (pc' := 106) rfl ?_
                refine xi_bipush (v := nI 25) hC dX8_mix_106 (pc' := 108) rfl (by decide +kernel) ?_
                refine xn_iadd hC dX8_mix_108 (pc' := 109) rfl ?_
                refine xi_iload hC dX8_mix_109 (pc' := 111) rfl rfl ?_
                refine xn_iadd hC dX8_mix_111 (pc' := 112) rfl ?_
                refine xi_aload_n hC dX8_mix_112 (pc' := 113) rfl rfl rfl ?_
                refine xg8_row hC dX8_mix_113 (pc' := 116) rfl xw_f_X8_7 kd_oMod ?_
                refine xi_bipush (v := nI 30) hC dX8_mix_116 (pc' := 118) rfl (by decide +kernel) ?_
                refine xi_iload_n hC dX8_mix_118 (pc' := 119) rfl rfl rfl ?_
                refine xn_imul hC dX8_mix_119 (pc' := 120) rfl ?_
                refine xi_bipush (v := nI 25) hC dX8_mix_120 (pc' := 122) rfl (by decide +kernel) ?_
                refine xn_iadd hC dX8_mix_122 (pc' := 123) rfl ?_
                refine xi_iload hC dX8_mix_123 (pc' := 125) rfl rfl ?_
                refine xn_iadd hC dX8_mix_125 (pc' := 126) rfl ?_
                refine xt_l_i hC dX8_mix_126 (pc' := 127) rfl (N := 180) kd_m_row (by decide) (by decide) rfl (by omega) ?_
                refine xt_s_i hC dX8_mix_127 (pc' := 128) rfl (N := 180) kd_m_row (by decide) (by decide) rfl (by omega) ?_
                refine xn_iinc (lv' := [some (.ref (b + oMod)), some (.int (nI v)), some (.int (nI o)), some (.int (nI (cn + 1))), some (.int (nI j))]) hC dX8_mix_128 (pc' := 131) rfl rfl (by decide) rfl ?_
                refine xi_aload_n hC dX8_mix_131 (pc' := 132) rfl rfl rfl ?_
                refine xg8_viewOf hC dX8_mix_132 (pc' := 135) rfl xw_f_X8_19 kd_oMod ?_
                refine xi_iload hC dX8_mix_135 (pc' := 137) rfl rfl ?_
                refine xi_aload_n hC dX8_mix_137 (pc' := 138) rfl rfl rfl ?_
                refine xg8_viewOf hC dX8_mix_138 (pc' := 141) rfl xw_f_X8_19 kd_oMod ?_
                refine xi_iload hC dX8_mix_141 (pc' := 143) rfl rfl ?_
                refine xt_l_i hC dX8_mix_143 (pc' := 144) rfl (N := 5) kd_m_viewOf (by decide) (by decide) rfl (by omega) ?_
                refine xtop (y := (T m_viewOf j)) (by rw [sw_n (q := m_viewOf) (o := m_row) (by first | (simp only [oMs, oVws, oScr, oSgn, oMod, oMem, oSig, oKno, oPro, oBox, oFst, oSnd, oLts, oLet, oNum, oVw, oEnt, oBef, oBk, oVs, oCon, oVec, m_row, m_keptOf, m_keptRow, m_viewOf, m_alarmOf, m_hasProof, m_depthOf, m_proofOf, m_signedOf, m_knownOf, m_doneOf, m_shownTo, m_sentBy, m_hasRead, m_readOf, m_lettersOf, m_letter, m_hand, m_text] <;> omega) | decide | omega | (simp only [oMs, oVws, oScr, oSgn, oMod, oMem, oSig, oKno, oPro, oBox, oFst, oSnd, oLts, oLet, oNum, oVw, oEnt, oBef, oBk, oVs, oCon, oVec, m_row, m_keptOf, m_keptRow, m_viewOf, m_alarmOf, m_hasProof, m_depthOf, m_proofOf, m_signedOf, m_knownOf, m_doneOf, m_shownTo, m_sentBy, m_hasRead, m_readOf, m_lettersOf, m_letter, m_hand, m_text] at * <;> omega)), fT_3 m_viewOf (by first | (simp only [oMs, oVws, oScr, oSgn, oMod, oMem, oSig, oKno, oPro, oBox, oFst, oSnd, oLts, oLet, oNum, oVw, oEnt, oBef, oBk, oVs, oCon, oVec, m_row, m_keptOf, m_keptRow, m_viewOf, m_alarmOf, m_hasProof, m_depthOf, m_proofOf, m_signedOf, m_knownOf, m_doneOf, m_shownTo, m_sentBy, m_hasRead, m_readOf, m_lettersOf, m_letter, m_hand, m_text] <;> omega) | decide | omega | (simp only [oMs, oVws, oScr, oSgn, oMod, oMem, oSig, oKno, oPro, oBox, oFst, oSnd, oLts, oLet, oNum, oVw, oEnt, oBef, oBk, oVs, oCon, oVec, m_row, m_keptOf, m_keptRow, m_viewOf, m_alarmOf, m_hasProof, m_depthOf, m_proofOf, m_signedOf, m_knownOf, m_doneOf, m_shownTo, m_sentBy, m_hasRead, m_readOf, m_lettersOf, m_letter, m_hand, m_text] at * <;> omega))]) ?_
                refine xi_iload_n hC dX8_mix_144 (pc' := 145) rfl rfl rfl ?_
                refine xi_icmpne (tgt := 152) hC dX8_mix_145 (pc' := 148) rfl (by decide) (fun zc145 => ?_) (fun zc145 => ?_)
                · skip
                  refine xi_aload_n hC dX8_mix_152 (pc' := 153) rfl rfl rfl ?_
                  refine xg8_viewOf hC dX8_mix_153 (pc' := 156) rfl xw_f_X8_19 kd_oMod ?_
                  refine xi_iload hC dX8_mix_156 (pc' := 158) rfl rfl ?_
                  refine xt_l_i hC dX8_mix_158 (pc' := 159) rfl (N := 5) kd_m_viewOf (by decide) (by decide) rfl (by omega) ?_
                  refine xtop (y := (T m_viewOf j)) (by rw [sw_n (q := m_viewOf) (o := m_row) (by first | (simp only [oMs, oVws, oScr, oSgn, oMod, oMem, oSig, oKno, oPro, oBox, oFst, oSnd, oLts, oLet, oNum, oVw, oEnt, oBef, oBk, oVs, oCon, oVec, m_row, m_keptOf, m_keptRow, m_viewOf, m_alarmOf, m_hasProof, m_depthOf, m_proofOf, m_signedOf, m_knownOf, m_doneOf, m_shownTo, m_sentBy, m_hasRead, m_readOf, m_lettersOf, m_letter, m_hand, m_text] <;> omega) | decide | omega | (simp only [oMs, oVws, oScr, oSgn, oMod, oMem, oSig, oKno, oPro, oBox, oFst, oSnd, oLts, oLet, oNum, oVw, oEnt, oBef, oBk, oVs, oCon, oVec, m_row, m_keptOf, m_keptRow, m_viewOf, m_alarmOf, m_hasProof, m_depthOf, m_proofOf, m_signedOf, m_knownOf, m_doneOf, m_shownTo, m_sentBy, m_hasRead, m_readOf, m_lettersOf, m_letter, m_hand, m_text] at * <;> omega)), fT_3 m_viewOf (by first | (simp only [oMs, oVws, oScr, oSgn, oMod, oMem, oSig, oKno, oPro, oBox, oFst, oSnd, oLts, oLet, oNum, oVw, oEnt, oBef, oBk, oVs, oCon, oVec, m_row, m_keptOf, m_keptRow, m_viewOf, m_alarmOf, m_hasProof, m_depthOf, m_proofOf, m_signedOf, m_knownOf, m_doneOf, m_shownTo, m_sentBy, m_hasRead, m_readOf, m_lettersOf, m_letter, m_hand, m_text] <;> omega) | decide | omega | (simp only [oMs, oVws, oScr, oSgn, oMod, oMem, oSig, oKno, oPro, oBox, oFst, oSnd, oLts, oLet, oNum, oVw, oEnt, oBef, oBk, oVs, oCon, oVec, m_row, m_keptOf, m_keptRow, m_viewOf, m_alarmOf, m_hasProof, m_depthOf, m_proofOf, m_signedOf, m_knownOf, m_doneOf, m_shownTo, m_sentBy, m_hasRead, m_readOf, m_lettersOf, m_letter, m_hand, m_text] at * <;> omega))]) ?_
                  refine xt_s_i hC dX8_mix_159 (pc' := 160) rfl (N := 5) kd_m_viewOf (by decide) (by decide) rfl (by omega) ?_
                  refine xn_iinc (lv' := [some (.ref (b + oMod)), some (.int (nI v)), some (.int (nI o)), some (.int (nI (cn + 1))), some (.int (nI (j + 1)))]) hC dX8_mix_160 (pc' := 163) rfl rfl (by decide) rfl ?_
                  refine xi_goto (tgt := 34) hC dX8_mix_163 (by decide) ?_
                  refine ih34 _ _ _ (by omega) ?_ ?_ ?_ ?_ ?_
                  · omega
                  · have hmc := mixR_C hR zc22 (show j < 5 by omega)
                    first
                      | (rw [xcnt_t (hmc.mpr (i_not_le.mp zc71)), en])
                      | (rw [xcnt_f (fun q => i_not_lt.mpr zc71 (hmc.mp q)), en])
                  · have hmc := mixR_C hR zc22 (show j < 5 by omega)
                    first
                      | (rw [sw_n (by decide), sw_o, eT_2]; exact mixR_t hR zc22 (by omega) (hmc.mpr (i_not_le.mp zc71)))
                      | (rw [sw_n (by decide)]; exact mixR_f hR (by omega) (fun q => i_not_lt.mpr zc71 (hmc.mp q)))
                  · first
                      | (rw [sw_o]; exact mixV_t hM zc145)
                      | (rw [sw_o]; exact mixV_f hM zc145)
                      | (rw [sw_o, sw_n (by decide), fT_3 m_viewOf (by decide)]; exact mixV_t hM zc145)
                      | (rw [sw_o, sw_n (by decide), fT_3 m_viewOf (by decide)]; exact mixV_f hM zc145)
                  · intro q q1 q2
                    first
                      | (rw [sw_n q2, sw_n q1, fT_3 q q1]; exact hF q q1 q2)
                      | (rw [sw_n q2]; exact hF q q1 q2)
                · skip
                  refine xi_iload_n hC dX8_mix_148 (pc' := 149) rfl rfl rfl ?_
                  refine xi_goto (tgt := 159) hC dX8_mix_149 (by decide) ?_
                  refine xt_s_i hC dX8_mix_159 (pc' := 160) rfl (N := 5) kd_m_viewOf (by decide) (by decide) rfl (by omega) ?_
                  refine xn_iinc (lv' := [some (.ref (b + oMod)), some (.int (nI v)), some (.int (nI o)), some (.int (nI (cn + 1))), some (.int (nI (j + 1)))]) hC dX8_mix_160 (pc' := 163) rfl rfl (by decide) rfl ?_
                  refine xi_goto (tgt := 34) hC dX8_mix_163 (by decide) ?_
                  refine ih34 _ _ _ (by omega) ?_ ?_ ?_ ?_ ?_
                  · omega
                  · have hmc := mixR_C hR zc22 (show j < 5 by omega)
                    first
                      | (rw [xcnt_t (hmc.mpr (i_not_le.mp zc71)), en])
                      | (rw [xcnt_f (fun q => i_not_lt.mpr zc71 (hmc.mp q)), en])
                  · have hmc := mixR_C hR zc22 (show j < 5 by omega)
                    first
                      | (rw [sw_n (by decide), sw_o, eT_2]; exact mixR_t hR zc22 (by omega) (hmc.mpr (i_not_le.mp zc71)))
                      | (rw [sw_n (by decide)]; exact mixR_f hR (by omega) (fun q => i_not_lt.mpr zc71 (hmc.mp q)))
                  · first
                      | (rw [sw_o]; exact mixV_t hM zc145)
                      | (rw [sw_o]; exact mixV_f hM zc145)
                      | (rw [sw_o, sw_n (by decide), fT_3 m_viewOf (by decide)]; exact mixV_t hM zc145)
                      | (rw [sw_o, sw_n (by decide), fT_3 m_viewOf (by decide)]; exact mixV_f hM zc145)
                  · intro q q1 q2
                    first
                      | (rw [sw_n q2, sw_n q1, fT_3 q q1]; exact hF q q1 q2)
                      | (rw [sw_n q2]; exact hF q q1 q2)
        refine L34 _ _ _ _ (Nat.lt_succ_self _) ?_ ?_ ?_ ?_ ?_
        · omega
        · rfl
        · exact mixR_0
        · exact mixV_0
        · intro q _ _; rfl
      · skip
        refine xi_sipush (v := -10002) hC dX8_mix_25 (pc' := 28) rfl (by decide +kernel) ?_
        refine xi_ireturn hC dX8_mix_28 hr rfl ?_
        refine ⟨_, S, rfl, ⟨fun q => absurd ⟨⟨v, hv, rfl⟩, ⟨o, ho, rfl⟩⟩ q, fun v' o' hv' ho' e1 e2 => ?_⟩, rfl⟩
        obtain rfl := nI_inj (by omega) (by omega) e1
        obtain rfl := nI_inj (by omega) (by omega) e2
        exact ⟨fun _ => ⟨rfl, rfl⟩, fun q => absurd zc22 q⟩
    · skip
      refine xi_sipush (v := -10001) hC dX8_mix_16 (pc' := 19) rfl (by decide +kernel) ?_
      refine xi_ireturn hC dX8_mix_19 hr rfl ?_
      exact ⟨_, S, rfl, ⟨fun _ => ⟨rfl, rfl⟩, fun i j h1 h2 e1 e2 => by first | exact absurd (show ∃ k, _ from ⟨j, h2, e2⟩) zc13 | exact absurd (show ∃ k, _ from ⟨i, h1, e1⟩) zc5⟩, rfl⟩

set_option maxRecDepth 100000 in
set_option maxHeartbeats 4000000 in
theorem c_X8_sendLetter (l : Launch) (D : XD) (b n : Nat) {C S : XM} {u w : Nat} (hW : MW S u w) {x y : Int32} : xM l yX8_sendLetter cX8_sendLetter 3 (some .int) 2 43 0 0 D b n [.ref (b + oMod), .int x, .int y] (xH D b (jn C S)) n (fun y' h' => ∃ (r : Int32) (T : XM), y' = some (.int r) ∧ s_send S u x y r T ∧ h' = xH D b (jn C T)) := by
  refine xM.of (lv := [some (.ref (b + oMod)), some (.int x), some (.int y)]) (by decide +kernel) rfl (List.forall_mem_cons.mpr ⟨rfl, List.forall_mem_cons.mpr ⟨rfl, List.forall_mem_cons.mpr ⟨rfl, fun _ h => absurd h List.not_mem_nil⟩⟩⟩) (Nat.le_of_ble_eq_true rfl) rfl ?_
  intro p e s m args below meth c hC hr hnm
  obtain ⟨hU, hN, hVw, hKp, hLt, hTx, hAl⟩ := id hW
  obtain ⟨hu, hu2, hu5⟩ := id hU
  obtain ⟨hn, hw1, hw6⟩ := id hN
  refine xi_aload_n hC dX8_sendLetter_0 (pc' := 1) rfl rfl rfl ?_
  refine xi_iload_n hC dX8_sendLetter_1 (pc' := 2) rfl rfl rfl ?_
  refine xi_callV (As := [.int x]) (rest := []) (c_X8_noUser l D b n (C := C) (S := S) (x := x) hU) hC dX8_sendLetter_2 (pc' := 5) rfl xw_m_X8_126 xw_c_X8_noUser xw_ins_X8_noUser xw_sel_X8_noUser xw_ini_X8 xd_X8_noUser (xH_at.trans (xsh_8 kd_oMod)) rfl ⟨Nat.le_of_ble_eq_true rfl, Nat.le_of_ble_eq_true rfl⟩ rfl (Nat.le_of_ble_eq_true rfl) ⟨Nat.le_of_ble_eq_true rfl, Nat.le_of_ble_eq_true rfl⟩ ?_
  rintro _ _ ⟨rfl, rfl⟩
  show xV _ _ _ _ _ _ _ _ _ _ _ _ _ _ _ _ _ (xH D b (jn C S)) _ _ [.int (bI (¬ isU u x))]
  refine xb_ifne (tgt := 16) hC dX8_sendLetter_5 (pc' := 8) rfl (by decide) (fun zc5 => ?_) (fun zc5 => ?_)
  · skip
    refine xi_sipush (v := -10001) hC dX8_sendLetter_16 (pc' := 19) rfl (by decide +kernel) ?_
    refine xi_ireturn hC dX8_sendLetter_19 hr rfl ?_
    exact ⟨_, S, rfl, ⟨fun _ => ⟨rfl, rfl⟩, fun i j h1 h2 e1 e2 => by first | exact absurd (show ∃ k, _ from ⟨j, h2, e2⟩) zc13 | exact absurd (show ∃ k, _ from ⟨i, h1, e1⟩) zc5⟩, rfl⟩
  · skip
    refine xi_aload_n hC dX8_sendLetter_8 (pc' := 9) rfl rfl rfl ?_
    refine xi_iload_n hC dX8_sendLetter_9 (pc' := 10) rfl rfl rfl ?_
    refine xi_callV (As := [.int y]) (rest := []) (c_X8_noUser l D b n (C := C) (S := S) (x := y) hU) hC dX8_sendLetter_10 (pc' := 13) rfl xw_m_X8_126 xw_c_X8_noUser xw_ins_X8_noUser xw_sel_X8_noUser xw_ini_X8 xd_X8_noUser (xH_at.trans (xsh_8 kd_oMod)) rfl ⟨Nat.le_of_ble_eq_true rfl, Nat.le_of_ble_eq_true rfl⟩ rfl (Nat.le_of_ble_eq_true rfl) ⟨Nat.le_of_ble_eq_true rfl, Nat.le_of_ble_eq_true rfl⟩ ?_
    rintro _ _ ⟨rfl, rfl⟩
    show xV _ _ _ _ _ _ _ _ _ _ _ _ _ _ _ _ _ (xH D b (jn C S)) _ _ [.int (bI (¬ isU u y))]
    refine xb_ifeq (tgt := 20) hC dX8_sendLetter_13 (pc' := 16) rfl (by decide) (fun zc13 => ?_) (fun zc13 => ?_)
    · skip
      obtain ⟨i, hi, rfl⟩ := Classical.not_not.mp zc5
      obtain ⟨j, hj, rfl⟩ := Classical.not_not.mp zc13
      obtain ⟨z, hz4, hz⟩ := hLt j (by omega)
      refine xi_iload_n hC dX8_sendLetter_20 (pc' := 21) rfl rfl rfl ?_
      refine xi_iload_n hC dX8_sendLetter_21 (pc' := 22) rfl rfl rfl ?_
      refine xn_icmpne (tgt := 29) hC dX8_sendLetter_22 (pc' := 25) rfl (by decide) (by omega) (by omega) (fun zc22 => ?_) (fun zc22 => ?_)
      · skip
        refine xi_aload_n hC dX8_sendLetter_29 (pc' := 30) rfl rfl rfl ?_
        refine xg8_lettersOf hC dX8_sendLetter_30 (pc' := 33) rfl xw_f_X8_56 kd_oMod ?_
        refine xi_iload_n hC dX8_sendLetter_33 (pc' := 34) rfl rfl rfl ?_
        refine xt_l_i hC dX8_sendLetter_34 (pc' := 35) rfl (N := 5) kd_m_lettersOf (by decide) (by decide) rfl (by omega) ?_
        refine xtop (y := (nI z)) (hz) ?_
        refine xi_iconst (v := nI 4) hC dX8_sendLetter_35 (pc' := 36) rfl (by decide +kernel) ?_
        refine xn_icmpne (tgt := 43) hC dX8_sendLetter_36 (pc' := 39) rfl (by decide) (by omega) (by omega) (fun zc36 => ?_) (fun zc36 => ?_)
        · skip
          refine xi_aload_n hC dX8_sendLetter_43 (pc' := 44) rfl rfl rfl ?_
          refine xi_aload_n hC dX8_sendLetter_44 (pc' := 45) rfl rfl rfl ?_
          refine xg8_knownOf hC dX8_sendLetter_45 (pc' := 48) rfl xw_f_X8_38 kd_oMod ?_
          refine xi_iconst (v := nI 5) hC dX8_sendLetter_48 (pc' := 49) rfl (by decide +kernel) ?_
          refine xi_iload_n hC dX8_sendLetter_49 (pc' := 50) rfl rfl rfl ?_
          refine xn_imul hC dX8_sendLetter_50 (pc' := 51) rfl ?_
          refine xi_aload_n hC dX8_sendLetter_51 (pc' := 52) rfl rfl rfl ?_
          refine xg8_letter hC dX8_sendLetter_52 (pc' := 55) rfl xw_f_X8_59 kd_oMod ?_
          refine xi_bipush (v := nI 20) hC dX8_sendLetter_55 (pc' := 57) rfl (by decide +kernel) ?_
          refine xi_iload_n hC dX8_sendLetter_57 (pc' := 58) rfl rfl rfl ?_
          refine xn_imul hC dX8_sendLetter_58 (pc' := 59) rfl ?_
          refine xi_iconst (v := nI 5) hC dX8_sendLetter_59 (pc' := 60) rfl (by decide +kernel) ?_
          refine xi_aload_n hC dX8_sendLetter_60 (pc' := 61) rfl rfl rfl ?_
          refine xg8_lettersOf hC dX8_sendLetter_61 (pc' := 64) rfl xw_f_X8_56 kd_oMod ?_
          refine xi_iload_n hC dX8_sendLetter_64 (pc' := 65) rfl rfl rfl ?_
          refine xt_l_i hC dX8_sendLetter_65 (pc' := 66) rfl (N := 5) kd_m_lettersOf (by decide) (by decide) rfl (by omega) ?_
          refine xtop (y := (nI z)) (hz) ?_
          refine xn_imul hC dX8_sendLetter_66 (pc' := 67) rfl ?_
          refine xn_iadd hC dX8_sendLetter_67 (pc' := 68) rfl ?_
          refine xi_callV (As := [.ref (b + m_knownOf), .int (nI (5 * i)), .ref (b + m_letter), .int (nI ((20 * j) + (5 * z)))]) (rest := []) (c_X8_copy l D b n (C := C) (S := S) (oa := m_knownOf) (Na := 25) (ob := m_letter) (Nb := 100) (fa := 5 * i) (fb := (20 * j) + (5 * z)) kd_m_knownOf (by decide) (by decide) kd_m_letter (by decide) (by decide) (by omega) (by omega)  (Or.inl (by decide))) hC dX8_sendLetter_68 (pc' := 71) rfl xw_m_X8_108 xw_c_X8_copy xw_ins_X8_copy xw_sel_X8_copy xw_ini_X8 xd_X8_copy (xH_at.trans (xsh_8 kd_oMod)) rfl ⟨Nat.le_of_ble_eq_true rfl, Nat.le_of_ble_eq_true rfl⟩ rfl (Nat.le_of_ble_eq_true rfl) ⟨Nat.le_of_ble_eq_true rfl, Nat.le_of_ble_eq_true rfl⟩ ?_
          rintro _ _ ⟨rfl, T_1, eT_2, fT_3, rfl⟩
          show xV _ _ _ _ _ _ _ _ _ _ _ _ _ _ _ _ _ (xH D b (jn C T_1)) _ _ []
          refine xi_aload_n hC dX8_sendLetter_71 (pc' := 72) rfl rfl rfl ?_
          refine xg8_lettersOf hC dX8_sendLetter_72 (pc' := 75) rfl xw_f_X8_56 kd_oMod ?_
          refine xi_iload_n hC dX8_sendLetter_75 (pc' := 76) rfl rfl rfl ?_
          refine xi_dup2 hC dX8_sendLetter_76 (pc' := 77) rfl rfl rfl ?_
          refine xt_l_i hC dX8_sendLetter_77 (pc' := 78) rfl (N := 5) kd_m_lettersOf (by decide) (by decide) rfl (by omega) ?_
          refine xtop (y := (S m_lettersOf j)) (by rw [fT_3 m_lettersOf (by first | (simp only [oMs, oVws, oScr, oSgn, oMod, oMem, oSig, oKno, oPro, oBox, oFst, oSnd, oLts, oLet, oNum, oVw, oEnt, oBef, oBk, oVs, oCon, oVec, m_row, m_keptOf, m_keptRow, m_viewOf, m_alarmOf, m_hasProof, m_depthOf, m_proofOf, m_signedOf, m_knownOf, m_doneOf, m_shownTo, m_sentBy, m_hasRead, m_readOf, m_lettersOf, m_letter, m_hand, m_text] <;> omega) | decide | omega | (simp only [oMs, oVws, oScr, oSgn, oMod, oMem, oSig, oKno, oPro, oBox, oFst, oSnd, oLts, oLet, oNum, oVw, oEnt, oBef, oBk, oVs, oCon, oVec, m_row, m_keptOf, m_keptRow, m_viewOf, m_alarmOf, m_hasProof, m_depthOf, m_proofOf, m_signedOf, m_knownOf, m_doneOf, m_shownTo, m_sentBy, m_hasRead, m_readOf, m_lettersOf, m_letter, m_hand, m_text] at * <;> omega))]) ?_
          refine xtop (y := (nI z)) (hz) ?_
          refine xi_iconst (v := nI 1) hC dX8_sendLetter_78 (pc' := 79) rfl (by decide +kernel) ?_
          refine xn_iadd hC dX8_sendLetter_79 (pc' := 80) rfl ?_
          refine xt_s_i hC dX8_sendLetter_80 (pc' := 81) rfl (N := 5) kd_m_lettersOf (by decide) (by decide) rfl (by omega) ?_
          refine xi_aload_n hC dX8_sendLetter_81 (pc' := 82) rfl rfl rfl ?_
          refine xg8_sentBy hC dX8_sendLetter_82 (pc' := 85) rfl xw_f_X8_47 kd_oMod ?_
          refine xi_iload_n hC dX8_sendLetter_85 (pc' := 86) rfl rfl rfl ?_
          refine xi_dup2 hC dX8_sendLetter_86 (pc' := 87) rfl rfl rfl ?_
          refine xt_l_i hC dX8_sendLetter_87 (pc' := 88) rfl (N := 5) kd_m_sentBy (by decide) (by decide) rfl (by omega) ?_
          refine xtop (y := (S m_sentBy i)) (by rw [sw_n (q := m_sentBy) (o := m_lettersOf) (by first | (simp only [oMs, oVws, oScr, oSgn, oMod, oMem, oSig, oKno, oPro, oBox, oFst, oSnd, oLts, oLet, oNum, oVw, oEnt, oBef, oBk, oVs, oCon, oVec, m_row, m_keptOf, m_keptRow, m_viewOf, m_alarmOf, m_hasProof, m_depthOf, m_proofOf, m_signedOf, m_knownOf, m_doneOf, m_shownTo, m_sentBy, m_hasRead, m_readOf, m_lettersOf, m_letter, m_hand, m_text] <;> omega) | decide | omega | (simp only [oMs, oVws, oScr, oSgn, oMod, oMem, oSig, oKno, oPro, oBox, oFst, oSnd, oLts, oLet, oNum, oVw, oEnt, oBef, oBk, oVs, oCon, oVec, m_row, m_keptOf, m_keptRow, m_viewOf, m_alarmOf, m_hasProof, m_depthOf, m_proofOf, m_signedOf, m_knownOf, m_doneOf, m_shownTo, m_sentBy, m_hasRead, m_readOf, m_lettersOf, m_letter, m_hand, m_text] at * <;> omega)), fT_3 m_sentBy (by first | (simp only [oMs, oVws, oScr, oSgn, oMod, oMem, oSig, oKno, oPro, oBox, oFst, oSnd, oLts, oLet, oNum, oVw, oEnt, oBef, oBk, oVs, oCon, oVec, m_row, m_keptOf, m_keptRow, m_viewOf, m_alarmOf, m_hasProof, m_depthOf, m_proofOf, m_signedOf, m_knownOf, m_doneOf, m_shownTo, m_sentBy, m_hasRead, m_readOf, m_lettersOf, m_letter, m_hand, m_text] <;> omega) | decide | omega | (simp only [oMs, oVws, oScr, oSgn, oMod, oMem, oSig, oKno, oPro, oBox, oFst, oSnd, oLts, oLet, oNum, oVw, oEnt, oBef, oBk, oVs, oCon, oVec, m_row, m_keptOf, m_keptRow, m_viewOf, m_alarmOf, m_hasProof, m_depthOf, m_proofOf, m_signedOf, m_knownOf, m_doneOf, m_shownTo, m_sentBy, m_hasRead, m_readOf, m_lettersOf, m_letter, m_hand, m_text] at * <;> omega))]) ?_
          refine xi_aload_n hC dX8_sendLetter_88 (pc' := 89) rfl rfl rfl ?_
          refine xt_g_users hC dX8_sendLetter_89 (pc' := 92) rfl xw_f_X8_73 ?_
          refine xtop (y := (S oMod 0)) (by rw [sw_n (q := oMod) (o := m_lettersOf) (by first | (simp only [oMs, oVws, oScr, oSgn, oMod, oMem, oSig, oKno, oPro, oBox, oFst, oSnd, oLts, oLet, oNum, oVw, oEnt, oBef, oBk, oVs, oCon, oVec, m_row, m_keptOf, m_keptRow, m_viewOf, m_alarmOf, m_hasProof, m_depthOf, m_proofOf, m_signedOf, m_knownOf, m_doneOf, m_shownTo, m_sentBy, m_hasRead, m_readOf, m_lettersOf, m_letter, m_hand, m_text] <;> omega) | decide | omega | (simp only [oMs, oVws, oScr, oSgn, oMod, oMem, oSig, oKno, oPro, oBox, oFst, oSnd, oLts, oLet, oNum, oVw, oEnt, oBef, oBk, oVs, oCon, oVec, m_row, m_keptOf, m_keptRow, m_viewOf, m_alarmOf, m_hasProof, m_depthOf, m_proofOf, m_signedOf, m_knownOf, m_doneOf, m_shownTo, m_sentBy, m_hasRead, m_readOf, m_lettersOf, m_letter, m_hand, m_text] at * <;> omega)), fT_3 oMod (by first | (simp only [oMs, oVws, oScr, oSgn, oMod, oMem, oSig, oKno, oPro, oBox, oFst, oSnd, oLts, oLet, oNum, oVw, oEnt, oBef, oBk, oVs, oCon, oVec, m_row, m_keptOf, m_keptRow, m_viewOf, m_alarmOf, m_hasProof, m_depthOf, m_proofOf, m_signedOf, m_knownOf, m_doneOf, m_shownTo, m_sentBy, m_hasRead, m_readOf, m_lettersOf, m_letter, m_hand, m_text] <;> omega) | decide | omega | (simp only [oMs, oVws, oScr, oSgn, oMod, oMem, oSig, oKno, oPro, oBox, oFst, oSnd, oLts, oLet, oNum, oVw, oEnt, oBef, oBk, oVs, oCon, oVec, m_row, m_keptOf, m_keptRow, m_viewOf, m_alarmOf, m_hasProof, m_depthOf, m_proofOf, m_signedOf, m_knownOf, m_doneOf, m_shownTo, m_sentBy, m_hasRead, m_readOf, m_lettersOf, m_letter, m_hand, m_text] at * <;> omega))]) ?_
          refine xtop (y := (nI u)) (hu) ?_
          refine xi_iadd hC dX8_sendLetter_92 (pc' := 93) rfl ?_
          refine xt_s_i hC dX8_sendLetter_93 (pc' := 94) rfl (N := 5) kd_m_sentBy (by decide) (by decide) rfl (by omega) ?_
          refine xi_aload_n hC dX8_sendLetter_94 (pc' := 95) rfl rfl rfl ?_
          refine xg8_lettersOf hC dX8_sendLetter_95 (pc' := 98) rfl xw_f_X8_56 kd_oMod ?_
          refine xi_iload_n hC dX8_sendLetter_98 (pc' := 99) rfl rfl rfl ?_
          refine xt_l_i hC dX8_sendLetter_99 (pc' := 100) rfl (N := 5) kd_m_lettersOf (by decide) (by decide) rfl (by omega) ?_
          refine xtop (y := (nI (z + 1))) (by rw [sw_n (q := m_lettersOf) (o := m_sentBy) (by first | (simp only [oMs, oVws, oScr, oSgn, oMod, oMem, oSig, oKno, oPro, oBox, oFst, oSnd, oLts, oLet, oNum, oVw, oEnt, oBef, oBk, oVs, oCon, oVec, m_row, m_keptOf, m_keptRow, m_viewOf, m_alarmOf, m_hasProof, m_depthOf, m_proofOf, m_signedOf, m_knownOf, m_doneOf, m_shownTo, m_sentBy, m_hasRead, m_readOf, m_lettersOf, m_letter, m_hand, m_text] <;> omega) | decide | omega | (simp only [oMs, oVws, oScr, oSgn, oMod, oMem, oSig, oKno, oPro, oBox, oFst, oSnd, oLts, oLet, oNum, oVw, oEnt, oBef, oBk, oVs, oCon, oVec, m_row, m_keptOf, m_keptRow, m_viewOf, m_alarmOf, m_hasProof, m_depthOf, m_proofOf, m_signedOf, m_knownOf, m_doneOf, m_shownTo, m_sentBy, m_hasRead, m_readOf, m_lettersOf, m_letter, m_hand, m_text] at * <;> omega)), sw_s]) ?_
          refine xi_ireturn hC dX8_sendLetter_100 hr rfl ?_
          refine ⟨_, _, rfl, ⟨fun q => absurd ⟨⟨i, hi, rfl⟩, ⟨j, hj, rfl⟩⟩ q, fun i' j' hi' hj' e1 e2 => ?_⟩, rfl⟩
          obtain rfl := nI_inj (by omega) (by omega) e1
          obtain rfl := nI_inj (by omega) (by omega) e2
          refine ⟨fun q => absurd q zc22, fun _ z' hz' e3 => ?_⟩
          obtain rfl := nI_inj (by omega) (by omega) (hz.symm.trans e3)
          refine ⟨fun q => absurd q zc36, fun _ => ⟨rfl, ?_, ?_, ?_, fun q q1 q2 q3 => ?_⟩⟩
          · rw [sw_n (by decide), sw_n (by decide), eT_2]; rfl
          · rw [sw_n (by decide), sw_o, fT_3 _ (by decide)]
          · rw [sw_o, sw_n (by decide), fT_3 _ (by decide)]
          · rw [sw_n q3, sw_n q2, fT_3 q q1]
        · skip
          refine xi_sipush (v := -10004) hC dX8_sendLetter_39 (pc' := 42) rfl (by decide +kernel) ?_
          refine xi_ireturn hC dX8_sendLetter_42 hr rfl ?_
          refine ⟨_, S, rfl, ⟨fun q => absurd ⟨⟨i, hi, rfl⟩, ⟨j, hj, rfl⟩⟩ q, fun i' j' hi' hj' e1 e2 => ?_⟩, rfl⟩
          obtain rfl := nI_inj (by omega) (by omega) e1
          obtain rfl := nI_inj (by omega) (by omega) e2
          refine ⟨fun q => absurd q zc22, fun _ z' hz' e3 => ?_⟩
          obtain rfl := nI_inj (by omega) (by omega) (hz.symm.trans e3)
          exact ⟨fun _ => ⟨rfl, rfl⟩, fun q => absurd zc36 q⟩
      · skip
        refine xi_sipush (v := -10002) hC dX8_sendLetter_25 (pc' := 28) rfl (by decide +kernel) ?_
        refine xi_ireturn hC dX8_sendLetter_28 hr rfl ?_
        refine ⟨_, S, rfl, ⟨fun q => absurd ⟨⟨i, hi, rfl⟩, ⟨j, hj, rfl⟩⟩ q, fun i' j' hi' hj' e1 e2 => ?_⟩, rfl⟩
        obtain rfl := nI_inj (by omega) (by omega) e1
        obtain rfl := nI_inj (by omega) (by omega) e2
        exact ⟨fun _ => ⟨rfl, rfl⟩, fun q => absurd zc22 q⟩
    · skip
      refine xi_sipush (v := -10001) hC dX8_sendLetter_16 (pc' := 19) rfl (by decide +kernel) ?_
      refine xi_ireturn hC dX8_sendLetter_19 hr rfl ?_
      exact ⟨_, S, rfl, ⟨fun _ => ⟨rfl, rfl⟩, fun i j h1 h2 e1 e2 => by first | exact absurd (show ∃ k, _ from ⟨j, h2, e2⟩) zc13 | exact absurd (show ∃ k, _ from ⟨i, h1, e1⟩) zc5⟩, rfl⟩

set_option maxRecDepth 100000 in
set_option maxHeartbeats 4000000 in
theorem c_X8_takesLetter (l : Launch) (D : XD) (b n : Nat) {C S : XM} {i z : Nat} (hi : i < 5) (hz : S m_lettersOf i = nI z) (hz0 : z ≠ 0) (hz4 : z ≤ 4) : xM l yX8_takesLetter cX8_takesLetter 3 none 1 25 0 0 D b n [.ref (b + oMod), .int (nI i)] (xH D b (jn C S)) n (fun y' h' => y' = none ∧ ∃ T : XM, mTake S i z T ∧ h' = xH D b (jn C T)) := by
  refine xM.of (lv := [some (.ref (b + oMod)), some (.int (nI i)), none]) (by decide +kernel) rfl (List.forall_mem_cons.mpr ⟨rfl, List.forall_mem_cons.mpr ⟨rfl, fun _ h => absurd h List.not_mem_nil⟩⟩) (Nat.le_of_ble_eq_true rfl) rfl ?_
  intro p e s m args below meth c hC hr hnm
  refine xi_aload_n hC dX8_takesLetter_0 (pc' := 1) rfl rfl rfl ?_
  refine xi_aload_n hC dX8_takesLetter_1 (pc' := 2) rfl rfl rfl ?_
  refine xg8_letter hC dX8_takesLetter_2 (pc' := 5) rfl xw_f_X8_59 kd_oMod ?_
  refine xi_bipush (v := nI 20) hC dX8_takesLetter_5 (pc' := 7) rfl (by decide +kernel) ?_
  refine xi_iload_n hC dX8_takesLetter_7 (pc' := 8) rfl rfl rfl ?_
  refine xn_imul hC dX8_takesLetter_8 (pc' := 9) rfl ?_
  refine xi_aload_n hC dX8_takesLetter_9 (pc' := 10) rfl rfl rfl ?_
  refine xg8_hand hC dX8_takesLetter_10 (pc' := 13) rfl xw_f_X8_62 kd_oMod ?_
  refine xi_iconst (v := nI 0) hC dX8_takesLetter_13 (pc' := 14) rfl (by decide +kernel) ?_
  refine xi_callV (As := [.ref (b + m_letter), .int (nI (20 * i)), .ref (b + m_hand), .int (nI 0)]) (rest := []) (c_X8_copy l D b n (C := C) (S := S) (oa := m_letter) (Na := 100) (ob := m_hand) (Nb := 5) (fa := 20 * i) (fb := 0) kd_m_letter (by decide) (by decide) kd_m_hand (by decide) (by decide) (by omega) (by omega)  (Or.inl (by decide))) hC dX8_takesLetter_14 (pc' := 17) rfl xw_m_X8_108 xw_c_X8_copy xw_ins_X8_copy xw_sel_X8_copy xw_ini_X8 xd_X8_copy (xH_at.trans (xsh_8 kd_oMod)) rfl ⟨Nat.le_of_ble_eq_true rfl, Nat.le_of_ble_eq_true rfl⟩ rfl (Nat.le_of_ble_eq_true rfl) ⟨Nat.le_of_ble_eq_true rfl, Nat.le_of_ble_eq_true rfl⟩ ?_
  rintro _ _ ⟨rfl, T_1, eT_2, fT_3, rfl⟩
  show xV _ _ _ _ _ _ _ _ _ _ _ _ _ _ _ _ _ (xH D b (jn C T_1)) _ _ []
  refine xi_aload_n hC dX8_takesLetter_17 (pc' := 18) rfl rfl rfl ?_
  refine xg8_lettersOf hC dX8_takesLetter_18 (pc' := 21) rfl xw_f_X8_56 kd_oMod ?_
  refine xi_iload_n hC dX8_takesLetter_21 (pc' := 22) rfl rfl rfl ?_
  refine xi_dup2 hC dX8_takesLetter_22 (pc' := 23) rfl rfl rfl ?_
  refine xt_l_i hC dX8_takesLetter_23 (pc' := 24) rfl (N := 5) kd_m_lettersOf (by decide) (by decide) rfl (by omega) ?_
  refine xtop (y := (S m_lettersOf i)) (by rw [fT_3 m_lettersOf (by first | (simp only [oMs, oVws, oScr, oSgn, oMod, oMem, oSig, oKno, oPro, oBox, oFst, oSnd, oLts, oLet, oNum, oVw, oEnt, oBef, oBk, oVs, oCon, oVec, m_row, m_keptOf, m_keptRow, m_viewOf, m_alarmOf, m_hasProof, m_depthOf, m_proofOf, m_signedOf, m_knownOf, m_doneOf, m_shownTo, m_sentBy, m_hasRead, m_readOf, m_lettersOf, m_letter, m_hand, m_text] <;> omega) | decide | omega | (simp only [oMs, oVws, oScr, oSgn, oMod, oMem, oSig, oKno, oPro, oBox, oFst, oSnd, oLts, oLet, oNum, oVw, oEnt, oBef, oBk, oVs, oCon, oVec, m_row, m_keptOf, m_keptRow, m_viewOf, m_alarmOf, m_hasProof, m_depthOf, m_proofOf, m_signedOf, m_knownOf, m_doneOf, m_shownTo, m_sentBy, m_hasRead, m_readOf, m_lettersOf, m_letter, m_hand, m_text] at * <;> omega))]) ?_
  refine xtop (y := (nI z)) (hz) ?_
  refine xi_iconst (v := nI 1) hC dX8_takesLetter_24 (pc' := 25) rfl (by decide +kernel) ?_
  refine xn_isub hC dX8_takesLetter_25 (pc' := 26) rfl (by omega) ?_
  refine xt_s_i hC dX8_takesLetter_26 (pc' := 27) rfl (N := 5) kd_m_lettersOf (by decide) (by decide) rfl (by omega) ?_
  refine xi_bipush (v := nI 20) hC dX8_takesLetter_27 (pc' := 29) rfl (by decide +kernel) ?_
  refine xi_iload_n hC dX8_takesLetter_29 (pc' := 30) rfl rfl rfl ?_
  refine xn_imul hC dX8_takesLetter_30 (pc' := 31) rfl ?_
  refine xi_istore_n (lv' := [some (.ref (b + oMod)), some (.int (nI i)), some (.int (nI (20 * i)))]) hC dX8_takesLetter_31 (pc' := 32) rfl rfl (by decide) rfl ?_
  refine xstate (congrArg (jn C) ((su_self (o := m_letter)).trans (congrArg (su _ m_letter) (show (sw T_1 m_lettersOf i (nI (z - 1))) m_letter = cpy 0 (S m_letter) (20 * i) (sl (S m_letter) (20 * i + 5)) from by rw [sw_n (by decide), fT_3 m_letter (by decide), cpy_0])))) ?_
  have L32 : ∀ (d : Nat) (j : Nat), 100 - j < d → (j ≤ 5 * (z - 1)) → xV p l e (xR 1 25 0 0) s m args below meth c D b 3 0 0 (MQ below (xQ D b n (fun y' h' => y' = none ∧ ∃ T : XM, mTake S i z T ∧ h' = xH D b (jn C T))) args s 0 0 (fun q => b ≤ q)) n (xH D b (jn C (su (sw T_1 m_lettersOf i (nI (z - 1))) m_letter (cpy j (S m_letter) (20 * i) (sl (S m_letter) (20 * i + 5)))))) 32 [some (.ref (b + oMod)), some (.int (nI i)), some (.int (nI (20 * i + j)))] [] := by
    intro d
    induction d with
    | zero => intro j h; exact absurd h (Nat.not_lt_zero _)
    | succ d ih32 =>
      intro j hd32 hj
      refine xi_iload_n hC dX8_takesLetter_32 (pc' := 33) rfl rfl rfl ?_
      refine xi_bipush (v := nI 20) hC dX8_takesLetter_33 (pc' := 35) rfl (by decide +kernel) ?_
      refine xi_iload_n hC dX8_takesLetter_35 (pc' := 36) rfl rfl rfl ?_
      refine xn_imul hC dX8_takesLetter_36 (pc' := 37) rfl ?_
      refine xi_iconst (v := nI 5) hC dX8_takesLetter_37 (pc' := 38) rfl (by decide +kernel) ?_
      refine xi_aload_n hC dX8_takesLetter_38 (pc' := 39) rfl rfl rfl ?_
      refine xg8_lettersOf hC dX8_takesLetter_39 (pc' := 42) rfl xw_f_X8_56 kd_oMod ?_
      refine xi_iload_n hC dX8_takesLetter_42 (pc' := 43) rfl rfl rfl ?_
      refine xt_l_i hC dX8_takesLetter_43 (pc' := 44) rfl (N := 5) kd_m_lettersOf (by decide) (by decide) rfl (by omega) ?_
      refine xtop (y := (nI (z - 1))) (by rw [su_n (q := m_lettersOf) (o := m_letter) (by first | (simp only [oMs, oVws, oScr, oSgn, oMod, oMem, oSig, oKno, oPro, oBox, oFst, oSnd, oLts, oLet, oNum, oVw, oEnt, oBef, oBk, oVs, oCon, oVec, m_row, m_keptOf, m_keptRow, m_viewOf, m_alarmOf, m_hasProof, m_depthOf, m_proofOf, m_signedOf, m_knownOf, m_doneOf, m_shownTo, m_sentBy, m_hasRead, m_readOf, m_lettersOf, m_letter, m_hand, m_text] <;> omega) | decide | omega | (simp only [oMs, oVws, oScr, oSgn, oMod, oMem, oSig, oKno, oPro, oBox, oFst, oSnd, oLts, oLet, oNum, oVw, oEnt, oBef, oBk, oVs, oCon, oVec, m_row, m_keptOf, m_keptRow, m_viewOf, m_alarmOf, m_hasProof, m_depthOf, m_proofOf, m_signedOf, m_knownOf, m_doneOf, m_shownTo, m_sentBy, m_hasRead, m_readOf, m_lettersOf, m_letter, m_hand, m_text] at * <;> omega)), sw_s]) ?_
      refine xn_imul hC dX8_takesLetter_44 (pc' := 45) rfl ?_
      refine xn_iadd hC dX8_takesLetter_45 (pc' := 46) rfl ?_
      refine xn_icmpge (tgt := 69) hC dX8_takesLetter_46 (pc' := 49) rfl (by decide) (by omega) (by omega) (fun zc46 => ?_) (fun zc46 => ?_)
      · skip
        refine xi_return hC dX8_takesLetter_69 hr rfl ?_
        refine ⟨rfl, _, ⟨?_, ?_, ?_, fun q q1 q2 q3 => ?_⟩, rfl⟩
        · rw [su_n (by decide), sw_n (by decide), eT_2]
        · rw [su_n (by decide), sw_o, fT_3 _ (by decide)]
        · rw [su_s, show j = 5 * (z - 1) by omega]
        · rw [su_n q3, sw_n q2, fT_3 q q1]
      · skip
        refine xi_aload_n hC dX8_takesLetter_49 (pc' := 50) rfl rfl rfl ?_
        refine xg8_letter hC dX8_takesLetter_50 (pc' := 53) rfl xw_f_X8_59 kd_oMod ?_
        refine xi_iload_n hC dX8_takesLetter_53 (pc' := 54) rfl rfl rfl ?_
        refine xi_aload_n hC dX8_takesLetter_54 (pc' := 55) rfl rfl rfl ?_
        refine xg8_letter hC dX8_takesLetter_55 (pc' := 58) rfl xw_f_X8_59 kd_oMod ?_
        refine xi_iload_n hC dX8_takesLetter_58 (pc' := 59) rfl rfl rfl ?_
        refine xi_iconst (v := nI 5) hC dX8_takesLetter_59 (pc' := 60) rfl (by decide +kernel) ?_
        refine xn_iadd hC dX8_takesLetter_60 (pc' := 61) rfl ?_
        refine xt_l_i hC dX8_takesLetter_61 (pc' := 62) rfl (N := 100) kd_m_letter (by decide) (by decide) rfl (by omega) ?_
        refine xtop (y := ((cpy j (S m_letter) (20 * i) (sl (S m_letter) (20 * i + 5))) ((20 * i + j) + 5))) (by rw [su_s]) ?_
        refine xtop (y := (sl (S m_letter) (20 * i + 5) j)) ((cpy_out (by omega)).trans (congrArg (S m_letter) (by omega))) ?_
        refine xt_s_i hC dX8_takesLetter_62 (pc' := 63) rfl (N := 100) kd_m_letter (by decide) (by decide) rfl (by omega) ?_
        refine xstate (congrArg (jn C) sw_su) ?_
        refine xstate (congrArg (jn C) (congrArg (su _ m_letter) cpy_s)) ?_
        refine xn_iinc (lv' := [some (.ref (b + oMod)), some (.int (nI i)), some (.int (nI (20 * i + j + 1)))]) hC dX8_takesLetter_63 (pc' := 66) rfl rfl (by decide) rfl ?_
        refine xi_goto (tgt := 32) hC dX8_takesLetter_66 (by decide) ?_
        refine ih32 (j + 1) (by omega) ?_
        · omega
  refine L32 _ 0 (Nat.lt_succ_self _) ?_
  · omega
