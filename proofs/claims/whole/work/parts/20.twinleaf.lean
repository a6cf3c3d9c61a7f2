
/-! ===== the twin: pure words ===== -/
def sl (f : Nat → Int32) (a : Nat) : Nat → Int32 := fun k => f (a + k)
def cpy (n : Nat) (f : Nat → Int32) (t : Nat) (g : Nat → Int32) : Nat → Int32 := fun j => if t ≤ j ∧ j < t + n then g (j - t) else f j
theorem cpy_in {n t k : Nat} {f g : Nat → Int32} (h : k < n) : cpy n f t g (t + k) = g k := by
  unfold cpy
  rw [if_pos ⟨by omega, by omega⟩, Nat.add_sub_cancel_left]
theorem cpy_at {n t j : Nat} {f g : Nat → Int32} (h : t ≤ j) (h2 : j < t + n) : cpy n f t g j = g (j - t) := if_pos ⟨h, h2⟩
theorem cpy_out {n t j : Nat} {f g : Nat → Int32} (h : j < t ∨ t + n ≤ j) : cpy n f t g j = f j := if_neg (by omega)
theorem cpy_0 {t : Nat} {f g : Nat → Int32} : cpy 0 f t g = f := by
  funext j
  exact cpy_out (by omega)
theorem cpy_s {n t : Nat} {f g : Nat → Int32} : upd (cpy n f t g) (t + n) (g n) = cpy (n + 1) f t g := by
  funext j
  by_cases h : j = t + n
  · subst h; rw [upd_s, cpy_in (by omega)]
  · rw [upd_n h]
    by_cases h2 : t ≤ j ∧ j < t + n
    · rw [cpy_at h2.1 h2.2, cpy_at h2.1 (by omega)]
    · rw [cpy_out (by omega), cpy_out (by omega)]
theorem cpy_congr {n t : Nat} {f g g' : Nat → Int32} (h : ∀ k, k < n → g k = g' k) : cpy n f t g = cpy n f t g' := by
  funext j
  by_cases h2 : t ≤ j ∧ j < t + n
  · rw [cpy_at h2.1 h2.2, cpy_at h2.1 h2.2]; exact h _ (by omega)
  · rw [cpy_out (by omega), cpy_out (by omega)]
theorem cpy_upd {n t j : Nat} {f g : Nat → Int32} {x : Int32} (h : j < n) : upd (cpy n f t g) (t + j) x = cpy n f t (upd g j x) := by
  funext q
  by_cases hq : q = t + j
  · subst hq; rw [upd_s, cpy_in h, upd_s]
  · rw [upd_n hq]
    by_cases h2 : t ≤ q ∧ q < t + n
    · rw [cpy_at h2.1 h2.2, cpy_at h2.1 h2.2, upd_n (by omega)]
    · rw [cpy_out (by omega), cpy_out (by omega)]
theorem su_su {σ : XM} {o : Nat} {f g : Nat → Int32} : su (su σ o f) o g = su σ o g := by
  funext q
  by_cases h : q = o
  · subst h; rw [su_s, su_s]
  · rw [su_n h, su_n h, su_n h]
/-- the users' numbers: u of them -/
def MU (S : XM) (u : Nat) : Prop := S oMod 0 = nI u ∧ 2 ≤ u ∧ u ≤ 5
def MN (S : XM) (w : Nat) : Prop := S oMod 1 = nI w ∧ 1 ≤ w ∧ w ≤ 6
def isU (u : Nat) (x : Int32) : Prop := ∃ i, i < u ∧ x = nI i
theorem isU_1 {u : Nat} {x : Int32} (h1 : 1 ≤ u) (h : u < 2 ^ 31) : (nI 0 ≤ x ∧ x ≤ nI (u - 1)) ↔ isU u x := by
  constructor
  · rintro ⟨q1, q2⟩
    obtain ⟨j, hj, rfl⟩ := nI_of (x := x) (by rw [← nI_0]; exact i_not_lt.mpr q1)
    exact ⟨j, by have := (nI_leI hj (by omega)).mp q2; omega, rfl⟩
  · rintro ⟨i, hi, rfl⟩
    exact ⟨nI_le (by omega) (by omega), nI_le (by omega) (by omega)⟩
theorem isU_2 {u : Nat} {x : Int32} (h : u < 2 ^ 31) : (0 ≤ x ∧ x < nI u) ↔ isU u x := by
  constructor
  · rintro ⟨q1, q2⟩
    obtain ⟨j, hj, rfl⟩ := nI_of (x := x) (i_not_lt.mpr q1)
    exact ⟨j, (nI_ltI hj h).mp q2, rfl⟩
  · rintro ⟨i, hi, rfl⟩
    exact ⟨nI_pos' (by omega), nI_lt hi h⟩
/-- nothing but the two places of the first pair has changed -/
def Sp (S T : XM) : Prop := (∀ o, o ≠ oMod → T o = S o) ∧ ∀ k, k ≠ 20 → k ≠ 21 → T oMod k = S oMod k
theorem Sp.rf {S : XM} : Sp S S := ⟨fun _ _ => rfl, fun _ _ _ => rfl⟩
theorem Sp.tr {S T U : XM} (h : Sp S T) (h2 : Sp T U) : Sp S U := ⟨fun o ho => (h2.1 o ho).trans (h.1 o ho), fun k h3 h4 => (h2.2 k h3 h4).trans (h.2 k h3 h4)⟩
theorem Sp.w {S T : XM} {k : Nat} {x : Int32} (h : Sp S T) (hk : k = 20 ∨ k = 21) : Sp S (sw T oMod k x) := ⟨fun o ho => (sw_n ho).trans (h.1 o ho), fun j h3 h4 => (sw_k (by omega)).trans (h.2 j h3 h4)⟩
theorem Sp.mu {S T : XM} {u : Nat} (h : Sp S T) (hU : MU S u) : MU T u := ⟨(h.2 0 (by decide) (by decide)).trans hU.1, hU.2⟩
/-- the vectors of a view's entries -/
def rV (S : XM) (v i : Nat) : Nat → Int32 := sl (S m_row) (30 * v + 5 * i)
def rK (S : XM) (i : Nat) : Nat → Int32 := sl (S m_knownOf) (5 * i)
def rG (S : XM) (i : Nat) : Nat → Int32 := sl (S m_signedOf) (5 * i)
noncomputable def bst (S : XM) (u v : Nat) : Nat := gix (fun a c => vle u (rV S v a) (rV S v c)) (u - 1)
/-- the alarm that an operation of user i would raise in view v -/
noncomputable def al (S : XM) (u v i : Nat) : Nat := @ite _ (vle u (rV S v i) (rG S i) ∧ vle u (rG S i) (rV S v i)) (Classical.propDecidable _) (@ite _ (fkd u u (rV S v)) (Classical.propDecidable _) 2 (@ite _ (vle u (rK S i) (rV S v (bst S u v))) (Classical.propDecidable _) 0 3)) 1
theorem al_1 {S : XM} {u v i : Nat} (h : ¬ (vle u (rV S v i) (rG S i) ∧ vle u (rG S i) (rV S v i))) : al S u v i = 1 := if_neg h
theorem al_2 {S : XM} {u v i : Nat} (h : vle u (rV S v i) (rG S i) ∧ vle u (rG S i) (rV S v i)) (h2 : fkd u u (rV S v)) : al S u v i = 2 := by unfold al; rw [if_pos h, if_pos h2]
theorem al_0 {S : XM} {u v i : Nat} (h : vle u (rV S v i) (rG S i) ∧ vle u (rG S i) (rV S v i)) (h2 : ¬ fkd u u (rV S v)) (h3 : vle u (rK S i) (rV S v (bst S u v))) : al S u v i = 0 := by unfold al; rw [if_pos h, if_neg h2, if_pos h3]
theorem al_3 {S : XM} {u v i : Nat} (h : vle u (rV S v i) (rG S i) ∧ vle u (rG S i) (rV S v i)) (h2 : ¬ fkd u u (rV S v)) (h3 : ¬ vle u (rK S i) (rV S v (bst S u v))) : al S u v i = 3 := by unfold al; rw [if_pos h, if_neg h2, if_neg h3]
theorem al_cases (S : XM) (u v i : Nat) : (al S u v i = 1 ∧ ¬ (vle u (rV S v i) (rG S i) ∧ vle u (rG S i) (rV S v i))) ∨ ((vle u (rV S v i) (rG S i) ∧ vle u (rG S i) (rV S v i)) ∧ ((al S u v i = 2 ∧ fkd u u (rV S v)) ∨ (¬ fkd u u (rV S v) ∧ ((al S u v i = 0 ∧ vle u (rK S i) (rV S v (bst S u v))) ∨ (al S u v i = 3 ∧ ¬ vle u (rK S i) (rV S v (bst S u v))))))) := by
  by_cases h : vle u (rV S v i) (rG S i) ∧ vle u (rG S i) (rV S v i)
  · refine Or.inr ⟨h, ?_⟩
    by_cases h2 : fkd u u (rV S v)
    · exact Or.inl ⟨al_2 h h2, h2⟩
    · refine Or.inr ⟨h2, ?_⟩
      by_cases h3 : vle u (rK S i) (rV S v (bst S u v))
      · exact Or.inl ⟨al_0 h h2 h3, h3⟩
      · exact Or.inr ⟨al_3 h h2 h3, h3⟩
  · exact Or.inl ⟨al_1 h, h⟩
theorem fst_fkd {n w : Nat} {v : Nat → Nat → Int32} {a c : Nat} (h : fstP n w v a c) : fkd n w v := ⟨a, c, h.1, h.2.1, h.2.2.1⟩
theorem bst_lt {S : XM} {u v : Nat} (h : 1 ≤ u) : bst S u v < u := by
  have := gix_le (fun a c => vle u (rV S v a) (rV S v c)) (u - 1)
  unfold bst
  omega
theorem Sp.rV {S T : XM} (h : Sp S T) (v : Nat) : rV T v = rV S v := by
  funext i
  show sl (T m_row) _ = sl (S m_row) _
  rw [h.1 m_row (by decide)]
theorem Sp.rK {S T : XM} (h : Sp S T) (i : Nat) : rK T i = rK S i := by
  show sl (T m_knownOf) _ = sl (S m_knownOf) _
  rw [h.1 m_knownOf (by decide)]
theorem Sp.rG {S T : XM} (h : Sp S T) (i : Nat) : rG T i = rG S i := by
  show sl (T m_signedOf) _ = sl (S m_signedOf) _
  rw [h.1 m_signedOf (by decide)]
theorem Sp.bst {S T : XM} (h : Sp S T) (u v : Nat) : bst T u v = bst S u v := by
  show gix (fun a c => vle u (_root_.Jvm.Pilot.@@N@@.rV T v a) (_root_.Jvm.Pilot.@@N@@.rV T v c)) _ = gix _ _
  rw [h.rV]
theorem Sp.al {S T : XM} (h : Sp S T) (u v i : Nat) : al T u v i = al S u v i := by
  have h1 := h.rV v
  have h2 := h.rK i
  have h3 := h.rG i
  have h4 := h.bst u v
  rcases al_cases S u v i with ⟨e, q⟩ | ⟨q, ⟨e, q2⟩ | ⟨q2, ⟨e, q3⟩ | ⟨e, q3⟩⟩⟩
  · rw [e]; exact al_1 (by rw [h1, h3]; exact q)
  · rw [e]; exact al_2 (by rw [h1, h3]; exact q) (by rw [h1]; exact q2)
  · rw [e]; exact al_0 (by rw [h1, h3]; exact q) (by rw [h1]; exact q2) (by rw [h1, h2, h4]; exact q3)
  · rw [e]; exact al_3 (by rw [h1, h3]; exact q) (by rw [h1]; exact q2) (by rw [h1, h2, h4]; exact q3)
def mKeep (S : XM) (i : Nat) (d : Int32) (f1 f2 : Nat → Int32) (T : XM) : Prop :=
  (S m_hasProof i ≠ 0 ∧ T = S) ∨ (S m_hasProof i = 0 ∧ T = su (sw (sw S m_hasProof i (nI 1)) m_depthOf i d) m_proofOf (cpy 5 (cpy 5 (S m_proofOf) (10 * i) f1) (10 * i + 5) f2))
def mRaise (S : XM) (u v i : Nat) (x : Nat) (T : XM) : Prop :=
  (x = 1 ∧ T = sw S m_alarmOf i (nI 1)) ∨ (x = 2 ∧ ∃ a c, fstP u u (rV S v) a c ∧ mKeep (sw S m_alarmOf i (nI 2)) i (nI 0) (rV S v a) (rV S v c) T) ∨
  (x = 3 ∧ ∃ T1, Sp (sw S m_alarmOf i (nI 3)) T1 ∧ ((rel u (rK S i) (rV S v (bst S u v)) = 2 ∧ mKeep T1 i (nI 0) (rK S i) (rV S v (bst S u v)) T) ∨ (rel u (rK S i) (rV S v (bst S u v)) ≠ 2 ∧ T = T1)))
/-- what a view remembers behind one more operation -/
def mRem (S : XM) (v k : Nat) (g : Nat → Int32) : Prop :=
  (∀ x, x < 30 → g (150 * v + 30 * min k 4 + x) = S m_row (30 * v + x)) ∧ (∀ x, x < 30 * min k 4 → g (150 * v + x) = S m_keptRow (150 * v + 30 * (k - min k 4) + x)) ∧ ∀ x, (x < 150 * v ∨ 150 * v + 150 ≤ x) → g x = S m_keptRow x
set_option maxRecDepth 100000 in
set_option maxHeartbeats 4000000 in
theorem c_X8_in (l : Launch) (D : XD) (b n : Nat) {C S : XM} {x lo hi : Int32} : xM l yX8_in cX8_in 3 (some .boolean) 0 0 0 0 D b n [.int x, .int lo, .int hi] (xH D b (jn C S)) n (fun v h' => v = some (.int (bI (lo ≤ x ∧ x ≤ hi))) ∧ h' = xH D b (jn C S)) := by
  refine xM.of (lv := [some (.int x), some (.int lo), some (.int hi)]) (by decide +kernel) rfl (List.forall_mem_cons.mpr ⟨rfl, List.forall_mem_cons.mpr ⟨rfl, List.forall_mem_cons.mpr ⟨rfl, fun _ h => absurd h List.not_mem_nil⟩⟩⟩) (Nat.le_of_ble_eq_true rfl) rfl ?_
  intro p e s m args below meth c hC hr hnm
  refine xi_iload_n hC dX8_in_0 (pc' := 1) rfl rfl rfl ?_
  refine xi_iload_n hC dX8_in_1 (pc' := 2) rfl rfl rfl ?_
  refine xi_icmplt (tgt := 14) hC dX8_in_2 (pc' := 5) rfl (by decide) (fun zc2 => ?_) (fun zc2 => ?_)
  · skip
    refine xi_iconst (v := nI 0) hC dX8_in_14 (pc' := 15) rfl (by decide +kernel) ?_
    refine xb_ireturn hC dX8_in_15 hr (by decide) rfl ?_
    exact ⟨by rw [bI_f (show ¬ (lo ≤ x ∧ x ≤ hi) from fun z => by first | exact i_not_lt.mpr z.1 zc2 | exact i_not_lt.mpr z.2 zc7)], rfl⟩
  · skip
    refine xi_iload_n hC dX8_in_5 (pc' := 6) rfl rfl rfl ?_
    refine xi_iload_n hC dX8_in_6 (pc' := 7) rfl rfl rfl ?_
    refine xi_icmpgt (tgt := 14) hC dX8_in_7 (pc' := 10) rfl (by decide) (fun zc7 => ?_) (fun zc7 => ?_)
    · skip
      refine xi_iconst (v := nI 0) hC dX8_in_14 (pc' := 15) rfl (by decide +kernel) ?_
      refine xb_ireturn hC dX8_in_15 hr (by decide) rfl ?_
      exact ⟨by rw [bI_f (show ¬ (lo ≤ x ∧ x ≤ hi) from fun z => by first | exact i_not_lt.mpr z.1 zc2 | exact i_not_lt.mpr z.2 zc7)], rfl⟩
    · skip
      refine xi_iconst (v := nI 1) hC dX8_in_10 (pc' := 11) rfl (by decide +kernel) ?_
      refine xi_goto (tgt := 15) hC dX8_in_11 (by decide) ?_
      refine xb_ireturn hC dX8_in_15 hr (by decide) rfl ?_
      exact ⟨by rw [bI_t (show lo ≤ x ∧ x ≤ hi from ⟨i_not_lt.mp zc2, i_not_lt.mp (fun z => zc7 z)⟩)], rfl⟩

set_option maxRecDepth 100000 in
set_option maxHeartbeats 4000000 in
theorem c_X8_noUser (l : Launch) (D : XD) (b n : Nat) {C S : XM} {u : Nat} {x : Int32} (hU : MU S u) : xM l yX8_noUser cX8_noUser 2 (some .boolean) 1 22 0 0 D b n [.ref (b + oMod), .int x] (xH D b (jn C S)) n (fun v h' => v = some (.int (bI (¬ isU u x))) ∧ h' = xH D b (jn C S)) := by
  refine xM.of (lv := [some (.ref (b + oMod)), some (.int x)]) (by decide +kernel) rfl (List.forall_mem_cons.mpr ⟨rfl, List.forall_mem_cons.mpr ⟨rfl, fun _ h => absurd h List.not_mem_nil⟩⟩) (Nat.le_of_ble_eq_true rfl) rfl ?_
  intro p e s m args below meth c hC hr hnm
  obtain ⟨hu, hu2, hu5⟩ := id hU
  refine xi_iload_n hC dX8_noUser_0 (pc' := 1) rfl rfl rfl ?_
  refine xi_iconst (v := nI 0) hC dX8_noUser_1 (pc' := 2) rfl (by decide +kernel) ?_
  refine xi_aload_n hC dX8_noUser_2 (pc' := 3) rfl rfl rfl ?_
  refine xt_g_users hC dX8_noUser_3 (pc' := 6) rfl xw_f_X8_73 ?_
  refine xtop (y := (nI u)) (hu) ?_
  refine xi_iconst (v := nI 1) hC dX8_noUser_6 (pc' := 7) rfl (by decide +kernel) ?_
  refine xn_isub hC dX8_noUser_7 (pc' := 8) rfl (by omega) ?_
  refine xi_callS (As := [.int x, .int (nI 0), .int (nI (u - 1))]) (rest := []) (c_X8_in l D b n (C := C) (S := S) (x := x) (lo := (nI 0)) (hi := (nI (u - 1)))) hC dX8_noUser_8 (pc' := 11) rfl xw_m_X8_83 xw_c_X8_in xw_sta_X8_in xw_ini_X8 xd_X8_in ⟨Nat.le_of_ble_eq_true rfl, Nat.le_of_ble_eq_true rfl⟩ rfl (Nat.le_of_ble_eq_true rfl) ⟨Nat.le_of_ble_eq_true rfl, Nat.le_of_ble_eq_true rfl⟩ ?_
  rintro _ _ ⟨rfl, rfl⟩
  show xV _ _ _ _ _ _ _ _ _ _ _ _ _ _ _ _ _ (xH D b (jn C S)) _ _ [.int (bI ((nI 0) ≤ x ∧ x ≤ (nI (u - 1))))]
  refine xb_ifne (tgt := 18) hC dX8_noUser_11 (pc' := 14) rfl (by decide) (fun zc11 => ?_) (fun zc11 => ?_)
  · skip
    refine xi_iconst (v := nI 0) hC dX8_noUser_18 (pc' := 19) rfl (by decide +kernel) ?_
    refine xb_ireturn hC dX8_noUser_19 hr (by decide) rfl ?_
    exact ⟨by rw [bI_f (fun z => z ((isU_1 (by omega) (by omega)).mp zc11))], rfl⟩
  · skip
    refine xi_iconst (v := nI 1) hC dX8_noUser_14 (pc' := 15) rfl (by decide +kernel) ?_
    refine xi_goto (tgt := 19) hC dX8_noUser_15 (by decide) ?_
    refine xb_ireturn hC dX8_noUser_19 hr (by decide) rfl ?_
    exact ⟨by rw [bI_t (fun z => zc11 ((isU_1 (by omega) (by omega)).mpr z))], rfl⟩

set_option maxRecDepth 100000 in
set_option maxHeartbeats 4000000 in
theorem c_X8_noView (l : Launch) (D : XD) (b n : Nat) {C S : XM} {u : Nat} {x : Int32} (hU : MN S u) : xM l yX8_noView cX8_noView 2 (some .boolean) 1 22 0 0 D b n [.ref (b + oMod), .int x] (xH D b (jn C S)) n (fun v h' => v = some (.int (bI (¬ isU u x))) ∧ h' = xH D b (jn C S)) := by
  refine xM.of (lv := [some (.ref (b + oMod)), some (.int x)]) (by decide +kernel) rfl (List.forall_mem_cons.mpr ⟨rfl, List.forall_mem_cons.mpr ⟨rfl, fun _ h => absurd h List.not_mem_nil⟩⟩) (Nat.le_of_ble_eq_true rfl) rfl ?_
  intro p e s m args below meth c hC hr hnm
  obtain ⟨hu, hu2, hu5⟩ := id hU
  refine xi_iload_n hC dX8_noView_0 (pc' := 1) rfl rfl rfl ?_
  refine xi_iconst (v := nI 0) hC dX8_noView_1 (pc' := 2) rfl (by decide +kernel) ?_
  refine xi_aload_n hC dX8_noView_2 (pc' := 3) rfl rfl rfl ?_
  refine xt_g_views hC dX8_noView_3 (pc' := 6) rfl xw_f_X8_77 ?_
  refine xtop (y := (nI u)) (hu) ?_
  refine xi_iconst (v := nI 1) hC dX8_noView_6 (pc' := 7) rfl (by decide +kernel) ?_
  refine xn_isub hC dX8_noView_7 (pc' := 8) rfl (by omega) ?_
  refine xi_callS (As := [.int x, .int (nI 0), .int (nI (u - 1))]) (rest := []) (c_X8_in l D b n (C := C) (S := S) (x := x) (lo := (nI 0)) (hi := (nI (u - 1)))) hC dX8_noView_8 (pc' := 11) rfl xw_m_X8_83 xw_c_X8_in xw_sta_X8_in xw_ini_X8 xd_X8_in ⟨Nat.le_of_ble_eq_true rfl, Nat.le_of_ble_eq_true rfl⟩ rfl (Nat.le_of_ble_eq_true rfl) ⟨Nat.le_of_ble_eq_true rfl, Nat.le_of_ble_eq_true rfl⟩ ?_
  rintro _ _ ⟨rfl, rfl⟩
  show xV _ _ _ _ _ _ _ _ _ _ _ _ _ _ _ _ _ (xH D b (jn C S)) _ _ [.int (bI ((nI 0) ≤ x ∧ x ≤ (nI (u - 1))))]
  refine xb_ifne (tgt := 18) hC dX8_noView_11 (pc' := 14) rfl (by decide) (fun zc11 => ?_) (fun zc11 => ?_)
  · skip
    refine xi_iconst (v := nI 0) hC dX8_noView_18 (pc' := 19) rfl (by decide +kernel) ?_
    refine xb_ireturn hC dX8_noView_19 hr (by decide) rfl ?_
    exact ⟨by rw [bI_f (fun z => z ((isU_1 (by omega) (by omega)).mp zc11))], rfl⟩
  · skip
    refine xi_iconst (v := nI 1) hC dX8_noView_14 (pc' := 15) rfl (by decide +kernel) ?_
    refine xi_goto (tgt := 19) hC dX8_noView_15 (by decide) ?_
    refine xb_ireturn hC dX8_noView_19 hr (by decide) rfl ?_
    exact ⟨by rw [bI_t (fun z => zc11 ((isU_1 (by omega) (by omega)).mpr z))], rfl⟩

set_option maxRecDepth 100000 in
set_option maxHeartbeats 4000000 in
theorem c_X8_entryAt (l : Launch) (D : XD) (b n : Nat) {C S : XM} {a c : Nat} : xM l yX8_entryAt cX8_entryAt 2 (some .int) 0 0 0 0 D b n [.int (nI a), .int (nI c)] (xH D b (jn C S)) n (fun v h' => v = some (.int (nI (30 * a + 5 * c))) ∧ h' = xH D b (jn C S)) := by
  refine xM.of (lv := [some (.int (nI a)), some (.int (nI c))]) (by decide +kernel) rfl (List.forall_mem_cons.mpr ⟨rfl, List.forall_mem_cons.mpr ⟨rfl, fun _ h => absurd h List.not_mem_nil⟩⟩) (Nat.le_of_ble_eq_true rfl) rfl ?_
  intro p e s m args below meth c hC hr hnm
  refine xi_bipush (v := nI 30) hC dX8_entryAt_0 (pc' := 2) rfl (by decide +kernel) ?_
  refine xi_iload_n hC dX8_entryAt_2 (pc' := 3) rfl rfl rfl ?_
  refine xn_imul hC dX8_entryAt_3 (pc' := 4) rfl ?_
  refine xi_iconst (v := nI 5) hC dX8_entryAt_4 (pc' := 5) rfl (by decide +kernel) ?_
  refine xi_iload_n hC dX8_entryAt_5 (pc' := 6) rfl rfl rfl ?_
  refine xn_imul hC dX8_entryAt_6 (pc' := 7) rfl ?_
  refine xn_iadd hC dX8_entryAt_7 (pc' := 8) rfl ?_
  refine xi_ireturn hC dX8_entryAt_8 hr rfl ?_
  exact ⟨rfl, rfl⟩

set_option maxRecDepth 100000 in
set_option maxHeartbeats 4000000 in
theorem c_X8_atMost (l : Launch) (D : XD) (b n : Nat) {C S : XM} {u oa Na ob Nb fa fb : Nat} (hU : MU S u) (h1 : kd oa = 1000 + Na) (g1 : 585 ≤ oa) (n1 : Na < 1000) (h2 : kd ob = 1000 + Nb) (g2 : 585 ≤ ob) (n2 : Nb < 1000) (ha : fa + 5 ≤ Na) (hb : fb + 5 ≤ Nb) : xM l yX8_atMost cX8_atMost 7 (some .boolean) 0 0 0 0 D b n [.ref (b + oMod), .ref (b + oa), .int (nI fa), .ref (b + ob), .int (nI fb)] (xH D b (jn C S)) n (fun v h' => v = some (.int (bI (vle u (sl (S oa) fa) (sl (S ob) fb)))) ∧ h' = xH D b (jn C S)) := by
  refine xM.of (lv := [some (.ref (b + oMod)), some (.ref (b + oa)), some (.int (nI fa)), some (.ref (b + ob)), some (.int (nI fb)), none, none]) (by decide +kernel) rfl (List.forall_mem_cons.mpr ⟨rfl, List.forall_mem_cons.mpr ⟨rfl, List.forall_mem_cons.mpr ⟨rfl, List.forall_mem_cons.mpr ⟨rfl, List.forall_mem_cons.mpr ⟨rfl, fun _ h => absurd h List.not_mem_nil⟩⟩⟩⟩⟩) (Nat.le_of_ble_eq_true rfl) rfl ?_
  intro p e s m args below meth c hC hr hnm
  obtain ⟨hu, hu2, hu5⟩ := id hU
  refine xi_iconst (v := nI 1) hC dX8_atMost_0 (pc' := 1) rfl (by decide +kernel) ?_
  refine xi_istore (lv' := [some (.ref (b + oMod)), some (.ref (b + oa)), some (.int (nI fa)), some (.ref (b + ob)), some (.int (nI fb)), some (.int (nI 1)), none]) hC dX8_atMost_1 (pc' := 3) rfl (by decide) rfl ?_
  refine xi_iconst (v := nI 0) hC dX8_atMost_3 (pc' := 4) rfl (by decide +kernel) ?_
  refine xi_istore (lv' := [some (.ref (b + oMod)), some (.ref (b + oa)), some (.int (nI fa)), some (.ref (b + ob)), some (.int (nI fb)), some (.int (nI 1)), some (.int (nI 0))]) hC dX8_atMost_4 (pc' := 6) rfl (by decide) rfl ?_
  have L6 : ∀ (d : Nat) (j : Nat) (x : Int32), u - j < d → (j ≤ u) → (x = bI (vle j (sl (S oa) fa) (sl (S ob) fb))) → xV p l e (xR 0 0 0 0) s m args below meth c D b 7 0 0 (MQ below (xQ D b n (fun v h' => v = some (.int (bI (vle u (sl (S oa) fa) (sl (S ob) fb)))) ∧ h' = xH D b (jn C S))) args s 0 0 (fun q => b ≤ q)) n (xH D b (jn C S)) 6 [some (.ref (b + oMod)), some (.ref (b + oa)), some (.int (nI fa)), some (.ref (b + ob)), some (.int (nI fb)), some (.int x), some (.int (nI j))] [] := by
    intro d
    induction d with
    | zero => intro j x h; exact absurd h (Nat.not_lt_zero _)
    | succ d ih6 =>
      intro j x hd6 hj ex
      refine xi_iload hC dX8_atMost_6 (pc' := 8) rfl rfl ?_
      refine xi_aload_n hC dX8_atMost_8 (pc' := 9) rfl rfl rfl ?_
      refine xt_g_users hC dX8_atMost_9 (pc' := 12) rfl xw_f_X8_73 ?_
      refine xtop (y := (nI u)) (hu) ?_
      refine xn_icmpge (tgt := 49) hC dX8_atMost_12 (pc' := 15) rfl (by decide) (by omega) (by omega) (fun zc12 => ?_) (fun zc12 => ?_)
      · skip
        refine xi_iload hC dX8_atMost_49 (pc' := 51) rfl rfl ?_
        refine xb_ireturn hC dX8_atMost_51 hr (by rw [ex]; exact bI_01) rfl ?_
        obtain rfl : j = u := by omega
        exact ⟨by rw [ex], rfl⟩
      · skip
        refine xi_iload hC dX8_atMost_15 (pc' := 17) rfl rfl ?_
        refine xi_ifeq (tgt := 40) hC dX8_atMost_17 (pc' := 20) rfl (by decide) (fun zc17 => ?_) (fun zc17 => ?_)
        · skip
          refine xi_iconst (v := nI 0) hC dX8_atMost_40 (pc' := 41) rfl (by decide +kernel) ?_
          refine xi_istore (lv' := [some (.ref (b + oMod)), some (.ref (b + oa)), some (.int (nI fa)), some (.ref (b + ob)), some (.int (nI fb)), some (.int (nI 0)), some (.int (nI j))]) hC dX8_atMost_41 (pc' := 43) rfl (by decide) rfl ?_
          refine xn_iinc (lv' := [some (.ref (b + oMod)), some (.ref (b + oa)), some (.int (nI fa)), some (.ref (b + ob)), some (.int (nI fb)), some (.int (nI 0)), some (.int (nI (j + 1)))]) hC dX8_atMost_43 (pc' := 46) rfl rfl (by decide) rfl ?_
          refine xi_goto (tgt := 6) hC dX8_atMost_46 (by decide) ?_
          refine ih6 _ _ (by omega) ?_ ?_
          · omega
          · rw [ex] at zc17
            first
              | exact (bI_f (fun z => (bI_eq0.mp zc17) (vle_s.mp z).1)).symm
              | exact (bI_f (fun z => absurd (vle_s.mp z).2 (i_not_le.mpr zc33))).symm
              | exact (bI_t (vle_s.mpr ⟨Classical.not_not.mp (fun z => zc17 (bI_eq0.mpr z)), i_not_lt.mp zc33⟩)).symm
        · skip
          refine xi_aload_n hC dX8_atMost_20 (pc' := 21) rfl rfl rfl ?_
          refine xi_iload_n hC dX8_atMost_21 (pc' := 22) rfl rfl rfl ?_
          refine xi_iload hC dX8_atMost_22 (pc' := 24) rfl rfl ?_
          refine xn_iadd hC dX8_atMost_24 (pc' := 25) rfl ?_
          refine xt_l_i hC dX8_atMost_25 (pc' := 26) rfl (N := Na) h1 g1 n1 rfl (by omega) ?_
          refine xi_aload_n hC dX8_atMost_26 (pc' := 27) rfl rfl rfl ?_
          refine xi_iload hC dX8_atMost_27 (pc' := 29) rfl rfl ?_
          refine xi_iload hC dX8_atMost_29 (pc' := 31) rfl rfl ?_
          refine xn_iadd hC dX8_atMost_31 (pc' := 32) rfl ?_
          refine xt_l_i hC dX8_atMost_32 (pc' := 33) rfl (N := Nb) h2 g2 n2 rfl (by omega) ?_
          refine xi_icmpgt (tgt := 40) hC dX8_atMost_33 (pc' := 36) rfl (by decide) (fun zc33 => ?_) (fun zc33 => ?_)
          · skip
            refine xi_iconst (v := nI 0) hC dX8_atMost_40 (pc' := 41) rfl (by decide +kernel) ?_
            refine xi_istore (lv' := [some (.ref (b + oMod)), some (.ref (b + oa)), some (.int (nI fa)), some (.ref (b + ob)), some (.int (nI fb)), some (.int (nI 0)), some (.int (nI j))]) hC dX8_atMost_41 (pc' := 43) rfl (by decide) rfl ?_
            refine xn_iinc (lv' := [some (.ref (b + oMod)), some (.ref (b + oa)), some (.int (nI fa)), some (.ref (b + ob)), some (.int (nI fb)), some (.int (nI 0)), some (.int (nI (j + 1)))]) hC dX8_atMost_43 (pc' := 46) rfl rfl (by decide) rfl ?_
            refine xi_goto (tgt := 6) hC dX8_atMost_46 (by decide) ?_
            refine ih6 _ _ (by omega) ?_ ?_
            · omega
            · rw [ex] at zc17
              first
                | exact (bI_f (fun z => (bI_eq0.mp zc17) (vle_s.mp z).1)).symm
                | exact (bI_f (fun z => absurd (vle_s.mp z).2 (i_not_le.mpr zc33))).symm
                | exact (bI_t (vle_s.mpr ⟨Classical.not_not.mp (fun z => zc17 (bI_eq0.mpr z)), i_not_lt.mp zc33⟩)).symm
          · skip
            refine xi_iconst (v := nI 1) hC dX8_atMost_36 (pc' := 37) rfl (by decide +kernel) ?_
            refine xi_goto (tgt := 41) hC dX8_atMost_37 (by decide) ?_
            refine xi_istore (lv' := [some (.ref (b + oMod)), some (.ref (b + oa)), some (.int (nI fa)), some (.ref (b + ob)), some (.int (nI fb)), some (.int (nI 1)), some (.int (nI j))]) hC dX8_atMost_41 (pc' := 43) rfl (by decide) rfl ?_
            refine xn_iinc (lv' := [some (.ref (b + oMod)), some (.ref (b + oa)), some (.int (nI fa)), some (.ref (b + ob)), some (.int (nI fb)), some (.int (nI 1)), some (.int (nI (j + 1)))]) hC dX8_atMost_43 (pc' := 46) rfl rfl (by decide) rfl ?_
            refine xi_goto (tgt := 6) hC dX8_atMost_46 (by decide) ?_
            refine ih6 _ _ (by omega) ?_ ?_
            · omega
            · rw [ex] at zc17
              first
                | exact (bI_f (fun z => (bI_eq0.mp zc17) (vle_s.mp z).1)).symm
                | exact (bI_f (fun z => absurd (vle_s.mp z).2 (i_not_le.mpr zc33))).symm
                | exact (bI_t (vle_s.mpr ⟨Classical.not_not.mp (fun z => zc17 (bI_eq0.mpr z)), i_not_lt.mp zc33⟩)).symm
  refine L6 _ _ _ (Nat.lt_succ_self _) ?_ ?_
  · omega
  · exact (bI_t (fun k hk => absurd hk (Nat.not_lt_zero k))).symm

set_option maxRecDepth 100000 in
set_option maxHeartbeats 4000000 in
theorem c_X8_areApart (l : Launch) (D : XD) (b n : Nat) {C S : XM} {u oa Na ob Nb fa fb : Nat} (hU : MU S u) (h1 : kd oa = 1000 + Na) (g1 : 585 ≤ oa) (n1 : Na < 1000) (h2 : kd ob = 1000 + Nb) (g2 : 585 ≤ ob) (n2 : Nb < 1000) (ha : fa + 5 ≤ Na) (hb : fb + 5 ≤ Nb) : xM l yX8_areApart cX8_areApart 5 (some .boolean) 1 26 0 0 D b n [.ref (b + oMod), .ref (b + oa), .int (nI fa), .ref (b + ob), .int (nI fb)] (xH D b (jn C S)) n (fun v h' => v = some (.int (bI (rel u (sl (S oa) fa) (sl (S ob) fb) = 2))) ∧ h' = xH D b (jn C S)) := by
  refine xM.of (lv := [some (.ref (b + oMod)), some (.ref (b + oa)), some (.int (nI fa)), some (.ref (b + ob)), some (.int (nI fb))]) (by decide +kernel) rfl (List.forall_mem_cons.mpr ⟨rfl, List.forall_mem_cons.mpr ⟨rfl, List.forall_mem_cons.mpr ⟨rfl, List.forall_mem_cons.mpr ⟨rfl, List.forall_mem_cons.mpr ⟨rfl, fun _ h => absurd h List.not_mem_nil⟩⟩⟩⟩⟩) (Nat.le_of_ble_eq_true rfl) rfl ?_
  intro p e s m args below meth c hC hr hnm
  refine xi_aload_n hC dX8_areApart_0 (pc' := 1) rfl rfl rfl ?_
  refine xi_aload_n hC dX8_areApart_1 (pc' := 2) rfl rfl rfl ?_
  refine xi_iload_n hC dX8_areApart_2 (pc' := 3) rfl rfl rfl ?_
  refine xi_aload_n hC dX8_areApart_3 (pc' := 4) rfl rfl rfl ?_
  refine xi_iload hC dX8_areApart_4 (pc' := 6) rfl rfl ?_
  refine xi_callV (As := [.ref (b + oa), .int (nI fa), .ref (b + ob), .int (nI fb)]) (rest := []) (c_X8_atMost l D b n (C := C) (S := S) (u := u) (oa := oa) (Na := Na) (ob := ob) (Nb := Nb) (fa := fa) (fb := fb) hU h1 g1 n1 h2 g2 n2 (by assumption) (by assumption) ) hC dX8_areApart_6 (pc' := 9) rfl xw_m_X8_87 xw_c_X8_atMost xw_ins_X8_atMost xw_sel_X8_atMost xw_ini_X8 xd_X8_atMost (xH_at.trans (xsh_8 kd_oMod)) rfl ⟨Nat.le_of_ble_eq_true rfl, Nat.le_of_ble_eq_true rfl⟩ rfl (Nat.le_of_ble_eq_true rfl) ⟨Nat.le_of_ble_eq_true rfl, Nat.le_of_ble_eq_true rfl⟩ ?_
  rintro _ _ ⟨rfl, rfl⟩
  show xV _ _ _ _ _ _ _ _ _ _ _ _ _ _ _ _ _ (xH D b (jn C S)) _ _ [.int (bI (vle u (sl (S oa) fa) (sl (S ob) fb)))]
  refine xb_ifne (tgt := 28) hC dX8_areApart_9 (pc' := 12) rfl (by decide) (fun zc9 => ?_) (fun zc9 => ?_)
  · skip
    refine xi_iconst (v := nI 0) hC dX8_areApart_28 (pc' := 29) rfl (by decide +kernel) ?_
    refine xb_ireturn hC dX8_areApart_29 hr (by decide) rfl ?_
    exact ⟨by rw [bI_f (fun z => by first | exact (rel_2.mp z).1 zc9 | exact (rel_2.mp z).2 zc21)], rfl⟩
  · skip
    refine xi_aload_n hC dX8_areApart_12 (pc' := 13) rfl rfl rfl ?_
    refine xi_aload_n hC dX8_areApart_13 (pc' := 14) rfl rfl rfl ?_
    refine xi_iload hC dX8_areApart_14 (pc' := 16) rfl rfl ?_
    refine xi_aload_n hC dX8_areApart_16 (pc' := 17) rfl rfl rfl ?_
    refine xi_iload_n hC dX8_areApart_17 (pc' := 18) rfl rfl rfl ?_
    refine xi_callV (As := [.ref (b + ob), .int (nI fb), .ref (b + oa), .int (nI fa)]) (rest := []) (c_X8_atMost l D b n (C := C) (S := S) (u := u) (oa := ob) (Na := Nb) (ob := oa) (Nb := Na) (fa := fb) (fb := fa) hU h2 g2 n2 h1 g1 n1 (by assumption) (by assumption) ) hC dX8_areApart_18 (pc' := 21) rfl xw_m_X8_87 xw_c_X8_atMost xw_ins_X8_atMost xw_sel_X8_atMost xw_ini_X8 xd_X8_atMost (xH_at.trans (xsh_8 kd_oMod)) rfl ⟨Nat.le_of_ble_eq_true rfl, Nat.le_of_ble_eq_true rfl⟩ rfl (Nat.le_of_ble_eq_true rfl) ⟨Nat.le_of_ble_eq_true rfl, Nat.le_of_ble_eq_true rfl⟩ ?_
    rintro _ _ ⟨rfl, rfl⟩
    show xV _ _ _ _ _ _ _ _ _ _ _ _ _ _ _ _ _ (xH D b (jn C S)) _ _ [.int (bI (vle u (sl (S ob) fb) (sl (S oa) fa)))]
    refine xb_ifne (tgt := 28) hC dX8_areApart_21 (pc' := 24) rfl (by decide) (fun zc21 => ?_) (fun zc21 => ?_)
    · skip
      refine xi_iconst (v := nI 0) hC dX8_areApart_28 (pc' := 29) rfl (by decide +kernel) ?_
      refine xb_ireturn hC dX8_areApart_29 hr (by decide) rfl ?_
      exact ⟨by rw [bI_f (fun z => by first | exact (rel_2.mp z).1 zc9 | exact (rel_2.mp z).2 zc21)], rfl⟩
    · skip
      refine xi_iconst (v := nI 1) hC dX8_areApart_24 (pc' := 25) rfl (by decide +kernel) ?_
      refine xi_goto (tgt := 29) hC dX8_areApart_25 (by decide) ?_
      refine xb_ireturn hC dX8_areApart_29 hr (by decide) rfl ?_
      exact ⟨by rw [bI_t (rel_2.mpr ⟨zc9, zc21⟩)], rfl⟩

set_option maxRecDepth 100000 in
set_option maxHeartbeats 4000000 in
theorem c_X8_copy (l : Launch) (D : XD) (b n : Nat) {C S : XM} {oa Na ob Nb fa fb : Nat} (h1 : kd oa = 1000 + Na) (g1 : 585 ≤ oa) (n1 : Na < 1000) (h2 : kd ob = 1000 + Nb) (g2 : 585 ≤ ob) (n2 : Nb < 1000) (ha : fa + 5 ≤ Na) (hb : fb + 5 ≤ Nb) (hne : oa ≠ ob ∨ fa + 5 ≤ fb ∨ fb + 5 ≤ fa) : xM l yX8_copy cX8_copy 6 none 0 0 0 0 D b n [.ref (b + oMod), .ref (b + oa), .int (nI fa), .ref (b + ob), .int (nI fb)] (xH D b (jn C S)) n (fun v h' => v = none ∧ ∃ T : XM, T ob = cpy 5 (S ob) fb (sl (S oa) fa) ∧ (∀ o, o ≠ ob → T o = S o) ∧ h' = xH D b (jn C T)) := by
  refine xM.of (lv := [some (.ref (b + oMod)), some (.ref (b + oa)), some (.int (nI fa)), some (.ref (b + ob)), some (.int (nI fb)), none]) (by decide +kernel) rfl (List.forall_mem_cons.mpr ⟨rfl, List.forall_mem_cons.mpr ⟨rfl, List.forall_mem_cons.mpr ⟨rfl, List.forall_mem_cons.mpr ⟨rfl, List.forall_mem_cons.mpr ⟨rfl, fun _ h => absurd h List.not_mem_nil⟩⟩⟩⟩⟩) (Nat.le_of_ble_eq_true rfl) rfl ?_
  intro p e s m args below meth c hC hr hnm
  refine xi_iconst (v := nI 0) hC dX8_copy_0 (pc' := 1) rfl (by decide +kernel) ?_
  refine xi_istore (lv' := [some (.ref (b + oMod)), some (.ref (b + oa)), some (.int (nI fa)), some (.ref (b + ob)), some (.int (nI fb)), some (.int (nI 0))]) hC dX8_copy_1 (pc' := 3) rfl (by decide) rfl ?_
  refine xstate (congrArg (jn C) ((su_self (o := ob)).trans (congrArg (su S ob) (cpy_0 (t := fb) (g := sl (S oa) fa)).symm))) ?_
  have L3 : ∀ (d : Nat) (j : Nat), 5 - j < d → (j ≤ 5) → xV p l e (xR 0 0 0 0) s m args below meth c D b 6 0 0 (MQ below (xQ D b n (fun v h' => v = none ∧ ∃ T : XM, T ob = cpy 5 (S ob) fb (sl (S oa) fa) ∧ (∀ o, o ≠ ob → T o = S o) ∧ h' = xH D b (jn C T))) args s 0 0 (fun q => b ≤ q)) n (xH D b (jn C (su S ob (cpy j (S ob) fb (sl (S oa) fa))))) 3 [some (.ref (b + oMod)), some (.ref (b + oa)), some (.int (nI fa)), some (.ref (b + ob)), some (.int (nI fb)), some (.int (nI j))] [] := by
    intro d
    induction d with
    | zero => intro j h; exact absurd h (Nat.not_lt_zero _)
    | succ d ih3 =>
      intro j hd3 hj
      refine xi_iload hC dX8_copy_3 (pc' := 5) rfl rfl ?_
      refine xi_iconst (v := nI 5) hC dX8_copy_5 (pc' := 6) rfl (by decide +kernel) ?_
      refine xn_icmpge (tgt := 28) hC dX8_copy_6 (pc' := 9) rfl (by decide) (by omega) (by omega) (fun zc6 => ?_) (fun zc6 => ?_)
      · skip
        refine xi_return hC dX8_copy_28 hr rfl ?_
        obtain rfl : j = 5 := by omega
        exact ⟨rfl, _, su_s, fun o ho => su_n ho, rfl⟩
      · skip
        refine xi_aload_n hC dX8_copy_9 (pc' := 10) rfl rfl rfl ?_
        refine xi_iload hC dX8_copy_10 (pc' := 12) rfl rfl ?_
        refine xi_iload hC dX8_copy_12 (pc' := 14) rfl rfl ?_
        refine xn_iadd hC dX8_copy_14 (pc' := 15) rfl ?_
        refine xi_aload_n hC dX8_copy_15 (pc' := 16) rfl rfl rfl ?_
        refine xi_iload_n hC dX8_copy_16 (pc' := 17) rfl rfl rfl ?_
        refine xi_iload hC dX8_copy_17 (pc' := 19) rfl rfl ?_
        refine xn_iadd hC dX8_copy_19 (pc' := 20) rfl ?_
        refine xt_l_i hC dX8_copy_20 (pc' := 21) rfl (N := Na) h1 g1 n1 rfl (by omega) ?_
        refine xtop (y := (sl (S oa) fa j)) (by
            by_cases q : oa = ob
            · subst q
              rw [su_s, cpy_out (by rcases hne with z | z; exact absurd rfl z; omega)]
              rfl
            · rw [su_n q]
              rfl) ?_
        refine xt_s_i hC dX8_copy_21 (pc' := 22) rfl (N := Nb) h2 g2 n2 rfl (by omega) ?_
        refine xstate (congrArg (jn C) sw_su) ?_
        refine xstate (congrArg (jn C) (congrArg (su S ob) cpy_s)) ?_
        refine xn_iinc (lv' := [some (.ref (b + oMod)), some (.ref (b + oa)), some (.int (nI fa)), some (.ref (b + ob)), some (.int (nI fb)), some (.int (nI (j + 1)))]) hC dX8_copy_22 (pc' := 25) rfl rfl (by decide) rfl ?_
        refine xi_goto (tgt := 3) hC dX8_copy_25 (by decide) ?_
        refine ih3 _ (by omega) ?_
        · omega
  refine L3 _ _ (Nat.lt_succ_self _) ?_
  · omega
set_option maxRecDepth 100000 in
set_option maxHeartbeats 4000000 in
theorem c_X8_greatest (l : Launch) (D : XD) (b n : Nat) {C S : XM} {u v : Nat} (hU : MU S u) (hv : v < 6) : xM l yX8_greatest cX8_greatest 4 (some .int) 2 50 0 0 D b n [.ref (b + oMod), .int (nI v)] (xH D b (jn C S)) n (fun y h' => ∃ (x : Int32) (T : XM), y = some (.int x) ∧ Sp S T ∧ ((∃ a c, fstP u u (rV S v) a c ∧ T oMod 20 = nI a ∧ T oMod 21 = nI c ∧ x = (-10005)) ∨ (¬ fkd u u (rV S v) ∧ x = nI (bst S u v))) ∧ h' = xH D b (jn C T)) := by
  refine xM.of (lv := [some (.ref (b + oMod)), some (.int (nI v)), none, none]) (by decide +kernel) rfl (List.forall_mem_cons.mpr ⟨rfl, List.forall_mem_cons.mpr ⟨rfl, fun _ h => absurd h List.not_mem_nil⟩⟩) (Nat.le_of_ble_eq_true rfl) rfl ?_
  intro p e s m args below meth c hC hr hnm
  obtain ⟨hu, hu2, hu5⟩ := id hU
  refine xi_aload_n hC dX8_greatest_0 (pc' := 1) rfl rfl rfl ?_
  refine xi_sipush (v := -10005) hC dX8_greatest_1 (pc' := 4) rfl (by decide +kernel) ?_
  refine xt_p_pairOne hC dX8_greatest_4 (pc' := 7) rfl xw_f_X8_91 ?_
  refine xi_iconst (v := nI 0) hC dX8_greatest_7 (pc' := 8) rfl (by decide +kernel) ?_
  refine xi_istore_n (lv' := [some (.ref (b + oMod)), some (.int (nI v)), some (.int (nI 0)), none]) hC dX8_greatest_8 (pc' := 9) rfl rfl (by decide) rfl ?_
  have L9 : ∀ (d : Nat) (i : Nat) (T : XM) (v3 : Option Value), u - i < d → (i ≤ u) → (Sp S T) → (((T oMod 20 = (-10005) ∧ (∀ a c, a < i → a < c → c < u → ¬ rel u (rV S v a) (rV S v c) = 2)) ∨ (∃ a c, fstP u u (rV S v) a c ∧ T oMod 20 = nI a ∧ T oMod 21 = nI c))) → xV p l e (xR 2 50 0 0) s m args below meth c D b 4 0 0 (MQ below (xQ D b n (fun y h' => ∃ (x : Int32) (T : XM), y = some (.int x) ∧ Sp S T ∧ ((∃ a c, fstP u u (rV S v) a c ∧ T oMod 20 = nI a ∧ T oMod 21 = nI c ∧ x = (-10005)) ∨ (¬ fkd u u (rV S v) ∧ x = nI (bst S u v))) ∧ h' = xH D b (jn C T))) args s 0 0 (fun q => b ≤ q)) n (xH D b (jn C T)) 9 [some (.ref (b + oMod)), some (.int (nI v)), some (.int (nI i)), v3] [] := by
    intro d
    induction d with
    | zero => intro i T v3 h; exact absurd h (Nat.not_lt_zero _)
    | succ d ih9 =>
      intro i T v3 hd9 hi hSp hs
      refine xi_iload_n hC dX8_greatest_9 (pc' := 10) rfl rfl rfl ?_
      refine xi_aload_n hC dX8_greatest_10 (pc' := 11) rfl rfl rfl ?_
      refine xt_g_users hC dX8_greatest_11 (pc' := 14) rfl xw_f_X8_73 ?_
      refine xtop (y := (nI u)) ((hSp.2 0 (by decide) (by decide)).trans hu) ?_
      refine xn_icmpge (tgt := 83) hC dX8_greatest_14 (pc' := 17) rfl (by decide) (by omega) (by omega) (fun zc14 => ?_) (fun zc14 => ?_)
      · skip
        have hs2 : (T oMod 20 = (-10005) ∧ ¬ fkd u u (rV S v)) ∨ (∃ a c, fstP u u (rV S v) a c ∧ T oMod 20 = nI a ∧ T oMod 21 = nI c) := by
          rcases hs with ⟨q1, q2⟩ | q
          · exact Or.inl ⟨q1, fun ⟨a, c, r1, r2, r3⟩ => q2 a c (by omega) r1 r2 r3⟩
          · exact Or.inr q
        refine xi_iconst (v := nI 0) hC dX8_greatest_83 (pc' := 84) rfl (by decide +kernel) ?_
        refine xi_istore_n (lv' := [some (.ref (b + oMod)), some (.int (nI v)), some (.int (nI 0)), v3]) hC dX8_greatest_84 (pc' := 85) rfl rfl (by decide) rfl ?_
        refine xi_iconst (v := nI 1) hC dX8_greatest_85 (pc' := 86) rfl (by decide +kernel) ?_
        refine xi_istore_n (lv' := [some (.ref (b + oMod)), some (.int (nI v)), some (.int (nI 0)), some (.int (nI 1))]) hC dX8_greatest_86 (pc' := 87) rfl rfl (by decide) rfl ?_
        have L87 : ∀ (d : Nat) (j : Nat) (g : Nat), u - j < d → (j ≤ u - 1) → (g < u) → (g = gix (fun a c => vle u (rV S v a) (rV S v c)) j) → xV p l e (xR 2 50 0 0) s m args below meth c D b 4 0 0 (MQ below (xQ D b n (fun y h' => ∃ (x : Int32) (T : XM), y = some (.int x) ∧ Sp S T ∧ ((∃ a c, fstP u u (rV S v) a c ∧ T oMod 20 = nI a ∧ T oMod 21 = nI c ∧ x = (-10005)) ∨ (¬ fkd u u (rV S v) ∧ x = nI (bst S u v))) ∧ h' = xH D b (jn C T))) args s 0 0 (fun q => b ≤ q)) n (xH D b (jn C T)) 87 [some (.ref (b + oMod)), some (.int (nI v)), some (.int (nI g)), some (.int (nI (j + 1)))] [] := by
          intro d
          induction d with
          | zero => intro j g h; exact absurd h (Nat.not_lt_zero _)
          | succ d ih87 =>
            intro j g hd87 hj hg eg
            refine xi_iload_n hC dX8_greatest_87 (pc' := 88) rfl rfl rfl ?_
            refine xi_aload_n hC dX8_greatest_88 (pc' := 89) rfl rfl rfl ?_
            refine xt_g_users hC dX8_greatest_89 (pc' := 92) rfl xw_f_X8_73 ?_
            refine xtop (y := (nI u)) ((hSp.2 0 (by decide) (by decide)).trans hu) ?_
            refine xn_icmpge (tgt := 132) hC dX8_greatest_92 (pc' := 95) rfl (by decide) (by omega) (by omega) (fun zc92 => ?_) (fun zc92 => ?_)
            · skip
              refine xi_aload_n hC dX8_greatest_132 (pc' := 133) rfl rfl rfl ?_
              refine xt_g_pairOne hC dX8_greatest_133 (pc' := 136) rfl xw_f_X8_91 ?_
              refine xi_ifge (tgt := 143) hC dX8_greatest_136 (pc' := 139) rfl (by decide) (fun zc136 => ?_) (fun zc136 => ?_)
              · skip
                refine xi_sipush (v := -10005) hC dX8_greatest_143 (pc' := 146) rfl (by decide +kernel) ?_
                refine xi_ireturn hC dX8_greatest_146 hr rfl ?_
                refine ⟨_, T, rfl, hSp, ?_, rfl⟩
                rcases hs2 with ⟨q1, q2⟩ | ⟨a, c, q1, q2, q3⟩
                · rw [q1] at zc136; exact absurd zc136 (by decide)
                · exact Or.inl ⟨a, c, q1, q2, q3, rfl⟩
              · skip
                refine xi_iload_n hC dX8_greatest_139 (pc' := 140) rfl rfl rfl ?_
                refine xi_goto (tgt := 146) hC dX8_greatest_140 (by decide) ?_
                refine xi_ireturn hC dX8_greatest_146 hr rfl ?_
                refine ⟨_, T, rfl, hSp, ?_, rfl⟩
                rcases hs2 with ⟨q1, q2⟩ | ⟨a, c, q1, q2, q3⟩
                · exact Or.inr ⟨q2, by rw [eg, show j = u - 1 by omega]; rfl⟩
                · rw [q2] at zc136; exact absurd (nI_pos' (by have := q1.1; have := q1.2.1; omega)) zc136
            · skip
              refine xi_aload_n hC dX8_greatest_95 (pc' := 96) rfl rfl rfl ?_
              refine xi_aload_n hC dX8_greatest_96 (pc' := 97) rfl rfl rfl ?_
              refine xg8_row hC dX8_greatest_97 (pc' := 100) rfl xw_f_X8_7 kd_oMod ?_
              refine xi_iload_n hC dX8_greatest_100 (pc' := 101) rfl rfl rfl ?_
              refine xi_iload_n hC dX8_greatest_101 (pc' := 102) rfl rfl rfl ?_
              refine xi_callS (As := [.int (nI v), .int (nI g)]) (rest := [.ref (b + m_row), .ref (b + oMod)]) (c_X8_entryAt l D b n (C := C) (S := T) (a := v) (c := g)) hC dX8_greatest_102 (pc' := 105) rfl xw_m_X8_94 xw_c_X8_entryAt xw_sta_X8_entryAt xw_ini_X8 xd_X8_entryAt ⟨Nat.le_of_ble_eq_true rfl, Nat.le_of_ble_eq_true rfl⟩ rfl (Nat.le_of_ble_eq_true rfl) ⟨Nat.le_of_ble_eq_true rfl, Nat.le_of_ble_eq_true rfl⟩ ?_
              rintro _ _ ⟨rfl, rfl⟩
              show xV _ _ _ _ _ _ _ _ _ _ _ _ _ _ _ _ _ (xH D b (jn C T)) _ _ [.int (nI (30 * v + 5 * g)), .ref (b + m_row), .ref (b + oMod)]
              refine xi_aload_n hC dX8_greatest_105 (pc' := 106) rfl rfl rfl ?_
              refine xg8_row hC dX8_greatest_106 (pc' := 109) rfl xw_f_X8_7 kd_oMod ?_
              refine xi_iload_n hC dX8_greatest_109 (pc' := 110) rfl rfl rfl ?_
              refine xi_iload_n hC dX8_greatest_110 (pc' := 111) rfl rfl rfl ?_
              refine xi_callS (As := [.int (nI v), .int (nI (j + 1))]) (rest := [.ref (b + m_row), .int (nI (30 * v + 5 * g)), .ref (b + m_row), .ref (b + oMod)]) (c_X8_entryAt l D b n (C := C) (S := T) (a := v) (c := j + 1)) hC dX8_greatest_111 (pc' := 114) rfl xw_m_X8_94 xw_c_X8_entryAt xw_sta_X8_entryAt xw_ini_X8 xd_X8_entryAt ⟨Nat.le_of_ble_eq_true rfl, Nat.le_of_ble_eq_true rfl⟩ rfl (Nat.le_of_ble_eq_true rfl) ⟨Nat.le_of_ble_eq_true rfl, Nat.le_of_ble_eq_true rfl⟩ ?_
              rintro _ _ ⟨rfl, rfl⟩
              show xV _ _ _ _ _ _ _ _ _ _ _ _ _ _ _ _ _ (xH D b (jn C T)) _ _ [.int (nI (30 * v + 5 * (j + 1))), .ref (b + m_row), .int (nI (30 * v + 5 * g)), .ref (b + m_row), .ref (b + oMod)]
              refine xi_callV (As := [.ref (b + m_row), .int (nI (30 * v + 5 * g)), .ref (b + m_row), .int (nI (30 * v + 5 * (j + 1)))]) (rest := []) (c_X8_atMost l D b n (C := C) (S := T) (u := u) (oa := m_row) (Na := 180) (ob := m_row) (Nb := 180) (fa := 30 * v + 5 * g) (fb := 30 * v + 5 * (j + 1)) (hSp.mu hU) kd_m_row (by decide) (by decide) kd_m_row (by decide) (by decide) (by omega) (by omega) ) hC dX8_greatest_114 (pc' := 117) rfl xw_m_X8_87 xw_c_X8_atMost xw_ins_X8_atMost xw_sel_X8_atMost xw_ini_X8 xd_X8_atMost (xH_at.trans (xsh_8 kd_oMod)) rfl ⟨Nat.le_of_ble_eq_true rfl, Nat.le_of_ble_eq_true rfl⟩ rfl (Nat.le_of_ble_eq_true rfl) ⟨Nat.le_of_ble_eq_true rfl, Nat.le_of_ble_eq_true rfl⟩ ?_
              rintro _ _ ⟨rfl, rfl⟩
              show xV _ _ _ _ _ _ _ _ _ _ _ _ _ _ _ _ _ (xH D b (jn C T)) _ _ [.int (bI (vle u (sl (T m_row) (30 * v + 5 * g)) (sl (T m_row) (30 * v + 5 * (j + 1)))))]
              refine xb_ifeq (tgt := 124) hC dX8_greatest_117 (pc' := 120) rfl (by decide) (fun zc117 => ?_) (fun zc117 => ?_)
              · skip
                refine xi_iload_n hC dX8_greatest_124 (pc' := 125) rfl rfl rfl ?_
                refine xi_istore_n (lv' := [some (.ref (b + oMod)), some (.int (nI v)), some (.int (nI g)), some (.int (nI (j + 1)))]) hC dX8_greatest_125 (pc' := 126) rfl rfl (by decide) rfl ?_
                refine xn_iinc (lv' := [some (.ref (b + oMod)), some (.int (nI v)), some (.int (nI g)), some (.int (nI (j + 1 + 1)))]) hC dX8_greatest_126 (pc' := 129) rfl rfl (by decide) rfl ?_
                refine xi_goto (tgt := 87) hC dX8_greatest_129 (by decide) ?_
                refine ih87 _ _ (by omega) ?_ ?_ ?_
                · omega
                · omega
                · rw [hSp.1 m_row (by decide)] at zc117
                  first | (rw [gix_t (by rw [← eg]; exact zc117)]) | (rw [gix_f (by rw [← eg]; exact zc117)]; exact eg)
              · skip
                refine xi_iload_n hC dX8_greatest_120 (pc' := 121) rfl rfl rfl ?_
                refine xi_goto (tgt := 125) hC dX8_greatest_121 (by decide) ?_
                refine xi_istore_n (lv' := [some (.ref (b + oMod)), some (.int (nI v)), some (.int (nI (j + 1))), some (.int (nI (j + 1)))]) hC dX8_greatest_125 (pc' := 126) rfl rfl (by decide) rfl ?_
                refine xn_iinc (lv' := [some (.ref (b + oMod)), some (.int (nI v)), some (.int (nI (j + 1))), some (.int (nI (j + 1 + 1)))]) hC dX8_greatest_126 (pc' := 129) rfl rfl (by decide) rfl ?_
                refine xi_goto (tgt := 87) hC dX8_greatest_129 (by decide) ?_
                refine ih87 _ _ (by omega) ?_ ?_ ?_
                · omega
                · omega
                · rw [hSp.1 m_row (by decide)] at zc117
                  first | (rw [gix_t (by rw [← eg]; exact zc117)]) | (rw [gix_f (by rw [← eg]; exact zc117)]; exact eg)
        refine L87 _ _ _ (Nat.lt_succ_self _) ?_ ?_ ?_
        · omega
        · omega
        · rfl
      · skip
        refine xi_iload_n hC dX8_greatest_17 (pc' := 18) rfl rfl rfl ?_
        refine xi_iconst (v := nI 1) hC dX8_greatest_18 (pc' := 19) rfl (by decide +kernel) ?_
        refine xn_iadd hC dX8_greatest_19 (pc' := 20) rfl ?_
        refine xi_istore_n (lv' := [some (.ref (b + oMod)), some (.int (nI v)), some (.int (nI i)), some (.int (nI (i + 1)))]) hC dX8_greatest_20 (pc' := 21) rfl rfl (by decide) rfl ?_
        have L21 : ∀ (d : Nat) (y : Nat) (T : XM), u - y < d → (i < y ∧ y ≤ u) → (Sp S T) → (((T oMod 20 = (-10005) ∧ (∀ a c, a < i → a < c → c < u → ¬ rel u (rV S v a) (rV S v c) = 2) ∧ (∀ c, i < c → c < y → ¬ rel u (rV S v i) (rV S v c) = 2)) ∨ (∃ a c, fstP u u (rV S v) a c ∧ T oMod 20 = nI a ∧ T oMod 21 = nI c))) → xV p l e (xR 2 50 0 0) s m args below meth c D b 4 0 0 (MQ below (xQ D b n (fun y h' => ∃ (x : Int32) (T : XM), y = some (.int x) ∧ Sp S T ∧ ((∃ a c, fstP u u (rV S v) a c ∧ T oMod 20 = nI a ∧ T oMod 21 = nI c ∧ x = (-10005)) ∨ (¬ fkd u u (rV S v) ∧ x = nI (bst S u v))) ∧ h' = xH D b (jn C T))) args s 0 0 (fun q => b ≤ q)) n (xH D b (jn C T)) 21 [some (.ref (b + oMod)), some (.int (nI v)), some (.int (nI i)), some (.int (nI y))] [] := by
          intro d
          induction d with
          | zero => intro y T h; exact absurd h (Nat.not_lt_zero _)
          | succ d ih21 =>
            intro y T hd21 hy hSp hs
            refine xi_iload_n hC dX8_greatest_21 (pc' := 22) rfl rfl rfl ?_
            refine xi_aload_n hC dX8_greatest_22 (pc' := 23) rfl rfl rfl ?_
            refine xt_g_users hC dX8_greatest_23 (pc' := 26) rfl xw_f_X8_73 ?_
            refine xtop (y := (nI u)) ((hSp.2 0 (by decide) (by decide)).trans hu) ?_
            refine xn_icmpge (tgt := 77) hC dX8_greatest_26 (pc' := 29) rfl (by decide) (by omega) (by omega) (fun zc26 => ?_) (fun zc26 => ?_)
            · skip
              refine xn_iinc (lv' := [some (.ref (b + oMod)), some (.int (nI v)), some (.int (nI (i + 1))), some (.int (nI y))]) hC dX8_greatest_77 (pc' := 80) rfl rfl (by decide) rfl ?_
              refine xi_goto (tgt := 9) hC dX8_greatest_80 (by decide) ?_
              refine ih9 _ _ _ (by omega) ?_ ?_ ?_
              · omega
              · exact hSp
              · rcases hs with ⟨q1, q2, q3⟩ | q
                · first
                    | (refine Or.inl ⟨q1, fun a c r1 r2 r3 => ?_⟩
                       rcases Nat.lt_or_ge a i with z | z
                       · exact q2 a c z r2 r3
                       · obtain rfl : a = i := by omega
                         exact q3 c r2 (by omega))
                    | (rw [q1] at zc33; exact absurd zc33 (by decide))
                · exact Or.inr q
            · skip
              refine xi_aload_n hC dX8_greatest_29 (pc' := 30) rfl rfl rfl ?_
              refine xt_g_pairOne hC dX8_greatest_30 (pc' := 33) rfl xw_f_X8_91 ?_
              refine xi_ifge (tgt := 77) hC dX8_greatest_33 (pc' := 36) rfl (by decide) (fun zc33 => ?_) (fun zc33 => ?_)
              · skip
                refine xn_iinc (lv' := [some (.ref (b + oMod)), some (.int (nI v)), some (.int (nI (i + 1))), some (.int (nI y))]) hC dX8_greatest_77 (pc' := 80) rfl rfl (by decide) rfl ?_
                refine xi_goto (tgt := 9) hC dX8_greatest_80 (by decide) ?_
                refine ih9 _ _ _ (by omega) ?_ ?_ ?_
                · omega
                · exact hSp
                · rcases hs with ⟨q1, q2, q3⟩ | q
                  · first
                      | (refine Or.inl ⟨q1, fun a c r1 r2 r3 => ?_⟩
                         rcases Nat.lt_or_ge a i with z | z
                         · exact q2 a c z r2 r3
                         · obtain rfl : a = i := by omega
                           exact q3 c r2 (by omega))
                      | (rw [q1] at zc33; exact absurd zc33 (by decide))
                  · exact Or.inr q
              · skip
                refine xi_aload_n hC dX8_greatest_36 (pc' := 37) rfl rfl rfl ?_
                refine xi_aload_n hC dX8_greatest_37 (pc' := 38) rfl rfl rfl ?_
                refine xg8_row hC dX8_greatest_38 (pc' := 41) rfl xw_f_X8_7 kd_oMod ?_
                refine xi_iload_n hC dX8_greatest_41 (pc' := 42) rfl rfl rfl ?_
                refine xi_iload_n hC dX8_greatest_42 (pc' := 43) rfl rfl rfl ?_
                refine xi_callS (As := [.int (nI v), .int (nI i)]) (rest := [.ref (b + m_row), .ref (b + oMod)]) (c_X8_entryAt l D b n (C := C) (S := T) (a := v) (c := i)) hC dX8_greatest_43 (pc' := 46) rfl xw_m_X8_94 xw_c_X8_entryAt xw_sta_X8_entryAt xw_ini_X8 xd_X8_entryAt ⟨Nat.le_of_ble_eq_true rfl, Nat.le_of_ble_eq_true rfl⟩ rfl (Nat.le_of_ble_eq_true rfl) ⟨Nat.le_of_ble_eq_true rfl, Nat.le_of_ble_eq_true rfl⟩ ?_
                rintro _ _ ⟨rfl, rfl⟩
                show xV _ _ _ _ _ _ _ _ _ _ _ _ _ _ _ _ _ (xH D b (jn C T)) _ _ [.int (nI (30 * v + 5 * i)), .ref (b + m_row), .ref (b + oMod)]
                refine xi_aload_n hC dX8_greatest_46 (pc' := 47) rfl rfl rfl ?_
                refine xg8_row hC dX8_greatest_47 (pc' := 50) rfl xw_f_X8_7 kd_oMod ?_
                refine xi_iload_n hC dX8_greatest_50 (pc' := 51) rfl rfl rfl ?_
                refine xi_iload_n hC dX8_greatest_51 (pc' := 52) rfl rfl rfl ?_
                refine xi_callS (As := [.int (nI v), .int (nI y)]) (rest := [.ref (b + m_row), .int (nI (30 * v + 5 * i)), .ref (b + m_row), .ref (b + oMod)]) (c_X8_entryAt l D b n (C := C) (S := T) (a := v) (c := y)) hC dX8_greatest_52 (pc' := 55) rfl xw_m_X8_94 xw_c_X8_entryAt xw_sta_X8_entryAt xw_ini_X8 xd_X8_entryAt ⟨Nat.le_of_ble_eq_true rfl, Nat.le_of_ble_eq_true rfl⟩ rfl (Nat.le_of_ble_eq_true rfl) ⟨Nat.le_of_ble_eq_true rfl, Nat.le_of_ble_eq_true rfl⟩ ?_
                rintro _ _ ⟨rfl, rfl⟩
                show xV _ _ _ _ _ _ _ _ _ _ _ _ _ _ _ _ _ (xH D b (jn C T)) _ _ [.int (nI (30 * v + 5 * y)), .ref (b + m_row), .int (nI (30 * v + 5 * i)), .ref (b + m_row), .ref (b + oMod)]
                refine xi_callV (As := [.ref (b + m_row), .int (nI (30 * v + 5 * i)), .ref (b + m_row), .int (nI (30 * v + 5 * y))]) (rest := []) (c_X8_areApart l D b n (C := C) (S := T) (u := u) (oa := m_row) (Na := 180) (ob := m_row) (Nb := 180) (fa := 30 * v + 5 * i) (fb := 30 * v + 5 * y) (hSp.mu hU) kd_m_row (by decide) (by decide) kd_m_row (by decide) (by decide) (by omega) (by omega) ) hC dX8_greatest_55 (pc' := 58) rfl xw_m_X8_98 xw_c_X8_areApart xw_ins_X8_areApart xw_sel_X8_areApart xw_ini_X8 xd_X8_areApart (xH_at.trans (xsh_8 kd_oMod)) rfl ⟨Nat.le_of_ble_eq_true rfl, Nat.le_of_ble_eq_true rfl⟩ rfl (Nat.le_of_ble_eq_true rfl) ⟨Nat.le_of_ble_eq_true rfl, Nat.le_of_ble_eq_true rfl⟩ ?_
                rintro _ _ ⟨rfl, rfl⟩
                show xV _ _ _ _ _ _ _ _ _ _ _ _ _ _ _ _ _ (xH D b (jn C T)) _ _ [.int (bI (rel u (sl (T m_row) (30 * v + 5 * i)) (sl (T m_row) (30 * v + 5 * y)) = 2))]
                refine xb_ifeq (tgt := 71) hC dX8_greatest_58 (pc' := 61) rfl (by decide) (fun zc58 => ?_) (fun zc58 => ?_)
                · skip
                  refine xn_iinc (lv' := [some (.ref (b + oMod)), some (.int (nI v)), some (.int (nI i)), some (.int (nI (y + 1)))]) hC dX8_greatest_71 (pc' := 74) rfl rfl (by decide) rfl ?_
                  refine xi_goto (tgt := 21) hC dX8_greatest_74 (by decide) ?_
                  refine ih21 _ _ (by omega) ?_ ?_ ?_
                  · omega
                  · first | exact hSp | exact (hSp.w (Or.inl rfl)).w (Or.inr rfl)
                  · rcases hs with ⟨q1, q2, q3⟩ | ⟨a, c, q1, q2, q3⟩
                    · first
                        | (refine Or.inl ⟨q1, q2, fun c r1 r2 => ?_⟩
                           rcases Nat.lt_or_ge c y with z | z
                           · exact q3 c r1 z
                           · obtain rfl : c = y := by omega
                             rw [hSp.1 m_row (by decide)] at zc58
                             exact zc58)
                        | (refine Or.inr ⟨i, y, ⟨hy.1, by omega, by rw [hSp.1 m_row (by decide)] at zc58; exact zc58, fun a c r1 r2 r3 => ?_⟩, by rw [sw_k (by decide), sw_s], sw_s⟩
                           rcases Nat.lt_or_ge a i with z | z
                           · exact absurd r3 (q2 a c z r1 r2)
                           · rcases Nat.lt_or_ge i a with z2 | z2
                             · exact Or.inl z2
                             · obtain rfl : a = i := by omega
                               refine Or.inr ⟨rfl, ?_⟩
                               rcases Nat.lt_or_ge c y with z3 | z3
                               · exact absurd r3 (q3 c r1 z3)
                               · exact z3)
                    · rw [q2] at zc33
                      exact absurd (nI_pos' (by have := q1.1; have := q1.2.1; omega)) zc33
                · skip
                  refine xi_aload_n hC dX8_greatest_61 (pc' := 62) rfl rfl rfl ?_
                  refine xi_iload_n hC dX8_greatest_62 (pc' := 63) rfl rfl rfl ?_
                  refine xt_p_pairOne hC dX8_greatest_63 (pc' := 66) rfl xw_f_X8_91 ?_
                  refine xi_aload_n hC dX8_greatest_66 (pc' := 67) rfl rfl rfl ?_
                  refine xi_iload_n hC dX8_greatest_67 (pc' := 68) rfl rfl rfl ?_
                  refine xt_p_pairTwo hC dX8_greatest_68 (pc' := 71) rfl xw_f_X8_101 ?_
                  refine xn_iinc (lv' := [some (.ref (b + oMod)), some (.int (nI v)), some (.int (nI i)), some (.int (nI (y + 1)))]) hC dX8_greatest_71 (pc' := 74) rfl rfl (by decide) rfl ?_
                  refine xi_goto (tgt := 21) hC dX8_greatest_74 (by decide) ?_
                  refine ih21 _ _ (by omega) ?_ ?_ ?_
                  · omega
                  · first | exact hSp | exact (hSp.w (Or.inl rfl)).w (Or.inr rfl)
                  · rcases hs with ⟨q1, q2, q3⟩ | ⟨a, c, q1, q2, q3⟩
                    · first
                        | (refine Or.inl ⟨q1, q2, fun c r1 r2 => ?_⟩
                           rcases Nat.lt_or_ge c y with z | z
                           · exact q3 c r1 z
                           · obtain rfl : c = y := by omega
                             rw [hSp.1 m_row (by decide)] at zc58
                             exact zc58)
                        | (refine Or.inr ⟨i, y, ⟨hy.1, by omega, by rw [hSp.1 m_row (by decide)] at zc58; exact zc58, fun a c r1 r2 r3 => ?_⟩, by rw [sw_k (by decide), sw_s], sw_s⟩
                           rcases Nat.lt_or_ge a i with z | z
                           · exact absurd r3 (q2 a c z r1 r2)
                           · rcases Nat.lt_or_ge i a with z2 | z2
                             · exact Or.inl z2
                             · obtain rfl : a = i := by omega
                               refine Or.inr ⟨rfl, ?_⟩
                               rcases Nat.lt_or_ge c y with z3 | z3
                               · exact absurd r3 (q3 c r1 z3)
                               · exact z3)
                    · rw [q2] at zc33
                      exact absurd (nI_pos' (by have := q1.1; have := q1.2.1; omega)) zc33
        refine L21 _ _ _ (Nat.lt_succ_self _) ?_ ?_ ?_
        · omega
        · exact hSp
        · rcases hs with ⟨q1, q2⟩ | q; exact Or.inl ⟨q1, q2, fun c r1 r2 => by omega⟩; exact Or.inr q
  refine L9 _ _ _ _ (Nat.lt_succ_self _) ?_ ?_ ?_
  · omega
  · exact Sp.rf.w (Or.inl rfl)
  · exact Or.inl ⟨sw_s, fun a c q => by omega⟩
