/-! ===== the twin: pure words ===== -/
def sl (f : Nat → Int32) (a : Nat) : Nat → Int32 := fun k => f (a + k)
def cpy (n : Nat) (f : Nat → Int32) (t : Nat) (g : Nat → Int32) : Nat → Int32 := fun j => if t ≤ j ∧ j < t + n then g (j - t) else f j
theorem cpy_in {n t k : Nat} {f g : Nat → Int32} (h : k < n) : cpy n f t g (t + k) = g k := by
  unfold cpy
  rw [if_pos ⟨by omega, by omega⟩, Nat.add_sub_cancel_left]
theorem cpy_at {n t j : Nat} {f g : Nat → Int32} (h : t ≤ j) (h2 : j < t + n) : cpy n f t g j = g (j - t) := if_pos ⟨h, h2⟩
theorem cpy_out {n t j : Nat} {f g : Nat → Int32} (h : j < t ∨ t + n ≤ j) : cpy n f t g j = f j := if_neg (by omega)
theorem cpy_0 {t : Nat} {f g : Nat → Int32} : cpy 0 f t g = f := by
  funext j
  exact cpy_out (by omega)
theorem cpy_s {n t : Nat} {f g : Nat → Int32} : upd (cpy n f t g) (t + n) (g n) = cpy (n + 1) f t g := by
  funext j
  by_cases h : j = t + n
  · subst h; rw [upd_s, cpy_in (by omega)]
  · rw [upd_n h]
    by_cases h2 : t ≤ j ∧ j < t + n
    · rw [cpy_at h2.1 h2.2, cpy_at h2.1 (by omega)]
    · rw [cpy_out (by omega), cpy_out (by omega)]
theorem cpy_congr {n t : Nat} {f g g' : Nat → Int32} (h : ∀ k, k < n → g k = g' k) : cpy n f t g = cpy n f t g' := by
  funext j
  by_cases h2 : t ≤ j ∧ j < t + n
  · rw [cpy_at h2.1 h2.2, cpy_at h2.1 h2.2]; exact h _ (by omega)
  · rw [cpy_out (by omega), cpy_out (by omega)]
theorem cpy_upd {n t j : Nat} {f g : Nat → Int32} {x : Int32} (h : j < n) : upd (cpy n f t g) (t + j) x = cpy n f t (upd g j x) := by
  funext q
  by_cases hq : q = t + j
  · subst hq; rw [upd_s, cpy_in h, upd_s]
  · rw [upd_n hq]
    by_cases h2 : t ≤ q ∧ q < t + n
    · rw [cpy_at h2.1 h2.2, cpy_at h2.1 h2.2, upd_n (by omega)]
    · rw [cpy_out (by omega), cpy_out (by omega)]
theorem su_su {σ : XM} {o : Nat} {f g : Nat → Int32} : su (su σ o f) o g = su σ o g := by
  funext q
  by_cases h : q = o
  · subst h; rw [su_s, su_s]
  · rw [su_n h, su_n h, su_n h]
/-- the users' numbers: u of them -/
def MU (S : XM) (u : Nat) : Prop := S oMod 0 = nI u ∧ 2 ≤ u ∧ u ≤ 5
def MN (S : XM) (w : Nat) : Prop := S oMod 1 = nI w ∧ 1 ≤ w ∧ w ≤ 6
def isU (u : Nat) (x : Int32) : Prop := ∃ i, i < u ∧ x = nI i
theorem isU_1 {u : Nat} {x : Int32} (h1 : 1 ≤ u) (h : u < 2 ^ 31) : (nI 0 ≤ x ∧ x ≤ nI (u - 1)) ↔ isU u x := by
  constructor
  · rintro ⟨q1, q2⟩
    obtain ⟨j, hj, rfl⟩ := nI_of (x := x) (by rw [← nI_0]; exact i_not_lt.mpr q1)
    exact ⟨j, by have := (nI_leI hj (by omega)).mp q2; omega, rfl⟩
  · rintro ⟨i, hi, rfl⟩
    exact ⟨nI_le (by omega) (by omega), nI_le (by omega) (by omega)⟩
theorem isU_2 {u : Nat} {x : Int32} (h : u < 2 ^ 31) : (0 ≤ x ∧ x < nI u) ↔ isU u x := by
  constructor
  · rintro ⟨q1, q2⟩
    obtain ⟨j, hj, rfl⟩ := nI_of (x := x) (i_not_lt.mpr q1)
    exact ⟨j, (nI_ltI hj h).mp q2, rfl⟩
  · rintro ⟨i, hi, rfl⟩
    exact ⟨nI_pos' (by omega), nI_lt hi h⟩
/-- nothing but the two places of the first pair has changed -/
def Sp (S T : XM) : Prop := (∀ o, o ≠ oMod → T o = S o) ∧ ∀ k, k ≠ 20 → k ≠ 21 → T oMod k = S oMod k
theorem Sp.rf {S : XM} : Sp S S := ⟨fun _ _ => rfl, fun _ _ _ => rfl⟩
theorem Sp.tr {S T U : XM} (h : Sp S T) (h2 : Sp T U) : Sp S U := ⟨fun o ho => (h2.1 o ho).trans (h.1 o ho), fun k h3 h4 => (h2.2 k h3 h4).trans (h.2 k h3 h4)⟩
theorem Sp.w {S T : XM} {k : Nat} {x : Int32} (h : Sp S T) (hk : k = 20 ∨ k = 21) : Sp S (sw T oMod k x) := ⟨fun o ho => (sw_n ho).trans (h.1 o ho), fun j h3 h4 => (sw_k (by omega)).trans (h.2 j h3 h4)⟩
theorem Sp.mu {S T : XM} {u : Nat} (h : Sp S T) (hU : MU S u) : MU T u := ⟨(h.2 0 (by decide) (by decide)).trans hU.1, hU.2⟩
/-- the vectors of a view's entries -/
def rV (S : XM) (v i : Nat) : Nat → Int32 := sl (S m_row) (30 * v + 5 * i)
def rK (S : XM) (i : Nat) : Nat → Int32 := sl (S m_knownOf) (5 * i)
def rG (S : XM) (i : Nat) : Nat → Int32 := sl (S m_signedOf) (5 * i)
noncomputable def bst (S : XM) (u v : Nat) : Nat := gix (fun a c => vle u (rV S v a) (rV S v c)) (u - 1)
/-- the alarm that an operation of user i would raise in view v -/
noncomputable def al (S : XM) (u v i : Nat) : Nat := @ite _ (vle u (rV S v i) (rG S i) ∧ vle u (rG S i) (rV S v i)) (Classical.propDecidable _) (@ite _ (fkd u u (rV S v)) (Classical.propDecidable _) 2 (@ite _ (vle u (rK S i) (rV S v (bst S u v))) (Classical.propDecidable _) 0 3)) 1
theorem al_1 {S : XM} {u v i : Nat} (h : ¬ (vle u (rV S v i) (rG S i) ∧ vle u (rG S i) (rV S v i))) : al S u v i = 1 := if_neg h
theorem al_2 {S : XM} {u v i : Nat} (h : vle u (rV S v i) (rG S i) ∧ vle u (rG S i) (rV S v i)) (h2 : fkd u u (rV S v)) : al S u v i = 2 := by unfold al; rw [if_pos h, if_pos h2]
theorem al_0 {S : XM} {u v i : Nat} (h : vle u (rV S v i) (rG S i) ∧ vle u (rG S i) (rV S v i)) (h2 : ¬ fkd u u (rV S v)) (h3 : vle u (rK S i) (rV S v (bst S u v))) : al S u v i = 0 := by unfold al; rw [if_pos h, if_neg h2, if_pos h3]
theorem al_3 {S : XM} {u v i : Nat} (h : vle u (rV S v i) (rG S i) ∧ vle u (rG S i) (rV S v i)) (h2 : ¬ fkd u u (rV S v)) (h3 : ¬ vle u (rK S i) (rV S v (bst S u v))) : al S u v i = 3 := by unfold al; rw [if_pos h, if_neg h2, if_neg h3]
theorem al_cases (S : XM) (u v i : Nat) : (al S u v i = 1 ∧ ¬ (vle u (rV S v i) (rG S i) ∧ vle u (rG S i) (rV S v i))) ∨ ((vle u (rV S v i) (rG S i) ∧ vle u (rG S i) (rV S v i)) ∧ ((al S u v i = 2 ∧ fkd u u (rV S v)) ∨ (¬ fkd u u (rV S v) ∧ ((al S u v i = 0 ∧ vle u (rK S i) (rV S v (bst S u v))) ∨ (al S u v i = 3 ∧ ¬ vle u (rK S i) (rV S v (bst S u v))))))) := by
  by_cases h : vle u (rV S v i) (rG S i) ∧ vle u (rG S i) (rV S v i)
  · refine Or.inr ⟨h, ?_⟩
    by_cases h2 : fkd u u (rV S v)
    · exact Or.inl ⟨al_2 h h2, h2⟩
    · refine Or.inr ⟨h2, ?_⟩
      by_cases h3 : vle u (rK S i) (rV S v (bst S u v))
      · exact Or.inl ⟨al_0 h h2 h3, h3⟩
      · exact Or.inr ⟨al_3 h h2 h3, h3⟩
  · exact Or.inl ⟨al_1 h, h⟩
theorem fst_fkd {n w : Nat} {v : Nat → Nat → Int32} {a c : Nat} (h : fstP n w v a c) : fkd n w v := ⟨a, c, h.1, h.2.1, h.2.2.1⟩
theorem bst_lt {S : XM} {u v : Nat} (h : 1 ≤ u) : bst S u v < u := by
  have := gix_le (fun a c => vle u (rV S v a) (rV S v c)) (u - 1)
  unfold bst
  omega
theorem Sp.rV {S T : XM} (h : Sp S T) (v : Nat) : rV T v = rV S v := by
  funext i
  show sl (T m_row) _ = sl (S m_row) _
  rw [h.1 m_row (by decide)]
theorem Sp.rK {S T : XM} (h : Sp S T) (i : Nat) : rK T i = rK S i := by
  show sl (T m_knownOf) _ = sl (S m_knownOf) _
  rw [h.1 m_knownOf (by decide)]
theorem Sp.rG {S T : XM} (h : Sp S T) (i : Nat) : rG T i = rG S i := by
  show sl (T m_signedOf) _ = sl (S m_signedOf) _
  rw [h.1 m_signedOf (by decide)]
theorem Sp.bst {S T : XM} (h : Sp S T) (u v : Nat) : bst T u v = bst S u v := by
  show gix (fun a c => vle u (_root_.Jvm.Pilot.@@N@@.rV T v a) (_root_.Jvm.Pilot.@@N@@.rV T v c)) _ = gix _ _
  rw [h.rV]
theorem Sp.al {S T : XM} (h : Sp S T) (u v i : Nat) : al T u v i = al S u v i := by
  have h1 := h.rV v
  have h2 := h.rK i
  have h3 := h.rG i
  have h4 := h.bst u v
  rcases al_cases S u v i with ⟨e, q⟩ | ⟨q, ⟨e, q2⟩ | ⟨q2, ⟨e, q3⟩ | ⟨e, q3⟩⟩⟩
  · rw [e]; exact al_1 (by rw [h1, h3]; exact q)
  · rw [e]; exact al_2 (by rw [h1, h3]; exact q) (by rw [h1]; exact q2)
  · rw [e]; exact al_0 (by rw [h1, h3]; exact q) (by rw [h1]; exact q2) (by rw [h1, h2, h4]; exact q3)
  · rw [e]; exact al_3 (by rw [h1, h3]; exact q) (by rw [h1]; exact q2) (by rw [h1, h2, h4]; exact q3)
def mKeep (S : XM) (i : Nat) (d : Int32) (f1 f2 : Nat → Int32) (T : XM) : Prop :=
  (S m_hasProof i ≠ 0 ∧ T = S) ∨ (S m_hasProof i = 0 ∧ T = su (sw (sw S m_hasProof i (nI 1)) m_depthOf i d) m_proofOf (cpy 5 (cpy 5 (S m_proofOf) (10 * i) f1) (10 * i + 5) f2))
def mRaise (S : XM) (u v i : Nat) (x : Nat) (T : XM) : Prop :=
  (x = 1 ∧ T = sw S m_alarmOf i (nI 1)) ∨ (x = 2 ∧ ∃ a c, fstP u u (rV S v) a c ∧ mKeep (sw S m_alarmOf i (nI 2)) i (nI 0) (rV S v a) (rV S v c) T) ∨
  (x = 3 ∧ ∃ T1, Sp (sw S m_alarmOf i (nI 3)) T1 ∧ ((rel u (rK S i) (rV S v (bst S u v)) = 2 ∧ mKeep T1 i (nI 0) (rK S i) (rV S v (bst S u v)) T) ∨ (rel u (rK S i) (rV S v (bst S u v)) ≠ 2 ∧ T = T1)))
/-- what a view remembers behind one more operation -/
def mRem (S : XM) (v k : Nat) (g : Nat → Int32) : Prop :=
  (∀ x, x < 30 → g (150 * v + 30 * min k 4 + x) = S m_row (30 * v + x)) ∧ (∀ x, x < 30 * min k 4 → g (150 * v + x) = S m_keptRow (150 * v + 30 * (k - min k 4) + x)) ∧ ∀ x, (x < 150 * v ∨ 150 * v + 150 ≤ x) → g x = S m_keptRow x
