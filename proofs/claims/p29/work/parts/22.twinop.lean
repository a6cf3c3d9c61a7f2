theorem upd_self {f : Nat → Int32} {k : Nat} {x : Int32} (h : f k = x) : f = upd f k x := by
  funext j
  by_cases q : j = k
  · subst q; rw [upd_s, h]
  · rw [upd_n q]
theorem sw_o {σ : XM} {o k : Nat} {x : Int32} : sw σ o k x o = upd (σ o) k x := su_s
noncomputable def oU (S : XM) (u v i : Nat) : Nat → Int32 := upd (rV S v (bst S u v)) i (rV S v (bst S u v) i + nI 1)
/-- an operation of user i, attached to view v, which remembers k -/
def mOper (S : XM) (u v i k : Nat) (T : XM) : Prop :=
  (al S u v i ≠ 0 ∧ ∃ T1, Sp (sw S m_shownTo i (S m_shownTo i + nI (u * u))) T1 ∧ mRaise T1 u v i (al S u v i) T) ∨
  (al S u v i = 0 ∧ ¬ fkd u u (rV S v) ∧ T m_shownTo = upd (S m_shownTo) i (S m_shownTo i + nI (u * u)) ∧ T m_signedOf = cpy 5 (S m_signedOf) (5 * i) (oU S u v i) ∧ T m_knownOf = cpy 5 (S m_knownOf) (5 * i) (oU S u v i) ∧ T m_row = cpy 5 (S m_row) (30 * v + 5 * i) (oU S u v i) ∧ T m_sentBy = upd (S m_sentBy) i (S m_sentBy i + nI u) ∧ T m_doneOf = upd (S m_doneOf) i (S m_doneOf i + nI 1) ∧ T oMod 2 = S oMod 2 + nI 1 ∧ T m_keptOf = upd (S m_keptOf) v (nI (min (k + 1) 5)) ∧ mRem S v k (T m_keptRow) ∧ (∀ j, j ≠ 2 → j ≠ 20 → j ≠ 21 → T oMod j = S oMod j) ∧
    ∀ o, o ≠ oMod → o ≠ m_shownTo → o ≠ m_signedOf → o ≠ m_knownOf → o ≠ m_row → o ≠ m_sentBy → o ≠ m_doneOf → o ≠ m_keptOf → o ≠ m_keptRow → T o = S o)
