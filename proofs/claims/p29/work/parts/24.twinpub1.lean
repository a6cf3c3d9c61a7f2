theorem alm_pos {x : Int32} {a : Nat} (h : x = nI a) (ha : a < 2 ^ 31) : 0 < x ↔ 0 < a := by
  rw [h, ← nI_0]; exact nI_ltI (by decide) ha
theorem mKeep.out {S T : XM} {i : Nat} {d : Int32} {f1 f2 : Nat → Int32} (h : mKeep S i d f1 f2 T) {o : Nat} (h1 : o ≠ m_hasProof) (h2 : o ≠ m_depthOf) (h3 : o ≠ m_proofOf) : T o = S o := by
  rcases h with ⟨-, rfl⟩ | ⟨-, rfl⟩
  · rfl
  · rw [su_n h3, sw_n h2, sw_n h1]
theorem mRaise.out {S T : XM} {u v i x : Nat} (h : mRaise S u v i x T) {o : Nat} (h0 : o ≠ oMod) (h1 : o ≠ m_hasProof) (h2 : o ≠ m_depthOf) (h3 : o ≠ m_proofOf) (h4 : o ≠ m_alarmOf) : T o = S o := by
  rcases h with ⟨-, rfl⟩ | ⟨-, a, c, -, q⟩ | ⟨-, T1, q, q2⟩
  · exact sw_n h4
  · rw [q.out h1 h2 h3]; exact sw_n h4
  · have e : T1 o = S o := (q.1 o h0).trans (sw_n h4)
    rcases q2 with ⟨-, q3⟩ | ⟨-, rfl⟩
    · rw [q3.out h1 h2 h3]; exact e
    · exact e
theorem mRaise.m {S T : XM} {u v i x : Nat} (h : mRaise S u v i x T) {k : Nat} (h0 : k ≠ 20) (h1 : k ≠ 21) : T oMod k = S oMod k := by
  rcases h with ⟨-, rfl⟩ | ⟨-, a, c, -, q⟩ | ⟨-, T1, q, q2⟩
  · rw [sw_n (by decide)]
  · rw [q.out (by decide) (by decide) (by decide), sw_n (by decide)]
  · have e : T1 oMod k = S oMod k := (q.2 k h0 h1).trans (by rw [sw_n (by decide)])
    rcases q2 with ⟨-, q3⟩ | ⟨-, rfl⟩
    · rw [q3.out (by decide) (by decide) (by decide)]; exact e
    · exact e
/-- what no operation changes -/
theorem mOper.out {S T : XM} {u v i k : Nat} (h : mOper S u v i k T) {o : Nat} (h0 : o = m_viewOf ∨ o = m_hasRead ∨ o = m_readOf ∨ o = m_lettersOf ∨ o = m_letter ∨ o = m_text) : T o = S o := by
  have hne : o ≠ oMod ∧ o ≠ m_shownTo ∧ o ≠ m_signedOf ∧ o ≠ m_knownOf ∧ o ≠ m_row ∧ o ≠ m_sentBy ∧ o ≠ m_doneOf ∧ o ≠ m_keptOf ∧ o ≠ m_keptRow ∧ o ≠ m_alarmOf ∧ o ≠ m_hasProof ∧ o ≠ m_depthOf ∧ o ≠ m_proofOf := by
    rcases h0 with rfl | rfl | rfl | rfl | rfl | rfl <;> decide
  obtain ⟨n0, n1, n2, n3, n4, n5, n6, n7, n8, n9, n10, n11, n12⟩ := hne
  rcases h with ⟨-, T1, q, q2⟩ | ⟨-, -, -, -, -, -, -, -, -, -, -, -, q⟩
  · rw [q2.out n0 n10 n11 n12 n9, q.1 o n0, sw_n n1]
  · exact q o n0 n1 n2 n3 n4 n5 n6 n7 n8
theorem mOper.m {S T : XM} {u v i k : Nat} (h : mOper S u v i k T) {j : Nat} (h2 : j ≠ 2) (h0 : j ≠ 20) (h1 : j ≠ 21) : T oMod j = S oMod j := by
  rcases h with ⟨-, T1, q, q2⟩ | ⟨-, -, -, -, -, -, -, -, -, -, -, q, -⟩
  · rw [q2.m h0 h1, q.2 j h0 h1, sw_n (by decide)]
  · exact q j h2 h0 h1
theorem rng15 {y : Int32} (h : nI 1 ≤ y ∧ y ≤ nI 5) : ∃ z, 1 ≤ z ∧ z ≤ 5 ∧ y = nI z := by
  obtain ⟨j, hj, rfl⟩ := nI_of (x := y) (fun q => absurd (Int32.lt_of_le_of_lt h.1 q) (by decide))
  exact ⟨j, (nI_leI (by decide) hj).mp h.1, (nI_leI hj (by decide)).mp h.2, rfl⟩
theorem rng03 {y : Int32} (h : nI 0 ≤ y ∧ y ≤ nI 3) : y = nI 0 ∨ y = nI 1 ∨ y = nI 2 ∨ y = nI 3 := by
  obtain ⟨j, hj, rfl⟩ := nI_of (x := y) (fun q => absurd (Int32.lt_of_le_of_lt h.1 q) (by decide))
  have := (nI_leI hj (by decide)).mp h.2
  rcases (show j = 0 ∨ j = 1 ∨ j = 2 ∨ j = 3 by omega) with rfl | rfl | rfl | rfl
  · exact Or.inl rfl
  · exact Or.inr (Or.inl rfl)
  · exact Or.inr (Or.inr (Or.inl rfl))
  · exact Or.inr (Or.inr (Or.inr rfl))
theorem rng25 {y : Int32} (h : nI 2 ≤ y ∧ y ≤ nI 5) : ∃ z, 2 ≤ z ∧ z ≤ 5 ∧ y = nI z := by
  obtain ⟨j, hj, rfl⟩ := nI_of (x := y) (fun q => absurd (Int32.lt_of_le_of_lt h.1 q) (by decide))
  exact ⟨j, (nI_leI (by decide) hj).mp h.1, (nI_leI hj (by decide)).mp h.2, rfl⟩
