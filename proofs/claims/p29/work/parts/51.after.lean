/-! ===== p29: what an operation leaves behind ===== -/
theorem op_al {S T : XM} {u v i k x : Nat} (h : mOper S u v i k T) (ha : al S u v i = x) (hx : x ≠ 0) : T m_shownTo i = S m_shownTo i + nI (u * u) ∧ T m_alarmOf i = nI x ∧ T m_sentBy = S m_sentBy ∧ T m_doneOf = S m_doneOf ∧ T oMod 2 = S oMod 2 ∧ T m_keptOf = S m_keptOf ∧ T m_hasRead = S m_hasRead ∧ T m_readOf = S m_readOf ∧ T m_viewOf = S m_viewOf ∧ (x = 2 → T m_hasProof i ≠ 0) ∧ (x = 1 → T m_hasProof = S m_hasProof) := by
  subst ha
  rcases h with ⟨-, T1, hs, hr⟩ | ⟨q, -⟩
  · have eo : ∀ o, o ≠ oMod → o ≠ m_hasProof → o ≠ m_depthOf → o ≠ m_proofOf → o ≠ m_alarmOf → o ≠ m_shownTo → T o = S o := fun o h0 h1 h2 h3 h4 h5 => by
      rw [hr.out h0 h1 h2 h3 h4, hs.1 o h0, sw_n h5]
    refine ⟨?_, ?_, eo _ (by decide) (by decide) (by decide) (by decide) (by decide) (by decide), eo _ (by decide) (by decide) (by decide) (by decide) (by decide) (by decide), ?_, eo _ (by decide) (by decide) (by decide) (by decide) (by decide) (by decide), eo _ (by decide) (by decide) (by decide) (by decide) (by decide) (by decide), eo _ (by decide) (by decide) (by decide) (by decide) (by decide) (by decide), eo _ (by decide) (by decide) (by decide) (by decide) (by decide) (by decide), fun e => ?_, fun e => ?_⟩
    · rw [hr.out (by decide) (by decide) (by decide) (by decide) (by decide), hs.1 m_shownTo (by decide), sw_s]
    · rw [hr.alm.2, upd_s]
    · rw [hr.m (by decide) (by decide), hs.2 2 (by decide) (by decide), sw_n (by decide)]
    · rcases hr with ⟨q, -⟩ | ⟨-, a, c, -, q⟩ | ⟨q, -⟩
      · omega
      · rcases q with ⟨q1, q2⟩ | ⟨-, rfl⟩
        · rw [q2]; exact q1
        · rw [su_n (by decide), sw_n (by decide), sw_s]; decide
      · omega
    · rcases hr with ⟨-, rfl⟩ | ⟨q, -⟩ | ⟨q, -⟩
      · rw [sw_n (by decide), hs.1 m_hasProof (by decide), sw_n (by decide)]
      · omega
      · omega
  · exact absurd q hx
theorem oU_row {S : XM} {u v i p : Nat} : oU S u v i p = rV S v (bst S u v) p + (if p = i then nI 1 else nI 0) := by
  unfold oU
  by_cases h : p = i
  · subst h; rw [upd_s, if_pos rfl]
  · rw [upd_n h, if_neg h, nI_0, Int32.add_zero]
theorem op_ok {S T : XM} {u v i k : Nat} (h : mOper S u v i k T) (ha : al S u v i = 0) : T m_shownTo i = S m_shownTo i + nI (u * u) ∧ T m_alarmOf = S m_alarmOf ∧ T m_sentBy i = S m_sentBy i + nI u ∧ T m_doneOf i = S m_doneOf i + nI 1 ∧ T oMod 2 = S oMod 2 + nI 1 ∧ T m_keptOf v = nI (min (k + 1) 5) ∧ T m_hasRead = S m_hasRead ∧ T m_readOf = S m_readOf ∧ T m_viewOf = S m_viewOf ∧ T m_hasProof = S m_hasProof ∧ (∀ p, p < 5 → rG T i p = oU S u v i p ∧ rK T i p = oU S u v i p ∧ rV T v i p = oU S u v i p) ∧ (∀ j, j < 5 → i < 5 → cV T v j = cV S v j) := by
  rcases h with ⟨q, -⟩ | ⟨-, -, t1, t2, t3, t4, t5, t6, t7, t8, t9, t10, t11⟩
  · exact absurd ha q
  · have eo : ∀ o, o ≠ oMod → o ≠ m_shownTo → o ≠ m_signedOf → o ≠ m_knownOf → o ≠ m_row → o ≠ m_sentBy → o ≠ m_doneOf → o ≠ m_keptOf → o ≠ m_keptRow → T o = S o := t11
    refine ⟨by rw [t1, upd_s], eo _ (by decide) (by decide) (by decide) (by decide) (by decide) (by decide) (by decide) (by decide) (by decide), by rw [t5, upd_s], by rw [t6, upd_s], t7, by rw [t8, upd_s], eo _ (by decide) (by decide) (by decide) (by decide) (by decide) (by decide) (by decide) (by decide) (by decide), eo _ (by decide) (by decide) (by decide) (by decide) (by decide) (by decide) (by decide) (by decide) (by decide), eo _ (by decide) (by decide) (by decide) (by decide) (by decide) (by decide) (by decide) (by decide) (by decide), eo _ (by decide) (by decide) (by decide) (by decide) (by decide) (by decide) (by decide) (by decide) (by decide), fun p hp => ⟨?_, ?_, ?_⟩, fun j hj hi => ?_⟩
    · show T m_signedOf (5 * i + p) = _
      rw [t2, cpy_in hp]
    · show T m_knownOf (5 * i + p) = _
      rw [t3, cpy_in hp]
    · show T m_row (30 * v + 5 * i + p) = _
      rw [t4, cpy_in hp]
    · show T m_row (30 * v + 25 + j) = S m_row (30 * v + 25 + j)
      rw [t4, cpy_out (by omega)]
/-- the greatest of the entries, number by number -/
noncomputable def mxV (V : Nat → Nat → Int32) : Nat → Nat → Int32
  | 0, _ => nI 0
  | x + 1, k => @ite _ (mxV V x k < V x k) (Classical.propDecidable _) (V x k) (mxV V x k)
theorem mxV_t {V : Nat → Nat → Int32} {x k : Nat} (h : mxV V x k < V x k) : mxV V (x + 1) k = V x k := if_pos h
theorem mxV_f {V : Nat → Nat → Int32} {x k : Nat} (h : ¬ mxV V x k < V x k) : mxV V (x + 1) k = mxV V x k := if_neg h
theorem mxV_le {V : Nat → Nat → Int32} {M : Int32} {k : Nat} (h0 : nI 0 ≤ M) : ∀ x, (∀ i, i < x → V i k ≤ M) → mxV V x k ≤ M
  | 0, _ => h0
  | x + 1, h => by
    by_cases q : mxV V x k < V x k
    · rw [mxV_t q]; exact h x (by omega)
    · rw [mxV_f q]; exact mxV_le h0 x (fun i hi => h i (by omega))
theorem mxV_ge {V : Nat → Nat → Int32} {k : Nat} : ∀ x i, i < x → V i k ≤ mxV V x k
  | 0, i, h => absurd h (Nat.not_lt_zero _)
  | x + 1, i, h => by
    by_cases q : mxV V x k < V x k
    · rw [mxV_t q]
      rcases Nat.lt_or_ge i x with z | z
      · exact Int32.le_trans (mxV_ge x i z) (Int32.le_of_lt q)
      · rw [show i = x by omega]; exact Int32.le_refl _
    · rw [mxV_f q]
      rcases Nat.lt_or_ge i x with z | z
      · exact mxV_ge x i z
      · rw [show i = x by omega]; exact i_not_lt.mp q
/-- where no two are incomparable, the place of the greatest one is that of one to which all are at most -/
theorem gix_top {u n : Nat} {V : Nat → Nat → Int32} : ∀ m, m < n → ¬ fkd n u V → ∀ i, i ≤ m → vle u (V i) (V (gix (fun a c => vle u (V a) (V c)) m))
  | 0, _, _, i, hi => by rw [show i = 0 by omega]; exact vle_refl
  | m + 1, hm, hf, i, hi => by
    have ih := gix_top m (by omega) hf
    by_cases q : vle u (V (gix (fun a c => vle u (V a) (V c)) m)) (V (m + 1))
    · rw [gix_t (le := fun a c => vle u (V a) (V c)) q]
      rcases Nat.lt_or_ge i (m + 1) with z | z
      · exact vle_trans (ih i (by omega)) q
      · rw [show i = m + 1 by omega]; exact vle_refl
    · rw [gix_f (le := fun a c => vle u (V a) (V c)) q]
      rcases Nat.lt_or_ge i (m + 1) with z | z
      · exact ih i (by omega)
      · rw [show i = m + 1 by omega]
        have hg := gix_le (fun a c => vle u (V a) (V c)) m
        exact Classical.not_not.mp (fun w => hf ⟨_, m + 1, by omega, hm, rel_2.mpr ⟨q, w⟩⟩)
theorem top_best {N : Nat} {S : XM} {u w v : Nat} (hS : SI N S u w) (hN : N < 2 ^ 31) (hv : v < w) (hf : ¬ fkd u u (rV S v)) : ∀ p, p < u → mxV (rV S v) u p = rV S v (bst S u v) p := by
  intro p hp
  have hu := hS.1.1.2
  have hb := bst_lt (S := S) (u := u) (v := v) (by omega)
  refine Int32.le_antisymm (mxV_le ?_ u (fun i hi => ?_)) (mxV_ge u _ hb)
  · obtain ⟨c, h1, h2, -⟩ := (hS.2.1 v hv (bst S u v) (by omega)).1 p (by omega)
    show _ ≤ S m_row (30 * v + 5 * bst S u v + p)
    rw [h2]
    exact nI_le (Nat.zero_le _) (by omega)
  · exact gix_top (u - 1) (by omega) hf i (by omega) p hp
