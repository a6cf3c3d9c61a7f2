/-! ===== the invariant is kept ===== -/
theorem xsum_upd {f : Nat → Int32} {i : Nat} {x : Int32} : ∀ {u : Nat}, i < u → xsum (upd f i (f i + x)) u = xsum f u + x
  | 0, h => absurd h (Nat.not_lt_zero _)
  | u + 1, h => by
    show xsum (upd f i (f i + x)) u + upd f i (f i + x) u = xsum f u + f u + x
    by_cases q : i = u
    · subst q
      rw [upd_s, xsum_congr (f := upd f i (f i + x)) (g := f) (fun k hk => upd_n (by omega)), Int32.add_assoc]
    · rw [xsum_upd (u := u) (by omega), upd_n (show u ≠ i by omega), Int32.add_assoc, Int32.add_assoc, Int32.add_comm x]
theorem SI.of {N : Nat} {S T : XM} {u w : Nat} (h : SI N S u w) (hm : MW T u w) (h1 : ∀ o, o = m_row ∨ o = m_keptOf ∨ o = m_keptRow ∨ o = m_signedOf ∨ o = m_knownOf ∨ o = m_doneOf ∨ o = m_lettersOf ∨ o = m_letter → T o = S o) (h2 : T oMod 2 = S oMod 2) : SI N T u w := by
  obtain ⟨-, a1, a2, a3, a4, a5⟩ := h
  refine ⟨hm, ?_⟩
  rw [h1 m_row (by simp), h1 m_keptOf (by simp), h1 m_keptRow (by simp), h1 m_signedOf (by simp), h1 m_knownOf (by simp), h1 m_doneOf (by simp), h1 m_lettersOf (by simp), h1 m_letter (by simp), h2]
  exact ⟨a1, a2, a3, a4, a5⟩
theorem NR.of {N M u a a' : Nat} {f g : Nat → Int32} (h : NR N u f a) (hm : N ≤ M) (e : ∀ p, p < 30 → g (a' + p) = f (a + p)) : NR M u g a' := by
  intro i hi
  refine ⟨fun p hp => ?_, fun q p hp => ?_⟩
  · obtain ⟨c, c1, c2, c3⟩ := (h i hi).1 p hp
    exact ⟨c, by omega, by rw [Nat.add_assoc, e _ (by omega), ← Nat.add_assoc]; exact c2, c3⟩
  · rw [Nat.add_assoc, e _ (by omega), ← Nat.add_assoc]; exact (h i hi).2 q p hp
theorem SI_oper {N : Nat} {S T : XM} {u w v i k : Nat} (h : SI N S u w) (hi : i < u) (hv : v < w) (hk5 : k ≤ 5) (hk : S m_keptOf v = nI k) (ho : mOper S u v i k T) : SI (N + 1) T u w := by
  have hm := (MT_oper h.1 ho (fun _ _ => rfl) (fun _ _ => rfl)).1
  have hu := h.1.1.2
  have hw := h.1.2.1.2
  rcases ho with ⟨-, T1, q, q2⟩ | ⟨-, -, t1, t2, t3, t4, t5, t6, t7, t8, t9, t10, t11⟩
  · refine (h.of hm (fun o ho => ?_) ?_).up (Nat.le_succ N)
    · rw [q2.out (by rcases ho with rfl | rfl | rfl | rfl | rfl | rfl | rfl | rfl <;> decide) (by rcases ho with rfl | rfl | rfl | rfl | rfl | rfl | rfl | rfl <;> decide) (by rcases ho with rfl | rfl | rfl | rfl | rfl | rfl | rfl | rfl <;> decide) (by rcases ho with rfl | rfl | rfl | rfl | rfl | rfl | rfl | rfl <;> decide) (by rcases ho with rfl | rfl | rfl | rfl | rfl | rfl | rfl | rfl <;> decide), q.1 o (by rcases ho with rfl | rfl | rfl | rfl | rfl | rfl | rfl | rfl <;> decide), sw_n (by rcases ho with rfl | rfl | rfl | rfl | rfl | rfl | rfl | rfl <;> decide)]
    · rw [q2.m (by decide) (by decide), q.2 2 (by decide) (by decide), sw_n (by decide)]
  · obtain ⟨-, a1, a2, a3, a4, a5⟩ := h
    have hb := bst_lt (S := S) (u := u) (v := v) (by omega)
    have hz : ∀ p, u ≤ p → p < 5 → oU S u v i p = nI 0 := fun p h1 h2 => by
      unfold oU
      rw [upd_n (by omega)]
      obtain ⟨c, -, c2, c3⟩ := (a1 v hv (bst S u v) (by omega)).1 p h2
      show S m_row (30 * v + 5 * bst S u v + p) = _
      rw [c2, c3 h1]
    have hr : ∀ v', v' < w → NR (N + 1) u (T m_row) (30 * v') := fun v' hv' => by
      rw [t4]
      by_cases e : v' = v
      · subst e
        intro j hj
        by_cases e2 : j = i
        · subst e2
          refine ⟨fun p hp => ?_, fun q => by omega⟩
          rw [cpy_in hp]
          obtain ⟨c, c1, c2, c3⟩ := (a1 v' hv' (bst S u v') (by omega)).1 p hp
          by_cases e3 : p = j
          · subst e3
            refine ⟨c + 1, by omega, ?_, fun q => by omega⟩
            unfold oU
            rw [upd_s]
            show S m_row (30 * v' + 5 * bst S u v' + p) + nI 1 = _
            rw [c2, nI_add]
          · refine ⟨c, by omega, ?_, c3⟩
            unfold oU
            rw [upd_n e3]
            exact c2
        · refine ⟨fun p hp => ?_, fun q p hp => ?_⟩
          · obtain ⟨c, c1, c2, c3⟩ := (a1 v' hv' j hj).1 p hp
            exact ⟨c, by omega, by rw [cpy_out (by rcases Nat.lt_or_ge j i with z | z <;> omega)]; exact c2, c3⟩
          · rw [cpy_out (by rcases Nat.lt_or_ge j i with z | z <;> omega)]; exact (a1 v' hv' j hj).2 q p hp
      · exact (a1 v' hv').of (by omega) (fun p hp => cpy_out (by rcases Nat.lt_or_ge v' v with z | z <;> omega))
    refine ⟨hm, hr, fun v' hv' k' hk' e q hq => ?_, fun j hj p h1 h2 => ⟨?_, ?_⟩, ?_, ?_⟩
    · by_cases e1 : v' = v
      · subst e1
        rw [t8, upd_s] at e
        obtain rfl := nI_inj (by omega) (by omega) e
        by_cases e2 : q = min k 4
        · rw [e2]
          exact (a1 v' hv').of (by omega) (fun p hp => t9.1 p hp)
        · refine (a2 v' hv' k hk5 hk (q + (k - min k 4)) (by omega)).of (by omega) (fun p hp => ?_)
          rw [Nat.add_assoc, t9.2.1 (30 * q + p) (by omega)]
          congr 1; omega
      · rw [t8, upd_n e1] at e
        exact (a2 v' hv' k' hk' e q hq).of (by omega) (fun p hp => t9.2.2 _ (by rcases Nat.lt_or_ge v' v with z | z <;> omega))
    · rw [t3]
      by_cases e1 : j = i
      · subst e1; rw [cpy_in h2]; exact hz p h1 h2
      · rw [cpy_row e1 h2 (by decide)]; exact (a3 j hj p h1 h2).1
    · rw [t2]
      by_cases e1 : j = i
      · subst e1; rw [cpy_in h2]; exact hz p h1 h2
      · rw [cpy_row e1 h2 (by decide)]; exact (a3 j hj p h1 h2).2
    · rw [t11 m_lettersOf (by decide) (by decide) (by decide) (by decide) (by decide) (by decide) (by decide) (by decide) (by decide), t11 m_letter (by decide) (by decide) (by decide) (by decide) (by decide) (by decide) (by decide) (by decide) (by decide)]
      exact a4
    · rw [t7, t6, xsum_upd hi, a5]
theorem SI_con {N : Nat} {S : XM} {u w v i : Nat} {y : Int32} (h : SI N S u w) (hi : i < 5) : SI N (sw S m_row (30 * v + 25 + i) y) u w := by
  obtain ⟨a0, a1, a2, a3, a4, a5⟩ := h
  have e : ∀ o, o ≠ m_row → sw S m_row (30 * v + 25 + i) y o = S o := fun o ho => sw_n ho
  refine ⟨a0.keep (fun k _ => by rw [e oMod (by decide)]) (fun _ _ => Or.inl (by rw [e m_viewOf (by decide)])) (fun _ _ => Or.inl (by rw [e m_keptOf (by decide)])) (fun _ _ => Or.inl (by rw [e m_lettersOf (by decide)])) (fun _ _ => Or.inl (by rw [e m_alarmOf (by decide)])), fun v' hv' j hj => ?_, by rw [e m_keptOf (by decide), e m_keptRow (by decide)]; exact a2, by rw [e m_knownOf (by decide), e m_signedOf (by decide)]; exact a3, by rw [e m_lettersOf (by decide), e m_letter (by decide)]; exact a4, by rw [e oMod (by decide), e m_doneOf (by decide)]; exact a5⟩
  have hne : ∀ p, p < 5 → 30 * v' + 5 * j + p ≠ 30 * v + 25 + i := fun p hp => by rcases Nat.lt_or_ge v' v with z | z <;> omega
  refine ⟨fun p hp => ?_, fun q p hp => ?_⟩
  · rw [sw_k (hne p hp)]; exact (a1 v' hv' j hj).1 p hp
  · rw [sw_k (hne p hp)]; exact (a1 v' hv' j hj).2 q p hp
theorem SI_write {N : Nat} {S T : XM} {u w : Nat} {x y r : Int32} (h : SI N S u w) (hs : s_write S u x y r T) : SI (N + 1) T u w := by
  have hu := h.1.1.2
  have hw := h.1.2.1.2
  by_cases h1 : isU u x
  · obtain ⟨i, hi, rfl⟩ := h1
    have hs := hs.2 i hi rfl
    by_cases h2 : inR y
    · have hs := hs.2 h2
      by_cases h3 : 0 < S m_alarmOf i
      · rw [(hs.1 h3).2]; exact h.up (Nat.le_succ N)
      · obtain ⟨v, hv, hV⟩ := h.1.2.2.1 i (by omega)
        obtain ⟨k, hk5, hk⟩ := h.1.2.2.2.1 v hv
        obtain ⟨T1, q, -, q1, q2⟩ := hs.2 h3 v k (by omega) hk5 hV hk
        have ho := SI_oper h hi hv hk5 hk q
        by_cases h4 : al S u v i = 0
        · rw [q1 h4]; exact SI_con ho (by omega)
        · rw [q2 h4]; exact ho
    · rw [(hs.1 h2).2]; exact h.up (Nat.le_succ N)
  · rw [(hs.1 h1).2]; exact h.up (Nat.le_succ N)
theorem SI_read {N : Nat} {S T : XM} {u w : Nat} {x y r : Int32} (h : SI N S u w) (hs : s_read S u x y r T) : SI (N + 1) T u w := by
  have hu := h.1.1.2
  have hw := h.1.2.1.2
  by_cases h1 : isU u x ∧ isU u y
  · obtain ⟨⟨i, hi, rfl⟩, ⟨j, hj, rfl⟩⟩ := h1
    have hs := hs.2 i j hi hj rfl rfl
    by_cases h3 : 0 < S m_alarmOf i
    · rw [(hs.1 h3).2]; exact h.up (Nat.le_succ N)
    · obtain ⟨v, hv, hV⟩ := h.1.2.2.1 i (by omega)
      obtain ⟨k, hk5, hk⟩ := h.1.2.2.2.1 v hv
      obtain ⟨T1, q, -, q1, q2⟩ := hs.2 h3 v k (by omega) hk5 hV hk
      have ho := SI_oper h hi hv hk5 hk q
      by_cases h4 : al S u v i = 0
      · rw [q1 h4]
        exact ho.same (fun o ho => by rw [sw_n (by rcases ho with rfl | rfl | rfl | rfl | rfl | rfl | rfl | rfl | rfl | rfl <;> decide), sw_n (by rcases ho with rfl | rfl | rfl | rfl | rfl | rfl | rfl | rfl | rfl | rfl <;> decide)]) (fun k _ => by rw [sw_n (by decide), sw_n (by decide)])
      · rw [q2 h4]; exact ho
  · rw [(hs.1 h1).2]; exact h.up (Nat.le_succ N)
theorem SI_attach {N : Nat} {S T : XM} {u w : Nat} {x y r : Int32} (h : SI N S u w) (hs : s_attach S u w x y r T) : SI N T u w := by
  by_cases h1 : isU u x ∧ isU w y
  · have hm := (MT_attach h.1 hs).1
    obtain ⟨⟨i, hi, rfl⟩, ⟨v, hv, rfl⟩⟩ := h1
    obtain ⟨-, rfl⟩ := hs.2 i v hi hv rfl rfl
    exact h.of hm (fun o ho => sw_n (by rcases ho with rfl | rfl | rfl | rfl | rfl | rfl | rfl | rfl <;> decide)) (by rw [sw_n (by decide)])
  · rw [(hs.1 h1).2]; exact h
theorem SI_send {N : Nat} {S T : XM} {u w : Nat} {x y r : Int32} (h : SI N S u w) (hs : s_send S u x y r T) : SI N T u w := by
  have hu := h.1.1.2
  by_cases h1 : isU u x ∧ isU u y
  · have hm := (MT_send h.1 hs).1
    obtain ⟨⟨i, hi, rfl⟩, ⟨j, hj, rfl⟩⟩ := h1
    have hs := hs.2 i j hi hj rfl rfl
    by_cases h3 : i = j
    · rw [(hs.1 h3).2]; exact h
    · obtain ⟨z, hz4, hz⟩ := h.1.2.2.2.2.1 j (by omega)
      have hs := hs.2 h3 z hz4 hz
      by_cases h4 : z = 4
      · rw [(hs.1 h4).2]; exact h
      · obtain ⟨-, q0, q1, -, q2⟩ := hs.2 h4
        obtain ⟨-, a1, a2, a3, a4, a5⟩ := h
        refine ⟨hm, ?_, ?_, ?_, fun j' hj' z' hz' e q hq p p1 p2 => ?_, ?_⟩
        · rw [q2 _ (by decide) (by decide) (by decide)]; exact a1
        · rw [q2 m_keptOf (by decide) (by decide) (by decide), q2 m_keptRow (by decide) (by decide) (by decide)]; exact a2
        · rw [q2 m_knownOf (by decide) (by decide) (by decide), q2 m_signedOf (by decide) (by decide) (by decide)]; exact a3
        · rw [q0]
          rw [q1] at e
          by_cases e1 : j' = j
          · subst e1
            rw [upd_s] at e
            obtain rfl := nI_inj (by omega) (by omega) e
            rcases Nat.lt_or_ge q z with y | y
            · rw [cpy_out (by omega)]; exact a4 j' hj' z hz4 hz q y p p1 p2
            · obtain rfl : q = z := by omega
              rw [cpy_in p2]; exact (a3 i (by omega) p p1 p2).1
          · rw [upd_n e1] at e
            rw [cpy_out (by rcases Nat.lt_or_ge j' j with y | y <;> omega)]; exact a4 j' hj' z' hz' e q hq p p1 p2
        · rw [q2 oMod (by decide) (by decide) (by decide), q2 m_doneOf (by decide) (by decide) (by decide)]; exact a5
  · rw [(hs.1 h1).2]; exact h
theorem SI_take {N : Nat} {S T : XM} {u w i z : Nat} (h : SI N S u w) (hi : i < 5) (hz : S m_lettersOf i = nI z) (hz0 : z ≠ 0) (hz4 : z ≤ 4) (q : mTake S i z T) : SI N T u w := by
  have hm := (MT_take h.1 hz4 q).1
  obtain ⟨-, q1, q0, q2⟩ := q
  obtain ⟨-, a1, a2, a3, a4, a5⟩ := h
  refine ⟨hm, ?_, ?_, ?_, fun j' hj' z' hz' e q hq p p1 p2 => ?_, ?_⟩
  · rw [q2 _ (by decide) (by decide) (by decide)]; exact a1
  · rw [q2 m_keptOf (by decide) (by decide) (by decide), q2 m_keptRow (by decide) (by decide) (by decide)]; exact a2
  · rw [q2 m_knownOf (by decide) (by decide) (by decide), q2 m_signedOf (by decide) (by decide) (by decide)]; exact a3
  · rw [q0]
    rw [q1] at e
    by_cases e1 : j' = i
    · subst e1
      rw [upd_s] at e
      obtain rfl := nI_inj (by omega) (by omega) e
      rw [Nat.add_assoc, cpy_in (by omega)]
      have := a4 j' hj' z hz4 hz (q + 1) (by omega) p p1 p2
      show S m_letter _ = _
      rw [← this]
      congr 1; omega
    · rw [upd_n e1] at e
      rw [cpy_out (by rcases Nat.lt_or_ge j' i with y | y <;> omega)]; exact a4 j' hj' z' hz' e q hq p p1 p2
  · rw [q2 oMod (by decide) (by decide) (by decide), q2 m_doneOf (by decide) (by decide) (by decide)]; exact a5
theorem SI_lose {N : Nat} {S T : XM} {u w : Nat} {x r : Int32} (h : SI N S u w) (hs : s_lose S u x r T) : SI N T u w := by
  have hu := h.1.1.2
  by_cases h1 : isU u x
  · obtain ⟨i, hi, rfl⟩ := h1
    obtain ⟨z, hz4, hz⟩ := h.1.2.2.2.2.1 i (by omega)
    obtain ⟨hs0, hs⟩ := hs.2 i hi rfl z hz4 hz
    by_cases h3 : z = 0
    · rw [(hs0 h3).2]; exact h
    · exact SI_take h (by omega) hz h3 hz4 (hs h3).2
  · rw [(hs.1 h1).2]; exact h
theorem SI_readL {N : Nat} {S T : XM} {u w : Nat} {x r : Int32} (h : SI N S u w) (hs : s_readL S u x r T) : SI N T u w := by
  have hu := h.1.1.2
  by_cases h1 : isU u x
  · have hm := (MT_readL h.1 hs).1
    obtain ⟨i, hi, rfl⟩ := h1
    obtain ⟨z, hz4, hz⟩ := h.1.2.2.2.2.1 i (by omega)
    obtain ⟨hs0, hs⟩ := hs.2 i hi rfl z hz4 hz
    by_cases h3 : z = 0
    · rw [(hs0 h3).2]; exact h
    · obtain ⟨T1, q, q1, q2⟩ := hs h3
      have ht := SI_take h (by omega) hz h3 hz4 q
      by_cases h4 : vle u (sl (S m_letter) (20 * i)) (rK S i)
      · rw [(q1 h4).2]; exact ht
      · have q2 := q2 h4
        by_cases h5 : vle u (rK S i) (sl (S m_letter) (20 * i))
        · obtain ⟨-, q3, q4⟩ := q2.1 h5
          obtain ⟨-, b1, b2, b3, b4, b5⟩ := ht
          refine ⟨hm, by rw [q4 m_row (by decide)]; exact b1, by rw [q4 m_keptOf (by decide), q4 m_keptRow (by decide)]; exact b2, fun j hj p p1 p2 => ⟨?_, ?_⟩, by rw [q4 m_lettersOf (by decide), q4 m_letter (by decide)]; exact b4, by rw [q4 oMod (by decide), q4 m_doneOf (by decide)]; exact b5⟩
          · rw [q3]
            by_cases e1 : j = i
            · subst e1
              rw [cpy_in p2]
              exact h.2.2.2.2.1 j hj z hz4 hz 0 (by omega) p p1 p2
            · rw [cpy_row e1 p2 (by decide)]; exact (h.2.2.2.1 j hj p p1 p2).1
          · rw [q4 m_signedOf (by decide)]; exact (b3 j hj p p1 p2).2
        · obtain ⟨-, T2, a1, a2, q3⟩ := q2.2 h5
          have e : ∀ o, o ≠ m_alarmOf → T2 o = T1 o := fun o o1 => by
            by_cases h6 : 0 < S m_alarmOf i
            · rw [a1 h6]; exact sw_n o1
            · rw [a2 h6]; exact sw_n o1
          refine ht.of hm (fun o ho => ?_) ?_
          · rw [q3.out (by rcases ho with rfl | rfl | rfl | rfl | rfl | rfl | rfl | rfl <;> decide) (by rcases ho with rfl | rfl | rfl | rfl | rfl | rfl | rfl | rfl <;> decide) (by rcases ho with rfl | rfl | rfl | rfl | rfl | rfl | rfl | rfl <;> decide), e o (by rcases ho with rfl | rfl | rfl | rfl | rfl | rfl | rfl | rfl <;> decide)]
          · rw [q3.out (by decide) (by decide) (by decide), e _ (by decide)]
  · rw [(hs.1 h1).2]; exact h
theorem SI_pass {N : Nat} {S T : XM} {u w : Nat} {x y r : Int32} (h : SI N S u w) (hs : s_pass S u x y r T) : SI N T u w := by
  by_cases h1 : isU u x ∧ isU u y
  · obtain ⟨⟨i, hi, rfl⟩, ⟨j, hj, rfl⟩⟩ := h1
    have hs := hs.2 i j hi hj rfl rfl
    by_cases h3 : i = j
    · rw [(hs.1 h3).2]; exact h
    · have hs := hs.2 h3
      by_cases h4 : S m_hasProof i = 0
      · rw [(hs.1 h4).2]; exact h
      · obtain ⟨T1, q, c1, c2⟩ := hs.2 h4
        have h5 : SI N T1 u w := h.same (fun o ho => by rw [q.out (by rcases ho with rfl | rfl | rfl | rfl | rfl | rfl | rfl | rfl | rfl | rfl <;> decide) (by rcases ho with rfl | rfl | rfl | rfl | rfl | rfl | rfl | rfl | rfl | rfl <;> decide) (by rcases ho with rfl | rfl | rfl | rfl | rfl | rfl | rfl | rfl | rfl | rfl <;> decide), sw_n (by rcases ho with rfl | rfl | rfl | rfl | rfl | rfl | rfl | rfl | rfl | rfl <;> decide)]) (fun k _ => by rw [q.out (by decide) (by decide) (by decide), sw_n (by decide)])
        by_cases h6 : 0 < S m_alarmOf j
        · rw [(c1 h6).2]; exact h5
        · rw [(c2 h6).2]; exact h5.al5 (by decide)
  · rw [(hs.1 h1).2]; exact h
theorem SI_roll {N : Nat} {S T : XM} {u w : Nat} {x y r : Int32} (h : SI N S u w) (hs : s_roll S w x y r T) : SI N T u w := by
  have hw := h.1.2.1.2
  by_cases h1 : isU w x
  · obtain ⟨v, hv, rfl⟩ := h1
    have hs := hs.2 v hv rfl
    by_cases h2 : nI 1 ≤ y ∧ y ≤ nI 5
    · obtain ⟨z, hz1, hz5, rfl⟩ := rng15 h2
      obtain ⟨k, hk5, hk⟩ := h.1.2.2.2.1 v hv
      have hs := hs.2 z k hz1 hz5 rfl hk5 hk
      rcases Nat.lt_or_ge k z with q | q
      · rw [(hs.1 q).2]; exact h
      · obtain ⟨-, q1, q2, q3⟩ := hs.2 q
        obtain ⟨a0, a1, a2, a3, a4, a5⟩ := h
        refine ⟨a0.keep (fun k _ => by rw [q3 oMod (by decide) (by decide)]) (fun _ _ => Or.inl (by rw [q3 m_viewOf (by decide) (by decide)])) (fun j _ => by rw [q1]; exact upd_or (by omega) j) (fun _ _ => Or.inl (by rw [q3 m_lettersOf (by decide) (by decide)])) (fun _ _ => Or.inl (by rw [q3 m_alarmOf (by decide) (by decide)])), fun v' hv' => ?_, fun v' hv' k' hk' e q hq => ?_, ?_, ?_, ?_⟩
        · rw [q2]
          by_cases e1 : v' = v
          · subst e1
            exact (a2 v' hv' k hk5 hk (k - z) (by omega)).of (Nat.le_refl _) (fun p hp => by rw [cpy_in hp]; rfl)
          · exact (a1 v' hv').of (Nat.le_refl _) (fun p hp => cpy_out (by rcases Nat.lt_or_ge v' v with y | y <;> omega))
        · rw [q3 m_keptRow (by decide) (by decide)]
          rw [q1] at e
          by_cases e1 : v' = v
          · subst e1
            rw [upd_s] at e
            obtain rfl := nI_inj (by omega) (by omega) e
            exact a2 v' hv' k hk5 hk q (by omega)
          · rw [upd_n e1] at e
            exact a2 v' hv' k' hk' e q hq
        · rw [q3 m_knownOf (by decide) (by decide), q3 m_signedOf (by decide) (by decide)]; exact a3
        · rw [q3 m_lettersOf (by decide) (by decide), q3 m_letter (by decide) (by decide)]; exact a4
        · rw [q3 oMod (by decide) (by decide), q3 m_doneOf (by decide) (by decide)]; exact a5
    · rw [(hs.1 h2).2]; exact h
  · rw [(hs.1 h1).2]; exact h
theorem SI_mix {N : Nat} {S T : XM} {u w : Nat} {x y r : Int32} (h : SI N S u w) (hs : s_mix S u w x y r T) : SI N T u w := by
  have hu := h.1.1.2
  have hw := h.1.2.1.2
  by_cases h1 : isU w x ∧ isU w y
  · obtain ⟨⟨v, hv, rfl⟩, ⟨o, ho, rfl⟩⟩ := h1
    have hs := hs.2 v o hv ho rfl rfl
    by_cases h3 : v = o
    · rw [(hs.1 h3).2]; exact h
    · obtain ⟨-, q2, q3, q4, q5, q6, q7, q8⟩ := hs.2 h3
      obtain ⟨a0, a1, a2, a3, a4, a5⟩ := h
      refine ⟨a0.keep (fun k _ => by rw [q8 oMod (by decide) (by decide) (by decide)]) (fun i hi => ?_) (fun j _ => by rw [q7]; exact upd_or (by decide) j) (fun _ _ => Or.inl (by rw [q8 m_lettersOf (by decide) (by decide) (by decide)])) (fun _ _ => Or.inl (by rw [q8 m_alarmOf (by decide) (by decide) (by decide)])), fun v' hv' => ?_, fun v' hv' k' hk' e q hq => ?_, ?_, ?_, ?_⟩
      · rcases Nat.lt_or_ge i u with z | z
        · by_cases e : S m_viewOf i = nI o
          · exact Or.inr ⟨v, hv, (q5 i z).1 e⟩
          · exact Or.inl ((q5 i z).2 e)
        · exact Or.inl (q6 i z)
      · by_cases e1 : v' = v
        · subst e1
          intro i hi
          rcases Nat.lt_or_ge i u with z | z
          · by_cases hm : mixC S v' o i
            · have := ((q2 i z).1 hm).1
              exact ⟨fun p hp => by obtain ⟨c, c1, c2, c3⟩ := (a1 o ho i hi).1 p hp; exact ⟨c, c1, by rw [this p hp]; exact c2, c3⟩, fun q => by omega⟩
            · have := ((q2 i z).2 hm).1
              exact ⟨fun p hp => by obtain ⟨c, c1, c2, c3⟩ := (a1 v' hv' i hi).1 p hp; exact ⟨c, c1, by rw [this p hp]; exact c2, c3⟩, fun q => by omega⟩
          · have := (q3 i z hi).1
            exact ⟨fun p hp => by obtain ⟨c, c1, c2, c3⟩ := (a1 v' hv' i hi).1 p hp; exact ⟨c, c1, by rw [this p hp]; exact c2, c3⟩, fun q p hp => by rw [this p hp]; exact (a1 v' hv' i hi).2 q p hp⟩
        · exact (a1 v' hv').of (Nat.le_refl _) (fun p hp => q4 _ (by rcases Nat.lt_or_ge v' v with y | y <;> omega))
      · rw [q8 m_keptRow (by decide) (by decide) (by decide)]
        rw [q7] at e
        by_cases e1 : v' = v
        · subst e1
          rw [upd_s] at e
          obtain rfl := nI_inj (by omega) (by omega) e
          exact absurd hq (Nat.not_lt_zero _)
        · rw [upd_n e1] at e
          exact a2 v' hv' k' hk' e q hq
      · rw [q8 m_knownOf (by decide) (by decide) (by decide), q8 m_signedOf (by decide) (by decide) (by decide)]; exact a3
      · rw [q8 m_lettersOf (by decide) (by decide) (by decide), q8 m_letter (by decide) (by decide) (by decide)]; exact a4
      · rw [q8 oMod (by decide) (by decide) (by decide), q8 m_doneOf (by decide) (by decide) (by decide)]; exact a5
  · rw [(hs.1 h1).2]; exact h
theorem SI_fork {N : Nat} {S T : XM} {u w : Nat} {x y r : Int32} (h : SI N S u w) (hs : s_fork S u w x y r T) : ∃ w', w' ≤ 6 ∧ T oMod 1 = nI w' ∧ SI N T u w' := by
  have hu := h.1.1.2
  have hw := h.1.2.1.2
  have h0 : T = S → ∃ w', w' ≤ 6 ∧ T oMod 1 = nI w' ∧ SI N T u w' := fun e => by subst e; exact ⟨w, hw.2, h.1.2.1.1, h⟩
  by_cases h1 : isU w x
  · obtain ⟨v, hv, rfl⟩ := h1
    have hs := hs.2 v hv rfl
    by_cases h2 : badS S u v y
    · exact h0 (hs.1 h2).2
    · have hs := hs.2 h2
      by_cases h3 : w = 6
      · exact h0 (hs.1 h3).2
      · obtain ⟨-, q2, q3, q4, q5, q6, q7, q8, q9⟩ := hs.2 h3
        obtain ⟨a0, a1, a2, a3, a4, a5⟩ := h
        obtain ⟨hU, hN, hVw, hKp, hLt, hTx, hAl⟩ := a0
        refine ⟨w + 1, by omega, q7, ⟨⟨by rw [q8 0 (by decide)]; exact hU.1, hU.2⟩, ⟨q7, by omega, by omega⟩, fun i hi => ?_, fun v' hv' => ?_, by rw [q9 m_lettersOf (by decide) (by decide) (by decide) (by decide) (by decide)]; exact hLt, by rw [q8 23 (by decide)]; exact hTx, by rw [q9 m_alarmOf (by decide) (by decide) (by decide) (by decide) (by decide)]; exact hAl⟩, fun v' hv' => ?_, fun v' hv' k' hk' e q hq => ?_, ?_, ?_, ?_⟩
        · obtain ⟨v0, hv0, e0⟩ := hVw i hi
          rcases Nat.lt_or_ge i u with z | z
          · by_cases e : hasB y i
            · exact ⟨w, by omega, (q5 i z).1 e⟩
            · exact ⟨v0, by omega, by rw [(q5 i z).2 e]; exact e0⟩
          · exact ⟨v0, by omega, by rw [q6 i z]; exact e0⟩
        · rw [q4]
          by_cases e : v' = w
          · subst e; rw [upd_s]; exact hKp v hv
          · rw [upd_n e]; exact hKp v' (by omega)
        · rw [q2]
          by_cases e : v' = w
          · subst e
            exact (a1 v hv).of (Nat.le_refl _) (fun p hp => by rw [cpy_in hp]; rfl)
          · exact (a1 v' (by omega)).of (Nat.le_refl _) (fun p hp => cpy_out (by omega))
        · rw [q3]
          rw [q4] at e
          by_cases e1 : v' = w
          · subst e1
            rw [upd_s] at e
            exact (a2 v hv k' hk' e q hq).of (Nat.le_refl _) (fun p hp => by
              rw [Nat.add_assoc, cpy_in (by omega)]
              show S m_keptRow _ = S m_keptRow _
              congr 1; omega)
          · rw [upd_n e1] at e
            exact (a2 v' (by omega) k' hk' e q hq).of (Nat.le_refl _) (fun p hp => cpy_out (by omega))
        · rw [q9 m_knownOf (by decide) (by decide) (by decide) (by decide) (by decide), q9 m_signedOf (by decide) (by decide) (by decide) (by decide) (by decide)]; exact a3
        · rw [q9 m_lettersOf (by decide) (by decide) (by decide) (by decide) (by decide), q9 m_letter (by decide) (by decide) (by decide) (by decide) (by decide)]; exact a4
        · rw [q8 2 (by decide), q9 m_doneOf (by decide) (by decide) (by decide) (by decide) (by decide)]; exact a5
  · exact h0 (hs.1 h1).2
theorem xsum_0 {f : Nat → Int32} : ∀ {u : Nat}, (∀ i, i < u → f i = nI 0) → xsum f u = nI 0
  | 0, _ => nI_0.symm
  | u + 1, h => by
    show xsum f u + f u = _
    rw [xsum_0 (fun i hi => h i (by omega)), h u (by omega)]; decide
theorem SI_begin {N : Nat} {S T : XM} {t z : Nat} (ht6 : t ≤ 60) (ht : S oMod 23 = nI t) (hz : 2 ≤ z ∧ z ≤ 5) (hb : mBegin S z T) : SI N T z 1 := by
  obtain ⟨p0, p1, p2, p3, p4, p5, p6, p7, p8⟩ := hb
  refine ⟨⟨⟨p0, hz⟩, ⟨p1, by decide, by decide⟩, fun i hi => ⟨0, by decide, (p7 i hi).1⟩, fun v hv => ⟨0, by decide, p5 v (by omega)⟩, fun i hi => ⟨0, by decide, (p7 i hi).2.2.2.2.2.2.2.2.2⟩, ⟨t, ht6, (p3 23 (by decide) (by decide) (by decide)).trans ht⟩, fun i hi => ⟨0, by decide, (p7 i hi).2.1⟩⟩, fun v hv i hi => ⟨fun p hp => ⟨0, Nat.zero_le _, p4 _ (by omega), fun _ => rfl⟩, fun _ p hp => p4 _ (by omega)⟩, fun v hv k hk e q hq => ?_, fun i hi p _ p2 => ⟨(p6 _ (by omega)).2, (p6 _ (by omega)).1⟩, fun i hi y hy e q hq => ?_, ?_⟩
  · rw [p5 v (by omega)] at e
    obtain rfl := nI_inj (by omega) (by omega) e
    exact absurd hq (Nat.not_lt_zero _)
  · rw [(p7 i hi).2.2.2.2.2.2.2.2.2] at e
    obtain rfl := nI_inj (by omega) (by omega) e
    exact absurd hq (Nat.not_lt_zero _)
  · rw [p2, xsum_0 (fun i hi => (p7 i (by omega)).2.2.2.2.1)]
theorem SI_reset {N : Nat} {S T : XM} {u w : Nat} {x r : Int32} (h : SI N S u w) (hs : s_reset S u x r T) : ∃ u' w', u' ≤ 5 ∧ w' ≤ 6 ∧ T oMod 0 = nI u' ∧ T oMod 1 = nI w' ∧ SI N T u' w' := by
  have hu := h.1.1
  have hw := h.1.2.1
  by_cases h2 : nI 2 ≤ x ∧ x ≤ nI 5
  · obtain ⟨z, hz2, hz5, rfl⟩ := rng25 h2
    obtain ⟨-, hb⟩ := hs.2 z hz2 hz5 rfl
    obtain ⟨t, ht6, ht⟩ := h.1.2.2.2.2.2.1
    exact ⟨z, 1, hz5, by decide, hb.1, hb.2.1, SI_begin ht6 ht ⟨hz2, hz5⟩ hb⟩
  · obtain ⟨-, rfl⟩ := hs.1 h2
    exact ⟨u, w, hu.2.2, hw.2.2, hu.1, hw.1, h⟩
theorem SI_type {N : Nat} {S T : XM} {u w : Nat} {x r : Int32} (h : SI N S u w) (hs : s_type S x r T) : SI N T u w := by
  obtain ⟨t, ht6, ht⟩ := h.1.2.2.2.2.2.1
  obtain ⟨q1, q2⟩ := hs t ht6 ht
  by_cases e : t = 60
  · rw [(q1 e).2]; exact h
  · obtain ⟨-, rfl⟩ := q2 e
    obtain ⟨⟨hU, hN, hVw, hKp, hLt, hTx, hAl⟩, a1, a2, a3, a4, a5⟩ := h
    have g : ∀ o, o ≠ oMod → o ≠ m_text → sw (sw S m_text t x) oMod 23 (nI (t + 1)) o = S o := fun o o1 o2 => by rw [sw_n o1, sw_n o2]
    have g2 : ∀ k, k ≠ 23 → sw (sw S m_text t x) oMod 23 (nI (t + 1)) oMod k = S oMod k := fun k hk => by rw [sw_k hk, sw_n (by decide)]
    refine ⟨⟨⟨by rw [g2 0 (by decide)]; exact hU.1, hU.2⟩, ⟨by rw [g2 1 (by decide)]; exact hN.1, hN.2⟩, by rw [g m_viewOf (by decide) (by decide)]; exact hVw, by rw [g m_keptOf (by decide) (by decide)]; exact hKp, by rw [g m_lettersOf (by decide) (by decide)]; exact hLt, ⟨t + 1, by omega, sw_s⟩, by rw [g m_alarmOf (by decide) (by decide)]; exact hAl⟩, ?_⟩
    rw [g m_row (by decide) (by decide), g m_keptOf (by decide) (by decide), g m_keptRow (by decide) (by decide), g m_signedOf (by decide) (by decide), g m_knownOf (by decide) (by decide), g m_doneOf (by decide) (by decide), g m_lettersOf (by decide) (by decide), g m_letter (by decide) (by decide), g2 2 (by decide)]
    exact ⟨a1, a2, a3, a4, a5⟩
theorem SI_clear {N : Nat} {S T : XM} {u w : Nat} {r : Int32} (h : SI N S u w) (hs : s_clear S r T) : SI N T u w := by
  obtain ⟨-, rfl⟩ := hs
  obtain ⟨⟨hU, hN, hVw, hKp, hLt, hTx, hAl⟩, a1, a2, a3, a4, a5⟩ := h
  have g : ∀ o, o ≠ oMod → sw S oMod 23 (nI 0) o = S o := fun o o1 => sw_n o1
  have g2 : ∀ k, k ≠ 23 → sw S oMod 23 (nI 0) oMod k = S oMod k := fun k hk => sw_k hk
  refine ⟨⟨⟨by rw [g2 0 (by decide)]; exact hU.1, hU.2⟩, ⟨by rw [g2 1 (by decide)]; exact hN.1, hN.2⟩, by rw [g m_viewOf (by decide)]; exact hVw, by rw [g m_keptOf (by decide)]; exact hKp, by rw [g m_lettersOf (by decide)]; exact hLt, ⟨0, by decide, sw_s⟩, by rw [g m_alarmOf (by decide)]; exact hAl⟩, ?_⟩
  rw [g m_row (by decide), g m_keptOf (by decide), g m_keptRow (by decide), g m_signedOf (by decide), g m_knownOf (by decide), g m_doneOf (by decide), g m_lettersOf (by decide), g m_letter (by decide), g2 2 (by decide)]
  exact ⟨a1, a2, a3, a4, a5⟩
theorem SI_reads {u w : Nat} {x : Int32} : ∀ (n : Nat) {N : Nat} {S T : XM} {ok : Bool}, SI N S u w → s_reads u x n S ok T → SI N T u w
  | 0, N, S, T, ok, h, hs => by rw [hs.2]; exact h
  | n + 1, N, S, T, ok, h, hs => by
    obtain ⟨r, T1, q, ⟨-, -, q1⟩ | ⟨-, q1⟩⟩ := hs
    · rw [q1]; exact SI_readL h q
    · exact SI_reads n (SI_readL h q) q1
theorem SI_cmd {N : Nat} {S T : XM} {u w z : Nat} {ch x : Int32} {ok : Bool} (h : SI N S u w) (hL : isL ch) (hz : z ≤ 9) (hs : s_cmd S u w ch x (nI z) ok T) : SI (N + 1) T u w := by
  obtain ⟨q1, q2, q3, q4, q5⟩ := hs
  rcases hL with e | e | e | e | e
  · obtain ⟨r, q, -⟩ := q1 e; exact SI_write h q
  · obtain ⟨r, q, -⟩ := q2 e; exact SI_read h q
  · obtain ⟨r, q, -⟩ := q3 e; exact (SI_send h q).up (Nat.le_succ N)
  · obtain ⟨a, c⟩ := q5 e z hz rfl
    by_cases hx : isU u x
    · exact (SI_reads z h (c hx)).up (Nat.le_succ N)
    · rw [(a hx).2]; exact h.up (Nat.le_succ N)
  · obtain ⟨r, q, -⟩ := q4 e; exact (SI_attach h q).up (Nat.le_succ N)
theorem SI_cmds {u w : Nat} {f : Nat → Int32} {t : Nat} (hok : ∀ i, i < t → okc f i) : ∀ (k n : Nat) {N : Nat} {S T : XM} {r : Nat}, 3 * (n + k) ≤ t → SI N S u w → s_cmds u w f k n S r T → SI (N + k) T u w
  | 0, n, N, S, T, r, _, h, hs => by rw [hs.2]; exact h
  | k + 1, n, N, S, T, r, hn, h, hs => by
    obtain ⟨ok, T1, q, q2⟩ := hs
    have hL : isL (f (3 * n)) := (hok (3 * n) (by omega)).1 (by omega)
    obtain ⟨z, hz9, ez⟩ := isD_n ((hok (3 * n + 2) (by omega)).2 (by omega))
    rw [ez] at q
    have h1 := SI_cmd h hL hz9 q
    rcases q2 with ⟨-, -, q3⟩ | ⟨-, q3⟩
    · rw [q3]; exact h1.up (by omega)
    · exact (SI_cmds hok k (n + 1) (by omega) h1 q3).up (by omega)
theorem SI_run {N : Nat} {S T : XM} {u w : Nat} {r : Int32} (h : SI N S u w) (hs : s_run S u w r T) : SI (N + 20) T u w := by
  obtain ⟨t, ht6, ht⟩ := h.1.2.2.2.2.2.1
  obtain ⟨q1, q2⟩ := hs t ht6 ht
  by_cases e : fb (okc (S m_text)) t = t ∧ t % 3 = 0
  · obtain ⟨n, -, q3⟩ := q2 e
    exact (SI_cmds (fb_ok e.1) (t / 3) 0 (by omega) h q3).up (by omega)
  · rw [(q1 e).2]; exact h.up (by omega)
