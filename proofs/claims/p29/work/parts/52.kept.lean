/-! ===== p29: what holds of every store that calls have made ===== -/
def JP (N : Nat) (S : XM) (u i : Nat) : Prop := S m_hasProof i ≠ 0 → (∃ d, d ≤ N ∧ S m_depthOf i = nI d) ∧ ¬ vle u (pF S i) (pS S i) ∧ ¬ vle u (pS S i) (pF S i)
def JJ (N : Nat) (S : XM) (u : Nat) : Prop := ∀ i, i < u → vle u (rG S i) (rK S i) ∧ (S m_hasProof i ≠ 0 → 0 < S m_alarmOf i) ∧ JP N S u i
theorem JP.up {N M : Nat} {S : XM} {u i : Nat} (h : JP N S u i) (hm : N ≤ M) : JP M S u i := fun q => by
  obtain ⟨⟨d, h1, h2⟩, h3⟩ := h q
  exact ⟨⟨d, by omega, h2⟩, h3⟩
theorem JJ.up {N M : Nat} {S : XM} {u : Nat} (h : JJ N S u) (hm : N ≤ M) : JJ M S u := fun i hi => ⟨(h i hi).1, (h i hi).2.1, (h i hi).2.2.up hm⟩
theorem JP.to {N : Nat} {S T : XM} {u i : Nat} (h : JP N S u i) (hu : u ≤ 5) (h1 : T m_hasProof i = S m_hasProof i) (h2 : T m_depthOf i = S m_depthOf i) (h3 : ∀ p, p < 5 → pF T i p = pF S i p ∧ pS T i p = pS S i p) : JP N T u i := fun q => by
  rw [h1] at q
  rw [h2, vle_congr (fun k hk => (h3 k (by omega)).1) (fun k hk => (h3 k (by omega)).2), vle_congr (f := pS T i) (g := pF T i) (fun k hk => (h3 k (by omega)).2) (fun k hk => (h3 k (by omega)).1)]
  exact h q
theorem JJ.of {N : Nat} {S T : XM} {u : Nat} (h : JJ N S u) (e : ∀ o, o = m_signedOf ∨ o = m_knownOf ∨ o = m_hasProof ∨ o = m_alarmOf ∨ o = m_depthOf ∨ o = m_proofOf → T o = S o) : JJ N T u := by
  intro i hi
  have h1 := h i hi
  unfold JP rG rK pF pS at *
  rw [e m_signedOf (by simp), e m_knownOf (by simp), e m_hasProof (by simp), e m_alarmOf (by simp), e m_depthOf (by simp), e m_proofOf (by simp)]
  exact h1
theorem mKeep_oth {S T : XM} {i j : Nat} {d : Int32} {f1 f2 : Nat → Int32} (h : mKeep S i d f1 f2 T) (hj : j ≠ i) : T m_hasProof j = S m_hasProof j ∧ T m_depthOf j = S m_depthOf j ∧ ∀ p, p < 5 → pF T j p = pF S j p ∧ pS T j p = pS S j p := by
  rcases h with ⟨-, rfl⟩ | ⟨-, rfl⟩
  · exact ⟨rfl, rfl, fun _ _ => ⟨rfl, rfl⟩⟩
  · refine ⟨by rw [su_n (by decide), sw_n (by decide), sw_k hj], by rw [su_n (by decide), sw_k hj, sw_n (by decide)], fun p hp => ⟨?_, ?_⟩⟩
    · simp only [pF, sl]
      rw [su_s, cpy_out (by rcases Nat.lt_or_ge j i with z | z <;> omega), cpy_out (by rcases Nat.lt_or_ge j i with z | z <;> omega)]
    · simp only [pS, sl]
      rw [su_s, cpy_out (by rcases Nat.lt_or_ge j i with z | z <;> omega), cpy_out (by rcases Nat.lt_or_ge j i with z | z <;> omega)]
/-- a user without a proof gets these two vectors -/
theorem mKeep_new {S T : XM} {i : Nat} {d : Int32} {f1 f2 : Nat → Int32} (h : mKeep S i d f1 f2 T) (h0 : S m_hasProof i = 0) : T m_hasProof i ≠ 0 ∧ T m_depthOf i = d ∧ ∀ p, p < 5 → pF T i p = f1 p ∧ pS T i p = f2 p := by
  rcases h with ⟨q, -⟩ | ⟨-, rfl⟩
  · exact absurd h0 q
  · refine ⟨by rw [su_n (by decide), sw_n (by decide), sw_s]; decide, by rw [su_n (by decide), sw_s], fun p hp => ⟨?_, ?_⟩⟩
    · simp only [pF, sl]
      rw [su_s, cpy_out (by omega), cpy_in hp]
    · simp only [pS, sl]
      rw [su_s, cpy_in hp]
theorem mKeep_JP {N : Nat} {S T : XM} {u i d : Nat} {f1 f2 : Nat → Int32} (h : mKeep S i (nI d) f1 f2 T) (hu : u ≤ 5) (hd : d ≤ N) (h1 : ¬ vle u f1 f2) (h2 : ¬ vle u f2 f1) (h3 : JP N S u i) : JP N T u i := by
  by_cases h0 : S m_hasProof i = 0
  · obtain ⟨q1, q2, q3⟩ := mKeep_new h h0
    intro _
    rw [vle_congr (f := pF T i) (g := pS T i) (fun k hk => (q3 k (by omega)).1) (fun k hk => (q3 k (by omega)).2), vle_congr (f := pS T i) (g := pF T i) (fun k hk => (q3 k (by omega)).2) (fun k hk => (q3 k (by omega)).1)]
    exact ⟨⟨d, hd, q2⟩, h1, h2⟩
  · rcases h with ⟨-, rfl⟩ | ⟨q, -⟩
    · exact h3
    · exact absurd q h0
theorem JJ_raise {N : Nat} {S T : XM} {u v i x : Nat} (J : JJ N S u) (hu : u ≤ 5) (hi : i < u) (ha : ¬ 0 < S m_alarmOf i) (h : mRaise S u v i x T) : JJ N T u := by
  have h0 : S m_hasProof i = 0 := Classical.not_not.mp (fun q => ha ((J i hi).2.1 q))
  have hJ : ∀ (U : XM), (∀ o, o = m_hasProof ∨ o = m_depthOf ∨ o = m_proofOf → U o = S o) → ∀ j, j < u → JP N U u j := fun U hU j hj => (J j hj).2.2.to hu (by rw [hU _ (by simp)]) (by rw [hU _ (by simp)]) (fun p hp => ⟨by unfold pF; rw [hU _ (by simp)], by unfold pS; rw [hU _ (by simp)]⟩)
  have key : ∀ j, j < u → JP N T u j ∧ (j ≠ i → T m_hasProof j = S m_hasProof j) := by
    intro j hj
    rcases h with ⟨-, rfl⟩ | ⟨-, a, c, hf, q⟩ | ⟨-, T1, hs, q⟩
    · exact ⟨hJ _ (fun o ho => sw_n (by rcases ho with rfl | rfl | rfl <;> decide)) j hj, fun _ => by rw [sw_n (by decide)]⟩
    · have h1 := hJ (sw S m_alarmOf i (nI 2)) (fun o ho => sw_n (by rcases ho with rfl | rfl | rfl <;> decide)) j hj
      by_cases e : j = i
      · subst e
        have hr := rel_2.mp hf.2.2.1
        exact ⟨mKeep_JP q hu (Nat.zero_le _) hr.1 hr.2 h1, fun e => absurd rfl e⟩
      · obtain ⟨o1, o2, o3⟩ := mKeep_oth q e
        exact ⟨h1.to hu o1 o2 o3, fun _ => by rw [o1, sw_n (by decide)]⟩
    · have e1 : ∀ o, o = m_hasProof ∨ o = m_depthOf ∨ o = m_proofOf → T1 o = S o := fun o ho => by rw [hs.1 o (by rcases ho with rfl | rfl | rfl <;> decide), sw_n (by rcases ho with rfl | rfl | rfl <;> decide)]
      have h1 := hJ T1 e1 j hj
      rcases q with ⟨hr, q⟩ | ⟨-, rfl⟩
      · by_cases e : j = i
        · subst e
          have hr := rel_2.mp hr
          exact ⟨mKeep_JP q hu (Nat.zero_le _) hr.1 hr.2 h1, fun e => absurd rfl e⟩
        · obtain ⟨o1, o2, o3⟩ := mKeep_oth q e
          exact ⟨h1.to hu o1 o2 o3, fun _ => by rw [o1, e1 _ (by simp)]⟩
      · exact ⟨h1, fun _ => by rw [e1 _ (by simp)]⟩
  have hx : 1 ≤ x ∧ x ≤ 3 := by rcases h with ⟨rfl, -⟩ | ⟨rfl, -⟩ | ⟨rfl, -⟩ <;> decide
  intro j hj
  obtain ⟨k1, k2⟩ := key j hj
  refine ⟨?_, fun q => ?_, k1⟩
  · unfold rG rK
    rw [h.out (by decide) (by decide) (by decide) (by decide) (by decide), h.out (o := m_knownOf) (by decide) (by decide) (by decide) (by decide) (by decide)]
    exact (J j hj).1
  · rw [h.alm.2]
    by_cases e : j = i
    · subst e; rw [upd_s]; exact (alm_pos rfl (by omega)).mpr (by omega)
    · rw [upd_n e]; rw [k2 e] at q; exact (J j hj).2.1 q
theorem JJ_oper {N : Nat} {S T : XM} {u v i k : Nat} (J : JJ N S u) (hu : u ≤ 5) (hi : i < u) (ha : ¬ 0 < S m_alarmOf i) (h : mOper S u v i k T) : JJ N T u := by
  rcases h with ⟨-, T1, hs, hr⟩ | ⟨h0, hf, t1, t2, t3, t4, t5, t6, t7, t8, t9, t10, t11⟩
  · have e1 : ∀ o, o ≠ oMod → o ≠ m_shownTo → T1 o = S o := fun o q q2 => by rw [hs.1 o q, sw_n q2]
    refine JJ_raise (J.of (fun o ho => e1 o (by rcases ho with rfl | rfl | rfl | rfl | rfl | rfl <;> decide) (by rcases ho with rfl | rfl | rfl | rfl | rfl | rfl <;> decide))) hu hi ?_ hr
    rw [e1 _ (by decide) (by decide)]; exact ha
  · have eo : ∀ o, o = m_hasProof ∨ o = m_alarmOf ∨ o = m_depthOf ∨ o = m_proofOf → T o = S o := fun o ho => t11 o (by rcases ho with rfl | rfl | rfl | rfl <;> decide) (by rcases ho with rfl | rfl | rfl | rfl <;> decide) (by rcases ho with rfl | rfl | rfl | rfl <;> decide) (by rcases ho with rfl | rfl | rfl | rfl <;> decide) (by rcases ho with rfl | rfl | rfl | rfl <;> decide) (by rcases ho with rfl | rfl | rfl | rfl <;> decide) (by rcases ho with rfl | rfl | rfl | rfl <;> decide) (by rcases ho with rfl | rfl | rfl | rfl <;> decide) (by rcases ho with rfl | rfl | rfl | rfl <;> decide)
    intro j hj
    refine ⟨?_, by rw [eo _ (by simp), eo m_alarmOf (by simp)]; exact (J j hj).2.1, (J j hj).2.2.to hu (by rw [eo _ (by simp)]) (by rw [eo _ (by simp)]) (fun p hp => ⟨by unfold pF; rw [eo _ (by simp)], by unfold pS; rw [eo _ (by simp)]⟩)⟩
    by_cases e : j = i
    · subst e
      intro p hp
      show T m_signedOf (5 * j + p) ≤ T m_knownOf (5 * j + p)
      rw [t2, t3, cpy_in (by omega), cpy_in (by omega)]
      exact Int32.le_refl _
    · intro p hp
      show T m_signedOf (5 * j + p) ≤ T m_knownOf (5 * j + p)
      rw [t2, t3, cpy_out (by rcases Nat.lt_or_ge j i with z | z <;> omega), cpy_out (by rcases Nat.lt_or_ge j i with z | z <;> omega)]
      exact (J j hj).1 p hp
theorem JJ_write {N : Nat} {S T : XM} {u w : Nat} {x y r : Int32} (h : MW S u w) (J : JJ N S u) (hs : s_write S u x y r T) : JJ N T u := by
  have hu := h.1.2
  by_cases h1 : isU u x
  · obtain ⟨i, hi, rfl⟩ := h1
    have hs := hs.2 i hi rfl
    by_cases h2 : inR y
    · have hs := hs.2 h2
      by_cases h3 : 0 < S m_alarmOf i
      · rw [(hs.1 h3).2]; exact J
      · obtain ⟨v, hv, hV⟩ := h.2.2.1 i (by omega)
        obtain ⟨k, hk5, hk⟩ := h.2.2.2.1 v hv
        obtain ⟨T1, q, -, q1, q2⟩ := hs.2 h3 v k (by have := h.2.1.2; omega) hk5 hV hk
        have ho := JJ_oper J hu.2 hi h3 q
        by_cases h4 : al S u v i = 0
        · rw [q1 h4]; exact ho.of (fun o ho => sw_n (by rcases ho with rfl | rfl | rfl | rfl | rfl | rfl <;> decide))
        · rw [q2 h4]; exact ho
    · rw [(hs.1 h2).2]; exact J
  · rw [(hs.1 h1).2]; exact J
theorem JJ_read {N : Nat} {S T : XM} {u w : Nat} {x y r : Int32} (h : MW S u w) (J : JJ N S u) (hs : s_read S u x y r T) : JJ N T u := by
  have hu := h.1.2
  by_cases h1 : isU u x ∧ isU u y
  · obtain ⟨⟨i, hi, rfl⟩, ⟨j, hj, rfl⟩⟩ := h1
    have hs := hs.2 i j hi hj rfl rfl
    by_cases h3 : 0 < S m_alarmOf i
    · rw [(hs.1 h3).2]; exact J
    · obtain ⟨v, hv, hV⟩ := h.2.2.1 i (by omega)
      obtain ⟨k, hk5, hk⟩ := h.2.2.2.1 v hv
      obtain ⟨T1, q, -, q1, q2⟩ := hs.2 h3 v k (by have := h.2.1.2; omega) hk5 hV hk
      have ho := JJ_oper J hu.2 hi h3 q
      by_cases h4 : al S u v i = 0
      · rw [q1 h4]; exact ho.of (fun o ho => by rw [sw_n (by rcases ho with rfl | rfl | rfl | rfl | rfl | rfl <;> decide), sw_n (by rcases ho with rfl | rfl | rfl | rfl | rfl | rfl <;> decide)])
      · rw [q2 h4]; exact ho
  · rw [(hs.1 h1).2]; exact J
theorem JJ_take {N : Nat} {S T : XM} {u i z : Nat} (J : JJ N S u) (q : mTake S i z T) : JJ N T u := J.of (fun o ho => q.2.2.2 o (by rcases ho with rfl | rfl | rfl | rfl | rfl | rfl <;> decide) (by rcases ho with rfl | rfl | rfl | rfl | rfl | rfl <;> decide) (by rcases ho with rfl | rfl | rfl | rfl | rfl | rfl <;> decide))
theorem JJ_send {N : Nat} {S T : XM} {u w : Nat} {x y r : Int32} (h : MW S u w) (J : JJ N S u) (hs : s_send S u x y r T) : JJ N T u := by
  have hu := h.1.2
  by_cases h1 : isU u x ∧ isU u y
  · obtain ⟨⟨i, hi, rfl⟩, ⟨j, hj, rfl⟩⟩ := h1
    have hs := hs.2 i j hi hj rfl rfl
    by_cases h3 : i = j
    · rw [(hs.1 h3).2]; exact J
    · obtain ⟨z, hz4, hz⟩ := h.2.2.2.2.1 j (by omega)
      have hs := hs.2 h3 z hz4 hz
      by_cases h4 : z = 4
      · rw [(hs.1 h4).2]; exact J
      · exact J.of (fun o ho => (hs.2 h4).2.2.2.2 o (by rcases ho with rfl | rfl | rfl | rfl | rfl | rfl <;> decide) (by rcases ho with rfl | rfl | rfl | rfl | rfl | rfl <;> decide) (by rcases ho with rfl | rfl | rfl | rfl | rfl | rfl <;> decide))
  · rw [(hs.1 h1).2]; exact J
theorem JJ_lose {N : Nat} {S T : XM} {u w : Nat} {x r : Int32} (h : MW S u w) (J : JJ N S u) (hs : s_lose S u x r T) : JJ N T u := by
  have hu := h.1.2
  by_cases h1 : isU u x
  · obtain ⟨i, hi, rfl⟩ := h1
    obtain ⟨z, hz4, hz⟩ := h.2.2.2.2.1 i (by omega)
    obtain ⟨hs0, hs⟩ := hs.2 i hi rfl z hz4 hz
    by_cases h3 : z = 0
    · rw [(hs0 h3).2]; exact J
    · exact JJ_take J (hs h3).2
  · rw [(hs.1 h1).2]; exact J
theorem JJ_readL {N : Nat} {S T : XM} {u w : Nat} {x r : Int32} (h : MW S u w) (J : JJ N S u) (hs : s_readL S u x r T) : JJ N T u := by
  have hu := h.1.2
  by_cases h1 : isU u x
  · obtain ⟨i, hi, rfl⟩ := h1
    obtain ⟨z, hz4, hz⟩ := h.2.2.2.2.1 i (by omega)
    obtain ⟨hs0, hs⟩ := hs.2 i hi rfl z hz4 hz
    by_cases h3 : z = 0
    · rw [(hs0 h3).2]; exact J
    · obtain ⟨T1, q, q1, q2⟩ := hs h3
      have ht := JJ_take J q
      have e1 : ∀ o, o = m_signedOf ∨ o = m_knownOf ∨ o = m_hasProof ∨ o = m_alarmOf ∨ o = m_depthOf ∨ o = m_proofOf → T1 o = S o := fun o ho => q.2.2.2 o (by rcases ho with rfl | rfl | rfl | rfl | rfl | rfl <;> decide) (by rcases ho with rfl | rfl | rfl | rfl | rfl | rfl <;> decide) (by rcases ho with rfl | rfl | rfl | rfl | rfl | rfl <;> decide)
      by_cases h4 : vle u (sl (S m_letter) (20 * i)) (rK S i)
      · rw [(q1 h4).2]; exact ht
      · have q2 := q2 h4
        by_cases h5 : vle u (rK S i) (sl (S m_letter) (20 * i))
        · obtain ⟨-, q3, q4⟩ := q2.1 h5
          intro j hj
          refine ⟨?_, by rw [q4 m_hasProof (by decide), q4 m_alarmOf (by decide)]; exact (ht j hj).2.1, (ht j hj).2.2.to hu.2 (by rw [q4 _ (by decide)]) (by rw [q4 _ (by decide)]) (fun p hp => ⟨by unfold pF; rw [q4 _ (by decide)], by unfold pS; rw [q4 _ (by decide)]⟩)⟩
          intro p hp
          show T m_signedOf (5 * j + p) ≤ T m_knownOf (5 * j + p)
          rw [q4 m_signedOf (by decide), e1 m_signedOf (by simp), q3]
          by_cases e : j = i
          · subst e
            rw [cpy_in (by omega)]
            exact Int32.le_trans ((J j hj).1 p hp) (h5 p hp)
          · rw [cpy_out (by rcases Nat.lt_or_ge j i with z | z <;> omega)]
            exact (J j hj).1 p hp
        · obtain ⟨-, T2, a1, a2, q3⟩ := q2.2 h5
          have e2 : ∀ o, o ≠ m_alarmOf → T2 o = T1 o := fun o o1 => by
            by_cases h6 : 0 < S m_alarmOf i
            · rw [a1 h6]; exact sw_n o1
            · rw [a2 h6]; exact sw_n o1
          have e3 : 0 < T2 m_alarmOf i ∧ ∀ j, j ≠ i → T2 m_alarmOf j = S m_alarmOf j := by
            by_cases h6 : 0 < S m_alarmOf i
            · rw [a1 h6]
              exact ⟨by rw [sw_s]; exact h6, fun j hj => by rw [sw_k hj, e1 _ (by simp)]⟩
            · rw [a2 h6]
              exact ⟨by rw [sw_s]; decide, fun j hj => by rw [sw_k hj, e1 _ (by simp)]⟩
          intro j hj
          have hJ2 : JP N T2 u j := (J j hj).2.2.to hu.2 (by rw [e2 _ (by decide), e1 _ (by simp)]) (by rw [e2 _ (by decide), e1 _ (by simp)]) (fun p hp => ⟨by unfold pF; rw [e2 _ (by decide), e1 _ (by simp)], by unfold pS; rw [e2 _ (by decide), e1 _ (by simp)]⟩)
          refine ⟨?_, fun z => ?_, ?_⟩
          · intro p hp
            show T m_signedOf (5 * j + p) ≤ T m_knownOf (5 * j + p)
            rw [q3.out (by decide) (by decide) (by decide), q3.out (o := m_knownOf) (by decide) (by decide) (by decide), e2 _ (by decide), e2 m_knownOf (by decide), e1 _ (by simp), e1 m_knownOf (by simp)]
            exact (J j hj).1 p hp
          · rw [q3.out (by decide) (by decide) (by decide)]
            by_cases e : j = i
            · subst e; exact e3.1
            · rw [e3.2 j e]
              rw [(mKeep_oth q3 e).1, e2 _ (by decide), e1 _ (by simp)] at z
              exact (J j hj).2.1 z
          · by_cases e : j = i
            · subst e
              have hh : ∀ k, k < u → sl (T1 m_hand) 0 k = sl (S m_letter) (20 * j) k := fun k hk => q.hd k (by omega)
              exact mKeep_JP q3 hu.2 (Nat.zero_le _) (by rw [vle_congr (fun k _ => rfl) hh]; exact h5) (by rw [vle_congr hh (fun k _ => rfl)]; exact h4) hJ2
            · obtain ⟨o1, o2, o3⟩ := mKeep_oth q3 e
              exact hJ2.to hu.2 o1 o2 o3
  · rw [(hs.1 h1).2]; exact J
theorem JJ_pass {N : Nat} {S T : XM} {u w : Nat} {x y r : Int32} (h : MW S u w) (J : JJ N S u) (hs : s_pass S u x y r T) : JJ (N + 1) T u := by
  have hu := h.1.2
  by_cases h1 : isU u x ∧ isU u y
  · obtain ⟨⟨i, hi, rfl⟩, ⟨j, hj, rfl⟩⟩ := h1
    have hs := hs.2 i j hi hj rfl rfl
    by_cases h3 : i = j
    · rw [(hs.1 h3).2]; exact J.up (Nat.le_succ N)
    · have hs := hs.2 h3
      by_cases h4 : S m_hasProof i = 0
      · rw [(hs.1 h4).2]; exact J.up (Nat.le_succ N)
      · obtain ⟨T1, q, c1, c2⟩ := hs.2 h4
        obtain ⟨⟨d, hd, ed⟩, n1, n2⟩ := (J i hi).2.2 h4
        rw [ed, nI_add] at q
        have e0 : ∀ o, o ≠ m_sentBy → sw S m_sentBy i (S m_sentBy i + nI (2 * u)) o = S o := fun o ho => sw_n ho
        have hT1 : ∀ o, o ≠ m_alarmOf → T o = T1 o := fun o ho => by
          by_cases h5 : 0 < S m_alarmOf j
          · rw [(c1 h5).2]
          · rw [(c2 h5).2]; exact sw_n ho
        have e4 : 0 < T m_alarmOf j ∧ ∀ k, k ≠ j → T m_alarmOf k = S m_alarmOf k := by
          have ea : T1 m_alarmOf = S m_alarmOf := by rw [q.out (by decide) (by decide) (by decide), e0 _ (by decide)]
          by_cases h5 : 0 < S m_alarmOf j
          · rw [(c1 h5).2, ea]; exact ⟨h5, fun _ _ => rfl⟩
          · rw [(c2 h5).2]
            exact ⟨by rw [sw_s]; decide, fun k hk => by rw [sw_k hk, ea]⟩
        intro k hk
        have hJ0 : JP (N + 1) (sw S m_sentBy i (S m_sentBy i + nI (2 * u))) u k := ((J k hk).2.2.up (Nat.le_succ N)).to hu.2 (by rw [e0 _ (by decide)]) (by rw [e0 _ (by decide)]) (fun p hp => ⟨by unfold pF; rw [e0 _ (by decide)], by unfold pS; rw [e0 _ (by decide)]⟩)
        have hJ1 : JP (N + 1) T1 u k := by
          by_cases e : k = j
          · subst e; exact mKeep_JP q hu.2 (by omega) n1 n2 hJ0
          · obtain ⟨o1, o2, o3⟩ := mKeep_oth q e
            exact hJ0.to hu.2 o1 o2 o3
        refine ⟨?_, fun z => ?_, hJ1.to hu.2 (by rw [hT1 _ (by decide)]) (by rw [hT1 _ (by decide)]) (fun p hp => ⟨by unfold pF; rw [hT1 _ (by decide)], by unfold pS; rw [hT1 _ (by decide)]⟩)⟩
        · intro p hp
          show T m_signedOf (5 * k + p) ≤ T m_knownOf (5 * k + p)
          rw [hT1 _ (by decide), hT1 m_knownOf (by decide), q.out (by decide) (by decide) (by decide), q.out (o := m_knownOf) (by decide) (by decide) (by decide), e0 _ (by decide), e0 m_knownOf (by decide)]
          exact (J k hk).1 p hp
        · by_cases e : k = j
          · subst e; exact e4.1
          · rw [e4.2 k e]
            rw [hT1 _ (by decide), (mKeep_oth q e).1, e0 _ (by decide)] at z
            exact (J k hk).2.1 z
  · rw [(hs.1 h1).2]; exact J.up (Nat.le_succ N)
theorem JJ_attach {N : Nat} {S T : XM} {u w : Nat} {x y r : Int32} (J : JJ N S u) (hs : s_attach S u w x y r T) : JJ N T u := by
  by_cases h1 : isU u x ∧ isU w y
  · obtain ⟨⟨i, hi, rfl⟩, ⟨v, hv, rfl⟩⟩ := h1
    obtain ⟨-, rfl⟩ := hs.2 i v hi hv rfl rfl
    exact J.of (fun o ho => sw_n (by rcases ho with rfl | rfl | rfl | rfl | rfl | rfl <;> decide))
  · rw [(hs.1 h1).2]; exact J
theorem JJ_roll {N : Nat} {S T : XM} {u w : Nat} {x y r : Int32} (h : MW S u w) (J : JJ N S u) (hs : s_roll S w x y r T) : JJ N T u := by
  by_cases h1 : isU w x
  · obtain ⟨v, hv, rfl⟩ := h1
    have hs := hs.2 v hv rfl
    by_cases h2 : nI 1 ≤ y ∧ y ≤ nI 5
    · obtain ⟨z, z1, z5, rfl⟩ := rng15 h2
      obtain ⟨k, hk5, hk⟩ := h.2.2.2.1 v hv
      have hs := hs.2 z k z1 z5 rfl hk5 hk
      rcases Nat.lt_or_ge k z with q | q
      · rw [(hs.1 q).2]; exact J
      · exact J.of (fun o ho => (hs.2 q).2.2.2 o (by rcases ho with rfl | rfl | rfl | rfl | rfl | rfl <;> decide) (by rcases ho with rfl | rfl | rfl | rfl | rfl | rfl <;> decide))
    · rw [(hs.1 h2).2]; exact J
  · rw [(hs.1 h1).2]; exact J
theorem JJ_mix {N : Nat} {S T : XM} {u w : Nat} {x y r : Int32} (J : JJ N S u) (hs : s_mix S u w x y r T) : JJ N T u := by
  by_cases h1 : isU w x ∧ isU w y
  · obtain ⟨⟨v, hv, rfl⟩, ⟨o, ho, rfl⟩⟩ := h1
    have hs := hs.2 v o hv ho rfl rfl
    by_cases h2 : v = o
    · rw [(hs.1 h2).2]; exact J
    · obtain ⟨-, -, -, -, -, -, -, q⟩ := hs.2 h2
      exact J.of (fun o ho => q o (by rcases ho with rfl | rfl | rfl | rfl | rfl | rfl <;> decide) (by rcases ho with rfl | rfl | rfl | rfl | rfl | rfl <;> decide) (by rcases ho with rfl | rfl | rfl | rfl | rfl | rfl <;> decide))
  · rw [(hs.1 h1).2]; exact J
theorem JJ_fork {N : Nat} {S T : XM} {u w : Nat} {x y r : Int32} (J : JJ N S u) (hs : s_fork S u w x y r T) : JJ N T u := by
  by_cases h1 : isU w x
  · obtain ⟨v, hv, rfl⟩ := h1
    have hs := hs.2 v hv rfl
    by_cases h2 : badS S u v y
    · rw [(hs.1 h2).2]; exact J
    · have hs := hs.2 h2
      by_cases h3 : w = 6
      · rw [(hs.1 h3).2]; exact J
      · obtain ⟨-, -, -, -, -, -, -, -, q⟩ := hs.2 h3
        exact J.of (fun o ho => q o (by rcases ho with rfl | rfl | rfl | rfl | rfl | rfl <;> decide) (by rcases ho with rfl | rfl | rfl | rfl | rfl | rfl <;> decide) (by rcases ho with rfl | rfl | rfl | rfl | rfl | rfl <;> decide) (by rcases ho with rfl | rfl | rfl | rfl | rfl | rfl <;> decide) (by rcases ho with rfl | rfl | rfl | rfl | rfl | rfl <;> decide))
  · rw [(hs.1 h1).2]; exact J
theorem JJ_begin {N : Nat} {S T : XM} {z : Nat} (hz : z ≤ 5) (h : mBegin S z T) : JJ N T z := by
  obtain ⟨-, -, -, -, -, -, h7, h8, -⟩ := h
  intro i hi
  have h0 : T m_hasProof i = 0 := (h8 i (by omega)).2.2.1.trans nI_0
  refine ⟨fun p hp => ?_, fun q => absurd h0 q, fun q => absurd h0 q⟩
  show T m_signedOf (5 * i + p) ≤ T m_knownOf (5 * i + p)
  rw [(h7 _ (by omega)).1, (h7 _ (by omega)).2]
  exact Int32.le_refl _
