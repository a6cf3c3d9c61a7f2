/-! ===== two answers are one ===== -/
def EqM (S S' : XM) (w : Nat) : Prop := (∀ o, o ≠ oMod → o ≠ m_keptRow → S' o = S o) ∧ (∀ j, j ≠ 20 → j ≠ 21 → S' oMod j = S oMod j) ∧ ∀ v, v < w → ∀ k, k ≤ 5 → S m_keptOf v = nI k → ∀ y, y < 30 * k → S' m_keptRow (150 * v + y) = S m_keptRow (150 * v + y)
theorem EqM.rf {S : XM} {w : Nat} : EqM S S w := ⟨fun _ _ _ => rfl, fun _ _ _ => rfl, fun _ _ _ _ _ _ _ => rfl⟩
/-- both keep what they have, but for the arrays given by one formula -/
theorem EqM.of {S S' T T' : XM} {w : Nat} (h : EqM S S' w) (h1 : ∀ o, o ≠ oMod → o ≠ m_keptRow → T' o = T o) (h2 : T oMod = S oMod ∧ T' oMod = S' oMod) (h3 : T m_keptRow = S m_keptRow ∧ T' m_keptRow = S' m_keptRow) (h4 : T m_keptOf = S m_keptOf) : EqM T T' w :=
  ⟨h1, fun j j1 j2 => by rw [h2.1, h2.2]; exact h.2.1 j j1 j2, fun v hv k hk e y hy => by rw [h4] at e; rw [h3.1, h3.2]; exact h.2.2 v hv k hk e y hy⟩
theorem EqM.l1 {S S' : XM} {w : Nat} (h : EqM S S' w) (u v i : Nat) : al S' u v i = al S u v i ∧ rV S' v = rV S v ∧ rK S' i = rK S i ∧ bst S' u v = bst S u v := al_same (h.1 _ (by decide) (by decide)) (h.1 _ (by decide) (by decide)) (h.1 _ (by decide) (by decide))
theorem EqM.raise {S S' T T' : XM} {u w v i x : Nat} (h : EqM S S' w) (hm : mRaise S u v i x T) (hm' : mRaise S' u v i x T') : EqM T T' w := by
  obtain ⟨-, e1, e2, e3⟩ := h.l1 u v i
  have hk : T m_keptOf = S m_keptOf := hm.out (by decide) (by decide) (by decide) (by decide) (by decide)
  refine ⟨fun o o1 o2 => ?_, fun j j1 j2 => by rw [hm.m j1 j2, hm'.m j1 j2]; exact h.2.1 j j1 j2, fun v' hv' k hk' e y hy => ?_⟩
  · rcases hm with ⟨a, rfl⟩ | ⟨a, p, q, f1, g1⟩ | ⟨a, T1, f1, g1⟩ <;> rcases hm' with ⟨a', rfl⟩ | ⟨a', p', q', f1', g1'⟩ | ⟨a', T1', f1', g1'⟩ <;> first | omega | skip
    · by_cases ho : o = m_alarmOf
      · subst ho; rw [sw_o, sw_o, h.1 _ (by decide) (by decide)]
      · rw [sw_n ho, sw_n ho]; exact h.1 o o1 o2
    · rw [e1] at f1' g1'
      obtain ⟨rfl, rfl⟩ := fstP_uni f1 f1'
      refine mKeep_par g1 g1' ?_ ?_ ?_ ?_
      · rw [sw_n (by decide), sw_n (by decide)]; exact h.1 _ (by decide) (by decide)
      · rw [sw_n (by decide), sw_n (by decide)]; exact h.1 _ (by decide) (by decide)
      · rw [sw_n (by decide), sw_n (by decide)]; exact h.1 _ (by decide) (by decide)
      · by_cases ho : o = m_alarmOf
        · subst ho; rw [sw_o, sw_o, h.1 _ (by decide) (by decide)]
        · rw [sw_n ho, sw_n ho]; exact h.1 o o1 o2
    · have g : ∀ o, o ≠ oMod → o ≠ m_keptRow → T1' o = T1 o := fun o o1 o2 => by
        rw [f1'.1 o o1, f1.1 o o1]
        by_cases ho : o = m_alarmOf
        · subst ho; rw [sw_o, sw_o, h.1 _ (by decide) (by decide)]
        · rw [sw_n ho, sw_n ho]; exact h.1 o o1 o2
      rw [e1, e2, e3] at g1'
      rcases g1 with ⟨r1, g1⟩ | ⟨r1, rfl⟩ <;> rcases g1' with ⟨r1', g1'⟩ | ⟨r1', rfl⟩
      · exact mKeep_par g1 g1' (g _ (by decide) (by decide)) (g _ (by decide) (by decide)) (g _ (by decide) (by decide)) (g o o1 o2)
      · exact absurd r1 r1'
      · exact absurd r1' r1
      · exact g o o1 o2
  · rw [hk] at e
    rw [hm.out (o := m_keptRow) (by decide) (by decide) (by decide) (by decide) (by decide), hm'.out (o := m_keptRow) (by decide) (by decide) (by decide) (by decide) (by decide)]
    exact h.2.2 v' hv' k hk' e y hy
theorem EqM.oper {S S' T T' : XM} {u w v i k : Nat} (h : EqM S S' w) (hv : v < w) (hk5 : k ≤ 5) (hk : S m_keptOf v = nI k) (hm : mOper S u v i k T) (hm' : mOper S' u v i k T') : EqM T T' w := by
  obtain ⟨e0, e1, e2, e3⟩ := h.l1 u v i
  rcases hm with ⟨a, T1, q, q2⟩ | ⟨a, -, t1, t2, t3, t4, t5, t6, t7, t8, t9, t10, t11⟩ <;> rcases hm' with ⟨a', T1', q', q2'⟩ | ⟨a', -, t1', t2', t3', t4', t5', t6', t7', t8', t9', t10', t11'⟩
  · rw [e0] at q2'
    have h1 : EqM T1 T1' w := by
      refine ⟨fun o o1 o2 => ?_, fun j j1 j2 => ?_, fun v' hv' k' hk' e y hy => ?_⟩
      · rw [q'.1 o o1, q.1 o o1, h.1 m_shownTo (by decide) (by decide)]
        by_cases ho : o = m_shownTo
        · subst ho; rw [sw_o, sw_o, h.1 m_shownTo (by decide) (by decide)]
        · rw [sw_n ho, sw_n ho]; exact h.1 o o1 o2
      · rw [q'.2 j j1 j2, q.2 j j1 j2, sw_n (by decide), sw_n (by decide)]; exact h.2.1 j j1 j2
      · rw [q.1 m_keptOf (by decide), sw_n (by decide)] at e
        rw [q'.1 m_keptRow (by decide), q.1 m_keptRow (by decide), sw_n (by decide), sw_n (by decide)]
        exact h.2.2 v' hv' k' hk' e y hy
    exact h1.raise q2 q2'
  · exact absurd (e0.symm.trans a') a
  · exact absurd (e0.trans a) a'
  · have eU : oU S' u v i = oU S u v i := by unfold oU; rw [e1, e3]
    refine ⟨fun o o1 o2 => ?_, fun j j1 j2 => ?_, fun v' hv' k' hk' e y hy => ?_⟩
    · by_cases c1 : o = m_shownTo
      · subst c1; rw [t1, t1', h.1 m_shownTo (by decide) (by decide)]
      by_cases c2 : o = m_signedOf
      · subst c2; rw [t2, t2', h.1 m_signedOf (by decide) (by decide), eU]
      by_cases c3 : o = m_knownOf
      · subst c3; rw [t3, t3', h.1 m_knownOf (by decide) (by decide), eU]
      by_cases c4 : o = m_row
      · subst c4; rw [t4, t4', h.1 m_row (by decide) (by decide), eU]
      by_cases c5 : o = m_sentBy
      · subst c5; rw [t5, t5', h.1 m_sentBy (by decide) (by decide)]
      by_cases c6 : o = m_doneOf
      · subst c6; rw [t6, t6', h.1 m_doneOf (by decide) (by decide)]
      by_cases c7 : o = m_keptOf
      · subst c7; rw [t8, t8', h.1 m_keptOf (by decide) (by decide)]
      rw [t11 o o1 c1 c2 c3 c4 c5 c6 c7 o2, t11' o o1 c1 c2 c3 c4 c5 c6 c7 o2]; exact h.1 o o1 o2
    · by_cases c1 : j = 2
      · subst c1; rw [t7, t7', h.2.1 2 (by decide) (by decide)]
      · rw [t10 j c1 j1 j2, t10' j c1 j1 j2]; exact h.2.1 j j1 j2
    · by_cases c1 : v' = v
      · subst c1
        rw [t8, upd_s] at e
        obtain rfl := nI_inj (by omega) (by omega) e
        rcases Nat.lt_or_ge y (30 * min k 4) with z | z
        · rw [t9.2.1 y z, t9'.2.1 y z, Nat.add_assoc]
          exact h.2.2 v' hv' k hk5 hk _ (by omega)
        · have h1 := t9.1 (y - 30 * min k 4) (by omega)
          have h2 := t9'.1 (y - 30 * min k 4) (by omega)
          rw [show 150 * v' + 30 * min k 4 + (y - 30 * min k 4) = 150 * v' + y by omega] at h1 h2
          rw [h1, h2, h.1 m_row (by decide) (by decide)]
      · rw [t8, upd_n c1] at e
        have hlt : y < 150 := by omega
        rw [t9.2.2 _ (by rcases Nat.lt_or_ge v' v with z | z <;> omega), t9'.2.2 _ (by rcases Nat.lt_or_ge v' v with z | z <;> omega)]
        exact h.2.2 v' hv' k' hk' e y hy
theorem EqM.w1 {S S' : XM} {w o i : Nat} {x : Int32} (h : EqM S S' w) (h1 : o ≠ oMod) (h2 : o ≠ m_keptRow) (h3 : o ≠ m_keptOf) : EqM (sw S o i x) (sw S' o i x) w := by
  refine h.of (fun q q1 q2 => ?_) ⟨sw_n h1.symm, sw_n h1.symm⟩ ⟨sw_n h2.symm, sw_n h2.symm⟩ (sw_n h3.symm)
  by_cases e : q = o
  · subst e; rw [sw_o, sw_o, h.1 q h1 h2]
  · rw [sw_n e, sw_n e]; exact h.1 q q1 q2
theorem MW.eq {S S' : XM} {u w : Nat} (h : MW S u w) (e : EqM S S' w) : MW S' u w := h.keep (fun k hk => e.2.1 k (by omega) (by omega)) (fun _ _ => Or.inl (by rw [e.1 _ (by decide) (by decide)])) (fun _ _ => Or.inl (by rw [e.1 _ (by decide) (by decide)])) (fun _ _ => Or.inl (by rw [e.1 _ (by decide) (by decide)])) (fun _ _ => Or.inl (by rw [e.1 _ (by decide) (by decide)]))
theorem dt_write {S S' T T' : XM} {u w : Nat} {x y r r' : Int32} (hw : MW S u w) (h : EqM S S' w) (a : s_write S u x y r T) (a' : s_write S' u x y r' T') : r = r' ∧ EqM T T' w := by
  have hu := hw.1.2
  have hn := hw.2.1.2
  by_cases h1 : isU u x
  · obtain ⟨i, hi, rfl⟩ := h1
    have a := a.2 i hi rfl
    have a' := a'.2 i hi rfl
    by_cases h2 : inR y
    · have a := a.2 h2
      have a' := a'.2 h2
      have eA : S' m_alarmOf = S m_alarmOf := h.1 _ (by decide) (by decide)
      rw [eA] at a'
      by_cases h3 : 0 < S m_alarmOf i
      · obtain ⟨rfl, rfl⟩ := a.1 h3
        obtain ⟨rfl, rfl⟩ := a'.1 h3
        exact ⟨rfl, h⟩
      · obtain ⟨v, hv, hV⟩ := hw.2.2.1 i (by omega)
        obtain ⟨k, hk5, hk⟩ := hw.2.2.2.1 v hv
        obtain ⟨T1, q, q0, q1, q2⟩ := a.2 h3 v k (by omega) hk5 hV hk
        obtain ⟨T1', q', q0', q1', q2'⟩ := a'.2 h3 v k (by omega) hk5 (by rw [h.1 _ (by decide) (by decide)]; exact hV) (by rw [h.1 _ (by decide) (by decide)]; exact hk)
        have ho := h.oper hv hk5 hk q q'
        rw [(h.l1 u v i).1] at q0' q1' q2'
        refine ⟨q0.trans q0'.symm, ?_⟩
        by_cases h4 : al S u v i = 0
        · rw [q1 h4, q1' h4]; exact ho.w1 (by decide) (by decide) (by decide)
        · rw [q2 h4, q2' h4]; exact ho
    · obtain ⟨rfl, rfl⟩ := a.1 h2
      obtain ⟨rfl, rfl⟩ := a'.1 h2
      exact ⟨rfl, h⟩
  · obtain ⟨rfl, rfl⟩ := a.1 h1
    obtain ⟨rfl, rfl⟩ := a'.1 h1
    exact ⟨rfl, h⟩
theorem dt_read {S S' T T' : XM} {u w : Nat} {x y r r' : Int32} (hw : MW S u w) (h : EqM S S' w) (a : s_read S u x y r T) (a' : s_read S' u x y r' T') : r = r' ∧ EqM T T' w := by
  have hu := hw.1.2
  have hn := hw.2.1.2
  by_cases h1 : isU u x ∧ isU u y
  · obtain ⟨⟨i, hi, rfl⟩, ⟨j, hj, rfl⟩⟩ := h1
    have a := a.2 i j hi hj rfl rfl
    have a' := a'.2 i j hi hj rfl rfl
    have eA : S' m_alarmOf = S m_alarmOf := h.1 _ (by decide) (by decide)
    rw [eA] at a'
    by_cases h3 : 0 < S m_alarmOf i
    · obtain ⟨rfl, rfl⟩ := a.1 h3
      obtain ⟨rfl, rfl⟩ := a'.1 h3
      exact ⟨rfl, h⟩
    · obtain ⟨v, hv, hV⟩ := hw.2.2.1 i (by omega)
      obtain ⟨k, hk5, hk⟩ := hw.2.2.2.1 v hv
      obtain ⟨T1, q, q0, q1, q2⟩ := a.2 h3 v k (by omega) hk5 hV hk
      obtain ⟨T1', q', q0', q1', q2'⟩ := a'.2 h3 v k (by omega) hk5 (by rw [h.1 _ (by decide) (by decide)]; exact hV) (by rw [h.1 _ (by decide) (by decide)]; exact hk)
      have ho := h.oper hv hk5 hk q q'
      rw [(h.l1 u v i).1] at q0' q1' q2'
      refine ⟨q0.trans q0'.symm, ?_⟩
      by_cases h4 : al S u v i = 0
      · rw [q1 h4, q1' h4, ho.1 m_row (by decide) (by decide)]
        exact (ho.w1 (by decide) (by decide) (by decide)).w1 (by decide) (by decide) (by decide)
      · rw [q2 h4, q2' h4]; exact ho
  · obtain ⟨rfl, rfl⟩ := a.1 h1
    obtain ⟨rfl, rfl⟩ := a'.1 h1
    exact ⟨rfl, h⟩
theorem dt_attach {S S' T T' : XM} {u w : Nat} {x y r r' : Int32} (h : EqM S S' w) (a : s_attach S u w x y r T) (a' : s_attach S' u w x y r' T') : r = r' ∧ EqM T T' w := by
  by_cases h1 : isU u x ∧ isU w y
  · obtain ⟨⟨i, hi, rfl⟩, ⟨v, hv, rfl⟩⟩ := h1
    obtain ⟨rfl, rfl⟩ := a.2 i v hi hv rfl rfl
    obtain ⟨rfl, rfl⟩ := a'.2 i v hi hv rfl rfl
    exact ⟨by rw [h.1 _ (by decide) (by decide)], h.w1 (by decide) (by decide) (by decide)⟩
  · obtain ⟨rfl, rfl⟩ := a.1 h1
    obtain ⟨rfl, rfl⟩ := a'.1 h1
    exact ⟨rfl, h⟩
theorem dt_send {S S' T T' : XM} {u w : Nat} {x y r r' : Int32} (hw : MW S u w) (h : EqM S S' w) (a : s_send S u x y r T) (a' : s_send S' u x y r' T') : r = r' ∧ EqM T T' w := by
  have hu := hw.1.2
  by_cases h1 : isU u x ∧ isU u y
  · obtain ⟨⟨i, hi, rfl⟩, ⟨j, hj, rfl⟩⟩ := h1
    have a := a.2 i j hi hj rfl rfl
    have a' := a'.2 i j hi hj rfl rfl
    by_cases h3 : i = j
    · obtain ⟨rfl, rfl⟩ := a.1 h3
      obtain ⟨rfl, rfl⟩ := a'.1 h3
      exact ⟨rfl, h⟩
    · obtain ⟨z, hz4, hz⟩ := hw.2.2.2.2.1 j (by omega)
      have a := a.2 h3 z hz4 hz
      have a' := a'.2 h3 z hz4 (by rw [h.1 _ (by decide) (by decide)]; exact hz)
      by_cases h4 : z = 4
      · obtain ⟨rfl, rfl⟩ := a.1 h4
        obtain ⟨rfl, rfl⟩ := a'.1 h4
        exact ⟨rfl, h⟩
      · obtain ⟨q0, q1, q2, q3, q4⟩ := a.2 h4
        obtain ⟨q0', q1', q2', q3', q4'⟩ := a'.2 h4
        refine ⟨q0.trans q0'.symm, h.of (fun o o1 o2 => ?_) ⟨q4 _ (by decide) (by decide) (by decide), q4' _ (by decide) (by decide) (by decide)⟩ ⟨q4 _ (by decide) (by decide) (by decide), q4' _ (by decide) (by decide) (by decide)⟩ (q4 _ (by decide) (by decide) (by decide))⟩
        by_cases c1 : o = m_letter
        · subst c1; rw [q1, q1', h.1 m_letter (by decide) (by decide), (h.l1 u 0 i).2.2.1]
        by_cases c2 : o = m_lettersOf
        · subst c2; rw [q2, q2', h.1 m_lettersOf (by decide) (by decide)]
        by_cases c3 : o = m_sentBy
        · subst c3; rw [q3, q3', h.1 m_sentBy (by decide) (by decide)]
        rw [q4 o c1 c2 c3, q4' o c1 c2 c3]; exact h.1 o o1 o2
  · obtain ⟨rfl, rfl⟩ := a.1 h1
    obtain ⟨rfl, rfl⟩ := a'.1 h1
    exact ⟨rfl, h⟩
theorem EqM.take {S S' T T' : XM} {w i z : Nat} (h : EqM S S' w) (q : mTake S i z T) (q' : mTake S' i z T') : EqM T T' w := by
  obtain ⟨q0, q1, q2, q3⟩ := q
  obtain ⟨q0', q1', q2', q3'⟩ := q'
  refine h.of (fun o o1 o2 => ?_) ⟨q3 _ (by decide) (by decide) (by decide), q3' _ (by decide) (by decide) (by decide)⟩ ⟨q3 _ (by decide) (by decide) (by decide), q3' _ (by decide) (by decide) (by decide)⟩ (q3 _ (by decide) (by decide) (by decide))
  by_cases c1 : o = m_hand
  · subst c1; rw [q0, q0', h.1 m_hand (by decide) (by decide), h.1 m_letter (by decide) (by decide)]
  by_cases c2 : o = m_lettersOf
  · subst c2; rw [q1, q1', h.1 m_lettersOf (by decide) (by decide)]
  by_cases c3 : o = m_letter
  · subst c3; rw [q2, q2', h.1 m_letter (by decide) (by decide)]
  rw [q3 o c1 c2 c3, q3' o c1 c2 c3]; exact h.1 o o1 o2
theorem dt_readL {S S' T T' : XM} {u w : Nat} {x r r' : Int32} (hw : MW S u w) (h : EqM S S' w) (a : s_readL S u x r T) (a' : s_readL S' u x r' T') : r = r' ∧ EqM T T' w := by
  have hu := hw.1.2
  by_cases h1 : isU u x
  · obtain ⟨i, hi, rfl⟩ := h1
    obtain ⟨z, hz4, hz⟩ := hw.2.2.2.2.1 i (by omega)
    have a := a.2 i hi rfl z hz4 hz
    have a' := a'.2 i hi rfl z hz4 (by rw [h.1 _ (by decide) (by decide)]; exact hz)
    by_cases h3 : z = 0
    · obtain ⟨rfl, rfl⟩ := a.1 h3
      obtain ⟨rfl, rfl⟩ := a'.1 h3
      exact ⟨rfl, h⟩
    · obtain ⟨T1, q, c1, c2⟩ := a.2 h3
      obtain ⟨T1', q', c1', c2'⟩ := a'.2 h3
      have ht := h.take q q'
      have eA : S' m_alarmOf = S m_alarmOf := h.1 _ (by decide) (by decide)
      rw [h.1 m_letter (by decide) (by decide), (h.l1 u 0 i).2.2.1] at c1' c2'
      rw [h.1 m_knownOf (by decide) (by decide), eA] at c2'
      by_cases h4 : vle u (sl (S m_letter) (20 * i)) (rK S i)
      · obtain ⟨rfl, rfl⟩ := c1 h4
        obtain ⟨rfl, rfl⟩ := c1' h4
        exact ⟨rfl, ht⟩
      · have c2 := c2 h4
        have c2' := c2' h4
        by_cases h5 : vle u (rK S i) (sl (S m_letter) (20 * i))
        · obtain ⟨q0, q1, q2⟩ := c2.1 h5
          obtain ⟨q0', q1', q2'⟩ := c2'.1 h5
          refine ⟨q0.trans q0'.symm, ht.of (fun o o1 o2 => ?_) ⟨q2 _ (by decide), q2' _ (by decide)⟩ ⟨q2 _ (by decide), q2' _ (by decide)⟩ (q2 _ (by decide))⟩
          by_cases e : o = m_knownOf
          · subst e; rw [q1, q1']
          · rw [q2 o e, q2' o e]; exact ht.1 o o1 o2
        · obtain ⟨q0, T2, a1, a2, q3⟩ := c2.2 h5
          obtain ⟨q0', T2', a1', a2', q3'⟩ := c2'.2 h5
          have h2 : EqM T2 T2' w := by
            by_cases ha : 0 < S m_alarmOf i
            · rw [a1 ha, a1' ha]; exact ht.w1 (by decide) (by decide) (by decide)
            · rw [a2 ha, a2' ha]; exact ht.w1 (by decide) (by decide) (by decide)
          rw [ht.1 m_hand (by decide) (by decide)] at q3'
          exact ⟨q0.trans q0'.symm, h2.of (fun o o1 o2 => mKeep_par q3 q3' (h2.1 _ (by decide) (by decide)) (h2.1 _ (by decide) (by decide)) (h2.1 _ (by decide) (by decide)) (h2.1 o o1 o2)) ⟨q3.out (by decide) (by decide) (by decide), q3'.out (by decide) (by decide) (by decide)⟩ ⟨q3.out (by decide) (by decide) (by decide), q3'.out (by decide) (by decide) (by decide)⟩ (q3.out (by decide) (by decide) (by decide))⟩
  · obtain ⟨rfl, rfl⟩ := a.1 h1
    obtain ⟨rfl, rfl⟩ := a'.1 h1
    exact ⟨rfl, h⟩
theorem dt_reads {u w : Nat} {x : Int32} : ∀ (n : Nat) {S S' T T' : XM} {ok ok' : Bool}, MW S u w → EqM S S' w → s_reads u x n S ok T → s_reads u x n S' ok' T' → ok = ok' ∧ EqM T T' w
  | 0, S, S', T, T', ok, ok', hw, h, a, a' => by
    obtain ⟨rfl, rfl⟩ := a
    obtain ⟨rfl, rfl⟩ := a'
    exact ⟨rfl, h⟩
  | n + 1, S, S', T, T', ok, ok', hw, h, a, a' => by
    obtain ⟨r, T1, q, q2⟩ := a
    obtain ⟨r', T1', q', q2'⟩ := a'
    obtain ⟨rfl, h1⟩ := dt_readL hw h q q'
    rcases q2 with ⟨z, rfl, rfl⟩ | ⟨z, q2⟩ <;> rcases q2' with ⟨z', rfl, rfl⟩ | ⟨z', q2'⟩
    · exact ⟨rfl, h1⟩
    · exact absurd z z'
    · exact absurd z' z
    · exact dt_reads n (MT_readL hw q).1 h1 q2 q2'
theorem dt_cmd {S S' T T' : XM} {u w z : Nat} {ch x : Int32} {ok ok' : Bool} (hw : MW S u w) (h : EqM S S' w) (hL : isL ch) (hz : z ≤ 9) (a : s_cmd S u w ch x (nI z) ok T) (a' : s_cmd S' u w ch x (nI z) ok' T') : ok = ok' ∧ EqM T T' w := by
  have hb : ∀ {r r' : Int32}, (ok = true ↔ ¬ r < 0) → (ok' = true ↔ ¬ r' < 0) → r = r' → ok = ok' := fun {r r'} b b' e => by
    subst e
    have := b.trans b'.symm
    cases ok <;> cases ok' <;> simp at this ⊢
  obtain ⟨q1, q2, q3, q4, q5⟩ := a
  obtain ⟨q1', q2', q3', q4', q5'⟩ := a'
  rcases hL with e | e | e | e | e
  · obtain ⟨r, q, b⟩ := q1 e
    obtain ⟨r', q', b'⟩ := q1' e
    obtain ⟨d, d2⟩ := dt_write hw h q q'
    exact ⟨hb b b' d, d2⟩
  · obtain ⟨r, q, b⟩ := q2 e
    obtain ⟨r', q', b'⟩ := q2' e
    obtain ⟨d, d2⟩ := dt_read hw h q q'
    exact ⟨hb b b' d, d2⟩
  · obtain ⟨r, q, b⟩ := q3 e
    obtain ⟨r', q', b'⟩ := q3' e
    obtain ⟨d, d2⟩ := dt_send hw h q q'
    exact ⟨hb b b' d, d2⟩
  · obtain ⟨a, c⟩ := q5 e z hz rfl
    obtain ⟨a', c'⟩ := q5' e z hz rfl
    by_cases hx : isU u x
    · exact dt_reads z hw h (c hx) (c' hx)
    · obtain ⟨rfl, rfl⟩ := a hx
      obtain ⟨rfl, rfl⟩ := a' hx
      exact ⟨rfl, h⟩
  · obtain ⟨r, q, b⟩ := q4 e
    obtain ⟨r', q', b'⟩ := q4' e
    obtain ⟨d, d2⟩ := dt_attach h q q'
    exact ⟨hb b b' d, d2⟩
theorem dt_cmds {u w : Nat} {f : Nat → Int32} {t : Nat} (hok : ∀ i, i < t → okc f i) : ∀ (k n : Nat) {S S' T T' : XM} {r r' : Nat}, 3 * (n + k) ≤ t → MW S u w → EqM S S' w → s_cmds u w f k n S r T → s_cmds u w f k n S' r' T' → r = r' ∧ EqM T T' w
  | 0, n, S, S', T, T', r, r', _, hw, h, a, a' => by
    obtain ⟨rfl, rfl⟩ := a
    obtain ⟨rfl, rfl⟩ := a'
    exact ⟨rfl, h⟩
  | k + 1, n, S, S', T, T', r, r', hn, hw, h, a, a' => by
    obtain ⟨ok, T1, q, q2⟩ := a
    obtain ⟨ok', T1', q', q2'⟩ := a'
    have hL : isL (f (3 * n)) := (hok (3 * n) (by omega)).1 (by omega)
    obtain ⟨z, hz9, ez⟩ := isD_n ((hok (3 * n + 2) (by omega)).2 (by omega))
    rw [ez] at q q'
    obtain ⟨rfl, h1⟩ := dt_cmd hw h hL hz9 q q'
    rcases q2 with ⟨z1, rfl, rfl⟩ | ⟨z1, q2⟩ <;> rcases q2' with ⟨z2, rfl, rfl⟩ | ⟨z2, q2'⟩
    · exact ⟨rfl, h1⟩
    · rw [z1] at z2; exact absurd z2 (by decide)
    · rw [z1] at z2; exact absurd z2 (by decide)
    · exact dt_cmds hok k (n + 1) (by omega) (MT_cmd hw hL hz9 q).1 h1 q2 q2'
theorem dt_run {S T T' : XM} {u w : Nat} {r r' : Int32} (hw : MW S u w) (a : s_run S u w r T) (a' : s_run S u w r' T') : r = r' ∧ EqM T T' w := by
  obtain ⟨t, ht6, ht⟩ := hw.2.2.2.2.2.1
  have a := a t ht6 ht
  have a' := a' t ht6 ht
  by_cases e : fb (okc (S m_text)) t = t ∧ t % 3 = 0
  · obtain ⟨n, rfl, q⟩ := a.2 e
    obtain ⟨n', rfl, q'⟩ := a'.2 e
    obtain ⟨rfl, h⟩ := dt_cmds (fb_ok e.1) (t / 3) 0 (by omega) hw EqM.rf q q'
    exact ⟨rfl, h⟩
  · obtain ⟨rfl, rfl⟩ := a.1 e
    obtain ⟨rfl, rfl⟩ := a'.1 e
    exact ⟨rfl, EqM.rf⟩
theorem RR.eqM {σ S S' : XM} {u w : Nat} (h : RR σ S u w) (e : EqM S S' w) : RR σ S' u w := by
  have g : ∀ o, 589 ≤ o → o < 603 → S' o = S o := fun o o1 o2 => e.1 o (by simp only [oMod]; omega) (by simp only [m_keptRow]; omega)
  refine ⟨h.1, h.2.1, fun i hi => (h.2.2.1 i hi).of (fun _ _ _ => rfl) (MS.arr g i), fun v hv => ?_, h.2.2.2.2.of rfl rfl (e.2.1 23 (by decide) (by decide)) (e.1 _ (by decide) (by decide))⟩
  obtain ⟨a1, a2, x, hx, a3, a4⟩ := h.2.2.2.1 v hv
  refine ⟨by rw [e.1 m_row (by decide) (by decide)]; exact a1, by rw [e.1 m_keptOf (by decide) (by decide)]; exact a2, x, hx, a3, fun k hk e2 q hq => ?_⟩
  rw [e.1 m_keptOf (by decide) (by decide)] at e2
  exact (a4 k hk e2 q hq).of (fun _ _ _ => rfl) (fun p hp => by rw [Nat.add_assoc, e.2.2 v hv k hk e2 _ (by omega)])
