theorem mRaise.alm {S T : XM} {u v i x : Nat} (h : mRaise S u v i x T) : x ≤ 3 ∧ T m_alarmOf = upd (S m_alarmOf) i (nI x) := by
  rcases h with ⟨rfl, rfl⟩ | ⟨rfl, a, c, -, q⟩ | ⟨rfl, T1, q, q2⟩
  · exact ⟨by decide, sw_o⟩
  · exact ⟨by decide, by rw [q.out (by decide) (by decide) (by decide), sw_o]⟩
  · refine ⟨by decide, ?_⟩
    have e : T1 m_alarmOf = upd (S m_alarmOf) i (nI 3) := (q.1 _ (by decide)).trans sw_o
    rcases q2 with ⟨-, q3⟩ | ⟨-, rfl⟩
    · rw [q3.out (by decide) (by decide) (by decide)]; exact e
    · exact e
theorem mOper.alm {S T : XM} {u v i k : Nat} (h : mOper S u v i k T) : T m_alarmOf = S m_alarmOf ∨ ∃ x, x ≤ 3 ∧ T m_alarmOf = upd (S m_alarmOf) i (nI x) := by
  rcases h with ⟨-, T1, q, q2⟩ | ⟨-, -, -, -, -, -, -, -, -, -, -, -, q⟩
  · have := q2.alm
    exact Or.inr ⟨_, this.1, by rw [this.2, q.1 m_alarmOf (by decide), sw_n (by decide)]⟩
  · exact Or.inl (q _ (by decide) (by decide) (by decide) (by decide) (by decide) (by decide) (by decide) (by decide) (by decide))
theorem mOper.kept {S T : XM} {u v i k : Nat} (h : mOper S u v i k T) : T m_keptOf = S m_keptOf ∨ T m_keptOf = upd (S m_keptOf) v (nI (min (k + 1) 5)) := by
  rcases h with ⟨-, T1, q, q2⟩ | ⟨-, -, -, -, -, -, -, -, -, q, -⟩
  · exact Or.inl (by rw [q2.out (by decide) (by decide) (by decide) (by decide) (by decide), q.1 m_keptOf (by decide), sw_n (by decide)])
  · exact Or.inr q
/-- what MW says is kept where its cells are -/
theorem MW.keep {S T : XM} {u w : Nat} (h : MW S u w) (h0 : ∀ k, k = 0 ∨ k = 1 ∨ k = 23 → T oMod k = S oMod k) (h1 : ∀ i, i < 5 → T m_viewOf i = S m_viewOf i ∨ ∃ v, v < w ∧ T m_viewOf i = nI v) (h2 : ∀ v, v < w → T m_keptOf v = S m_keptOf v ∨ ∃ k, k ≤ 5 ∧ T m_keptOf v = nI k) (h3 : ∀ i, i < 5 → T m_lettersOf i = S m_lettersOf i ∨ ∃ z, z ≤ 4 ∧ T m_lettersOf i = nI z) (h4 : ∀ i, i < 5 → T m_alarmOf i = S m_alarmOf i ∨ ∃ a, a ≤ 5 ∧ T m_alarmOf i = nI a) : MW T u w := by
  obtain ⟨hU, hN, hVw, hKp, hLt, hTx, hAl⟩ := h
  refine ⟨⟨by rw [h0 0 (Or.inl rfl)]; exact hU.1, hU.2⟩, ⟨by rw [h0 1 (Or.inr (Or.inl rfl))]; exact hN.1, hN.2⟩, fun i hi => ?_, fun v hv => ?_, fun i hi => ?_, by rw [h0 23 (Or.inr (Or.inr rfl))]; exact hTx, fun i hi => ?_⟩
  · rcases h1 i hi with q | q
    · rw [q]; exact hVw i hi
    · exact q
  · rcases h2 v hv with q | q
    · rw [q]; exact hKp v hv
    · exact q
  · rcases h3 i hi with q | q
    · rw [q]; exact hLt i hi
    · exact q
  · rcases h4 i hi with q | q
    · rw [q]; exact hAl i hi
    · exact q
theorem upd_or {f : Nat → Int32} {i a N : Nat} (ha : a ≤ N) (j : Nat) : upd f i (nI a) j = f j ∨ ∃ z, z ≤ N ∧ upd f i (nI a) j = nI z := by
  by_cases q : j = i
  · subst q; exact Or.inr ⟨a, ha, upd_s⟩
  · exact Or.inl (upd_n q)
def MT (S T : XM) (u w : Nat) : Prop := MW T u w ∧ T m_text = S m_text ∧ T oMod 23 = S oMod 23
theorem MT.rf {S : XM} {u w : Nat} (h : MW S u w) : MT S S u w := ⟨h, rfl, rfl⟩
theorem MT_oper {S T1 T : XM} {u w v i k : Nat} (h : MW S u w) (ho : mOper S u v i k T1) (hk : ∀ k, k = 0 ∨ k = 1 ∨ k = 23 → T oMod k = T1 oMod k) (ht : ∀ o, o = m_viewOf ∨ o = m_keptOf ∨ o = m_lettersOf ∨ o = m_alarmOf ∨ o = m_text → T o = T1 o) : MT S T u w := by
  refine ⟨h.keep (fun k q => ?_) (fun i hi => Or.inl ?_) (fun v hv => ?_) (fun i hi => Or.inl ?_) (fun i hi => ?_), ?_, ?_⟩
  · rw [hk k q]
    exact ho.m (by omega) (by omega) (by omega)
  · rw [ht _ (Or.inl rfl), ho.out (Or.inl rfl)]
  · rw [ht _ (Or.inr (Or.inl rfl))]
    rcases ho.kept with q | q <;> rw [q]
    · exact Or.inl rfl
    · exact upd_or (by omega) v
  · rw [ht _ (Or.inr (Or.inr (Or.inl rfl))), ho.out (Or.inr (Or.inr (Or.inr (Or.inl rfl))))]
  · rw [ht _ (Or.inr (Or.inr (Or.inr (Or.inl rfl))))]
    rcases ho.alm with q | ⟨x, hx, q⟩ <;> rw [q]
    · exact Or.inl rfl
    · exact upd_or (by omega) i
  · rw [ht _ (Or.inr (Or.inr (Or.inr (Or.inr rfl)))), ho.out (Or.inr (Or.inr (Or.inr (Or.inr (Or.inr rfl)))))]
  · rw [hk 23 (Or.inr (Or.inr rfl))]
    exact ho.m (by decide) (by decide) (by decide)
theorem MT_write {S T : XM} {u w : Nat} {x y r : Int32} (h : MW S u w) (hs : s_write S u x y r T) : MT S T u w := by
  by_cases h1 : isU u x
  · obtain ⟨i, hi, rfl⟩ := h1
    have hs := hs.2 i hi rfl
    by_cases h2 : inR y
    · have hs := hs.2 h2
      by_cases h3 : 0 < S m_alarmOf i
      · rw [(hs.1 h3).2]; exact MT.rf h
      · obtain ⟨v, hv, hV⟩ := h.2.2.1 i (by have := h.1.2; omega)
        obtain ⟨k, hk5, hk⟩ := h.2.2.2.1 v hv
        obtain ⟨T1, q, -, q1, q2⟩ := hs.2 h3 v k (by have := h.2.1.2; omega) hk5 hV hk
        by_cases h4 : al S u v i = 0
        · rw [q1 h4]
          exact MT_oper h q (fun k _ => by rw [sw_n (by decide)]) (fun o ho => sw_n (by rcases ho with rfl | rfl | rfl | rfl | rfl <;> decide))
        · rw [q2 h4]
          exact MT_oper h q (fun _ _ => rfl) (fun _ _ => rfl)
    · rw [(hs.1 h2).2]; exact MT.rf h
  · rw [(hs.1 h1).2]; exact MT.rf h
theorem MT_read {S T : XM} {u w : Nat} {x y r : Int32} (h : MW S u w) (hs : s_read S u x y r T) : MT S T u w := by
  by_cases h1 : isU u x ∧ isU u y
  · obtain ⟨⟨i, hi, rfl⟩, ⟨j, hj, rfl⟩⟩ := h1
    have hs := hs.2 i j hi hj rfl rfl
    by_cases h3 : 0 < S m_alarmOf i
    · rw [(hs.1 h3).2]; exact MT.rf h
    · obtain ⟨v, hv, hV⟩ := h.2.2.1 i (by have := h.1.2; omega)
      obtain ⟨k, hk5, hk⟩ := h.2.2.2.1 v hv
      obtain ⟨T1, q, -, q1, q2⟩ := hs.2 h3 v k (by have := h.2.1.2; omega) hk5 hV hk
      by_cases h4 : al S u v i = 0
      · rw [q1 h4]
        exact MT_oper h q (fun k _ => by rw [sw_n (by decide), sw_n (by decide)]) (fun o ho => by rw [sw_n (by rcases ho with rfl | rfl | rfl | rfl | rfl <;> decide), sw_n (by rcases ho with rfl | rfl | rfl | rfl | rfl <;> decide)])
      · rw [q2 h4]
        exact MT_oper h q (fun _ _ => rfl) (fun _ _ => rfl)
  · rw [(hs.1 h1).2]; exact MT.rf h
theorem MT_send {S T : XM} {u w : Nat} {x y r : Int32} (h : MW S u w) (hs : s_send S u x y r T) : MT S T u w := by
  by_cases h1 : isU u x ∧ isU u y
  · obtain ⟨⟨i, hi, rfl⟩, ⟨j, hj, rfl⟩⟩ := h1
    have hs := hs.2 i j hi hj rfl rfl
    by_cases h3 : i = j
    · rw [(hs.1 h3).2]; exact MT.rf h
    · obtain ⟨z, hz4, hz⟩ := h.2.2.2.2.1 j (by have := h.1.2; omega)
      have hs := hs.2 h3 z hz4 hz
      by_cases h4 : z = 4
      · rw [(hs.1 h4).2]; exact MT.rf h
      · obtain ⟨-, -, q1, -, q2⟩ := hs.2 h4
        refine ⟨h.keep (fun k _ => by rw [q2 oMod (by decide) (by decide) (by decide)]) (fun i _ => Or.inl (by rw [q2 m_viewOf (by decide) (by decide) (by decide)])) (fun v _ => Or.inl (by rw [q2 m_keptOf (by decide) (by decide) (by decide)])) (fun i _ => by rw [q1]; exact upd_or (by omega) i) (fun i _ => Or.inl (by rw [q2 m_alarmOf (by decide) (by decide) (by decide)])), q2 m_text (by decide) (by decide) (by decide), by rw [q2 oMod (by decide) (by decide) (by decide)]⟩
  · rw [(hs.1 h1).2]; exact MT.rf h
theorem MT_attach {S T : XM} {u w : Nat} {x y r : Int32} (h : MW S u w) (hs : s_attach S u w x y r T) : MT S T u w := by
  by_cases h1 : isU u x ∧ isU w y
  · obtain ⟨⟨i, hi, rfl⟩, ⟨v, hv, rfl⟩⟩ := h1
    obtain ⟨-, rfl⟩ := hs.2 i v hi hv rfl rfl
    refine ⟨h.keep (fun k _ => by rw [sw_n (by decide)]) (fun j _ => ?_) (fun v _ => Or.inl (by rw [sw_n (by decide)])) (fun i _ => Or.inl (by rw [sw_n (by decide)])) (fun i _ => Or.inl (by rw [sw_n (by decide)])), sw_n (by decide), by rw [sw_n (by decide)]⟩
    rw [sw_o]
    by_cases q : j = i
    · subst q; exact Or.inr ⟨v, hv, upd_s⟩
    · exact Or.inl (upd_n q)
  · rw [(hs.1 h1).2]; exact MT.rf h
theorem MT_take {S T : XM} {u w i z : Nat} (h : MW S u w) (hz : z ≤ 4) (q : mTake S i z T) : MT S T u w := by
  obtain ⟨-, q1, -, q2⟩ := q
  exact ⟨h.keep (fun k _ => by rw [q2 oMod (by decide) (by decide) (by decide)]) (fun i _ => Or.inl (by rw [q2 m_viewOf (by decide) (by decide) (by decide)])) (fun v _ => Or.inl (by rw [q2 m_keptOf (by decide) (by decide) (by decide)])) (fun i _ => by rw [q1]; exact upd_or (by omega) i) (fun i _ => Or.inl (by rw [q2 m_alarmOf (by decide) (by decide) (by decide)])), q2 m_text (by decide) (by decide) (by decide), by rw [q2 oMod (by decide) (by decide) (by decide)]⟩
theorem MT.same {S T1 T : XM} {u w : Nat} (h : MT S T1 u w) (q : ∀ o, o ≠ m_knownOf → o ≠ m_alarmOf → o ≠ m_hasProof → o ≠ m_depthOf → o ≠ m_proofOf → T o = T1 o) (qa : ∀ i, i < 5 → T m_alarmOf i = T1 m_alarmOf i ∨ ∃ a, a ≤ 5 ∧ T m_alarmOf i = nI a) : MT S T u w := by
  refine ⟨h.1.keep (fun k _ => ?_) (fun i _ => Or.inl ?_) (fun v _ => Or.inl ?_) (fun i _ => Or.inl ?_) qa, ?_, ?_⟩
  · rw [q oMod (by decide) (by decide) (by decide) (by decide) (by decide)]
  · rw [q m_viewOf (by decide) (by decide) (by decide) (by decide) (by decide)]
  · rw [q m_keptOf (by decide) (by decide) (by decide) (by decide) (by decide)]
  · rw [q m_lettersOf (by decide) (by decide) (by decide) (by decide) (by decide)]
  · rw [q m_text (by decide) (by decide) (by decide) (by decide) (by decide)]; exact h.2.1
  · rw [q oMod (by decide) (by decide) (by decide) (by decide) (by decide)]; exact h.2.2
theorem MT_readL {S T : XM} {u w : Nat} {x r : Int32} (h : MW S u w) (hs : s_readL S u x r T) : MT S T u w := by
  by_cases h1 : isU u x
  · obtain ⟨i, hi, rfl⟩ := h1
    obtain ⟨z, hz4, hz⟩ := h.2.2.2.2.1 i (by have := h.1.2; omega)
    obtain ⟨hs0, hs⟩ := hs.2 i hi rfl z hz4 hz
    by_cases h3 : z = 0
    · rw [(hs0 h3).2]; exact MT.rf h
    · obtain ⟨T1, q, q1, q2⟩ := hs h3
      have hm := MT_take h hz4 q
      by_cases h4 : vle u (sl (S m_letter) (20 * i)) (rK S i)
      · rw [(q1 h4).2]; exact hm
      · have q2 := q2 h4
        by_cases h5 : vle u (rK S i) (sl (S m_letter) (20 * i))
        · obtain ⟨-, -, q3⟩ := q2.1 h5
          exact hm.same (fun o o1 _ _ _ _ => q3 o o1) (fun i _ => Or.inl (by rw [q3 _ (by decide)]))
        · obtain ⟨-, T2, a1, a2, q3⟩ := q2.2 h5
          have e : ∀ o, o ≠ m_alarmOf → T2 o = T1 o := fun o o1 => by
            by_cases h6 : 0 < S m_alarmOf i
            · rw [a1 h6]; exact sw_n o1
            · rw [a2 h6]; exact sw_n o1
          refine hm.same (fun o _ o2 o3 o4 o5 => (q3.out o3 o4 o5).trans (e o o2)) (fun j hj => ?_)
          rw [q3.out (by decide) (by decide) (by decide)]
          have eA : T1 m_alarmOf = S m_alarmOf := q.2.2.2 _ (by decide) (by decide) (by decide)
          by_cases h6 : 0 < S m_alarmOf i
          · rw [a1 h6, sw_o, ← upd_self (by rw [eA])]; exact Or.inl rfl
          · rw [a2 h6, sw_o]; exact upd_or (by decide) j
  · rw [(hs.1 h1).2]; exact MT.rf h
theorem MT.tr {S T U : XM} {u w : Nat} (h : MT S T u w) (h2 : MT T U u w) : MT S U u w := ⟨h2.1, h2.2.1.trans h.2.1, h2.2.2.trans h.2.2⟩
theorem MT_reads {u w : Nat} {x : Int32} : ∀ (n : Nat) {S T : XM} {ok : Bool}, MW S u w → s_reads u x n S ok T → MT S T u w
  | 0, S, T, ok, h, hs => by rw [hs.2]; exact MT.rf h
  | n + 1, S, T, ok, h, hs => by
    obtain ⟨r, T1, q, ⟨-, -, q1⟩ | ⟨-, q1⟩⟩ := hs
    · rw [q1]; exact MT_readL h q
    · exact (MT_readL h q).tr (MT_reads n (MT_readL h q).1 q1)
theorem MT_cmd {S T : XM} {u w z : Nat} {ch x : Int32} {ok : Bool} (h : MW S u w) (hL : isL ch) (hz : z ≤ 9) (hs : s_cmd S u w ch x (nI z) ok T) : MT S T u w := by
  obtain ⟨q1, q2, q3, q4, q5⟩ := hs
  rcases hL with e | e | e | e | e
  · obtain ⟨r, q, -⟩ := q1 e; exact MT_write h q
  · obtain ⟨r, q, -⟩ := q2 e; exact MT_read h q
  · obtain ⟨r, q, -⟩ := q3 e; exact MT_send h q
  · obtain ⟨a, c⟩ := q5 e z hz rfl
    by_cases hx : isU u x
    · exact MT_reads z h (c hx)
    · rw [(a hx).2]; exact MT.rf h
  · obtain ⟨r, q, -⟩ := q4 e; exact MT_attach h q
theorem fb_le {ok : Nat → Prop} : ∀ n, fb ok n ≤ n
  | 0 => Nat.le_refl _
  | n + 1 => by
    rw [fb_s]
    by_cases h : fb ok n < n
    · rw [if_pos h]; omega
    · rw [if_neg h]
      by_cases h2 : ok n
      · rw [if_pos h2]; exact Nat.le_refl _
      · rw [if_neg h2]; omega
theorem fb_ok {ok : Nat → Prop} : ∀ {n : Nat}, fb ok n = n → ∀ i, i < n → ok i
  | 0, _, i, hi => absurd hi (Nat.not_lt_zero _)
  | n + 1, h, i, hi => by
    rw [fb_s] at h
    have hl := fb_le (ok := ok) n
    by_cases h1 : fb ok n < n
    · rw [if_pos h1] at h; omega
    · rw [if_neg h1] at h
      by_cases h2 : ok n
      · rcases Nat.lt_or_ge i n with q | q
        · exact fb_ok (by omega) i q
        · rw [show i = n by omega]; exact h2
      · rw [if_neg h2] at h; omega
theorem tf_t {a : Int32} {f : Nat → Int32} {z : Nat} (h : fb (okc f) z = z ∧ z % 3 = 0) : tfault a f z = a := if_pos h
theorem tf_f {a : Int32} {f : Nat → Int32} {z : Nat} (h : ¬ (fb (okc f) z = z ∧ z % 3 = 0)) : tfault a f z = nI (fb (okc f) z) := if_neg h
theorem isD_n {x : Int32} (h : isD x) : ∃ z, z ≤ 9 ∧ x - nI 48 = nI z := by
  obtain ⟨j, hj, rfl⟩ := nI_of (x := x) (fun q => absurd (Int32.lt_of_le_of_lt h.1 q) (by decide))
  have h1 := (nI_leI (by decide) hj).mp h.1
  have h2 := (nI_leI hj (by decide)).mp h.2
  exact ⟨j - 48, by omega, pk_sub (by omega)⟩
