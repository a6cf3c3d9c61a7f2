/-! ===== p29: one call that changes the store, case by case ===== -/
theorem al_no {S : XM} {i : Nat} (ha : S m_alarmOf i = nI 0) : ¬ 0 < S m_alarmOf i := fun q => absurd ((alm_pos ha (by decide)).mp q) (by decide)
/-- an operation that raised alarm x -/
def OpAl (S T : XM) (u v i k x : Nat) : Prop := T m_shownTo i = S m_shownTo i + nI (u * u) ∧ T m_alarmOf i = nI x ∧ T m_sentBy i = S m_sentBy i ∧ T m_doneOf i = S m_doneOf i ∧ T oMod 2 = S oMod 2 ∧ T m_keptOf v = nI k ∧ T m_viewOf i = nI v ∧ lastV T i = lastV S i ∧ (x = 2 → T m_hasProof i ≠ 0) ∧ (x = 1 → T m_hasProof i = 0)
/-- an operation that was carried out -/
def OpOk (S T : XM) (u v i k : Nat) : Prop := T m_shownTo i = S m_shownTo i + nI (u * u) ∧ T m_alarmOf i = nI 0 ∧ T m_sentBy i = S m_sentBy i + nI u ∧ T m_doneOf i = S m_doneOf i + nI 1 ∧ T oMod 2 = S oMod 2 + nI 1 ∧ T m_keptOf v = nI (min (k + 1) 5) ∧ T m_viewOf i = nI v ∧ (∀ p, p < 5 → rG T i p = oU S u v i p ∧ rK T i p = oU S u v i p ∧ rV T v i p = oU S u v i p)
theorem OpAl.mk {S T : XM} {u v i k x : Nat} (h : mOper S u v i k T) (hV : S m_viewOf i = nI v) (hk : S m_keptOf v = nI k) (hp : S m_hasProof i = 0) (ha : al S u v i = x) (hx : x ≠ 0) : OpAl S T u v i k x := by
  obtain ⟨a1, a2, a3, a4, a5, a6, a7, a8, a9, a10, a11⟩ := op_al h ha hx
  exact ⟨a1, a2, by rw [a3], by rw [a4], a5, by rw [a6]; exact hk, by rw [a9]; exact hV, lastV_congr (by rw [a7]) (by rw [a8]), a10, fun e => by rw [a11 e]; exact hp⟩
theorem w_no {S T : XM} {u i a : Nat} {y r : Int32} (hs : s_write S u (nI i) y r T) (hi : i < u) (hy : inR y) (ha : S m_alarmOf i = nI a) (h0 : 0 < a) (h5 : a ≤ 5) : r = (-10003) ∧ T = S := ((hs.2 i hi rfl).2 hy).1 ((alm_pos ha (by omega)).mpr h0)
theorem w_al {S T : XM} {u v i k x : Nat} {y r : Int32} (hs : s_write S u (nI i) y r T) (hi : i < u) (hy : inR y) (ha : S m_alarmOf i = nI 0) (hv : v < 6) (hV : S m_viewOf i = nI v) (hk5 : k ≤ 5) (hk : S m_keptOf v = nI k) (hp : S m_hasProof i = 0) (hx : al S u v i = x) (h0 : x ≠ 0) : r = nI x ∧ OpAl S T u v i k x := by
  obtain ⟨T1, q, e, -, q2⟩ := ((hs.2 i hi rfl).2 hy).2 (al_no ha) v k hv hk5 hV hk
  have e2 := q2 (by rw [hx]; exact h0)
  subst e2
  exact ⟨by rw [e, hx], OpAl.mk q hV hk hp hx h0⟩
theorem w_ok {S T : XM} {u v i k : Nat} {y r : Int32} (hs : s_write S u (nI i) y r T) (hi : i < u) (hu : u ≤ 5) (hy : inR y) (ha : S m_alarmOf i = nI 0) (hv : v < 6) (hV : S m_viewOf i = nI v) (hk5 : k ≤ 5) (hk : S m_keptOf v = nI k) (hx : al S u v i = 0) : r = nI 0 ∧ OpOk S T u v i k ∧ cV T v i = y ∧ lastV T i = lastV S i := by
  obtain ⟨T1, q, e, q1, -⟩ := ((hs.2 i hi rfl).2 hy).2 (al_no ha) v k hv hk5 hV hk
  have e2 := q1 hx
  obtain ⟨a1, a2, a3, a4, a5, a6, a7, a8, a9, a10, a11, a12⟩ := op_ok q hx
  subst e2
  refine ⟨by rw [e, hx], ⟨by rw [sw_n (by decide)]; exact a1, by rw [sw_n (by decide), a2]; exact ha, by rw [sw_n (by decide)]; exact a3, by rw [sw_n (by decide)]; exact a4, by rw [sw_n (by decide)]; exact a5, by rw [sw_n (by decide)]; exact a6, by rw [sw_n (by decide), a9]; exact hV, fun p hp => ?_⟩, by unfold cV; rw [sw_s], lastV_congr (by rw [sw_n (by decide), a7]) (by rw [sw_n (by decide), a8])⟩
  refine ⟨?_, ?_, ?_⟩
  · show sw T1 m_row (30 * v + 25 + i) y m_signedOf (5 * i + p) = _
    rw [sw_n (by decide)]; exact (a11 p hp).1
  · show sw T1 m_row (30 * v + 25 + i) y m_knownOf (5 * i + p) = _
    rw [sw_n (by decide)]; exact (a11 p hp).2.1
  · show sw T1 m_row (30 * v + 25 + i) y m_row (30 * v + 5 * i + p) = _
    rw [sw_k (by omega)]; exact (a11 p hp).2.2
theorem r_no {S T : XM} {u i j a : Nat} {r : Int32} (hs : s_read S u (nI i) (nI j) r T) (hi : i < u) (hj : j < u) (ha : S m_alarmOf i = nI a) (h0 : 0 < a) (h5 : a ≤ 5) : r = (-10003) ∧ T = S := (hs.2 i j hi hj rfl rfl).1 ((alm_pos ha (by omega)).mpr h0)
theorem r_al {S T : XM} {u v i j k x : Nat} {r : Int32} (hs : s_read S u (nI i) (nI j) r T) (hi : i < u) (hj : j < u) (ha : S m_alarmOf i = nI 0) (hv : v < 6) (hV : S m_viewOf i = nI v) (hk5 : k ≤ 5) (hk : S m_keptOf v = nI k) (hp : S m_hasProof i = 0) (hx : al S u v i = x) (h0 : x ≠ 0) : r = nI x ∧ OpAl S T u v i k x := by
  obtain ⟨T1, q, e, -, q2⟩ := (hs.2 i j hi hj rfl rfl).2 (al_no ha) v k hv hk5 hV hk
  have e2 := q2 (by rw [hx]; exact h0)
  subst e2
  exact ⟨by rw [e, hx], OpAl.mk q hV hk hp hx h0⟩
theorem r_ok {S T : XM} {u v i j k : Nat} {r : Int32} (hs : s_read S u (nI i) (nI j) r T) (hi : i < u) (hj : j < u) (hu : u ≤ 5) (ha : S m_alarmOf i = nI 0) (hv : v < 6) (hV : S m_viewOf i = nI v) (hk5 : k ≤ 5) (hk : S m_keptOf v = nI k) (hx : al S u v i = 0) : r = nI 0 ∧ OpOk S T u v i k ∧ cV T v j = cV S v j ∧ lastV T i = cV S v j := by
  obtain ⟨T1, q, e, q1, -⟩ := (hs.2 i j hi hj rfl rfl).2 (al_no ha) v k hv hk5 hV hk
  have e2 := q1 hx
  obtain ⟨a1, a2, a3, a4, a5, a6, a7, a8, a9, a10, a11, a12⟩ := op_ok q hx
  have eo : ∀ o, o ≠ m_hasRead → o ≠ m_readOf → T o = T1 o := fun o h1 h2 => by rw [e2, sw_n h2, sw_n h1]
  refine ⟨by rw [e, hx], ⟨by rw [eo _ (by decide) (by decide)]; exact a1, by rw [eo _ (by decide) (by decide), a2]; exact ha, by rw [eo _ (by decide) (by decide)]; exact a3, by rw [eo _ (by decide) (by decide)]; exact a4, by rw [eo _ (by decide) (by decide)]; exact a5, by rw [eo _ (by decide) (by decide)]; exact a6, by rw [eo _ (by decide) (by decide), a9]; exact hV, fun p hp => ?_⟩, ?_, ?_⟩
  · unfold rG rK rV
    rw [eo _ (by decide) (by decide), eo m_knownOf (by decide) (by decide), eo m_row (by decide) (by decide)]
    exact a11 p hp
  · unfold cV
    rw [eo _ (by decide) (by decide)]; exact a12 j (by omega) (by omega)
  · unfold lastV
    rw [e2, sw_n (by decide), sw_s, if_neg (by decide), sw_s]
    exact a12 j (by omega) (by omega)
/-! letters -/
theorem d_eq {S T : XM} {u i j : Nat} {r : Int32} (hs : s_send S u (nI i) (nI j) r T) (hi : i < u) (hj : j < u) (h : i = j) : r = (-10002) ∧ T = S := (hs.2 i j hi hj rfl rfl).1 h
theorem d_full {S T : XM} {u i j : Nat} {r : Int32} (hs : s_send S u (nI i) (nI j) r T) (hi : i < u) (hj : j < u) (h : i ≠ j) (hz : S m_lettersOf j = nI 4) : r = (-10004) ∧ T = S := ((hs.2 i j hi hj rfl rfl).2 h 4 (by decide) hz).1 rfl
theorem d_ok {S T : XM} {u i j z : Nat} {r : Int32} (hs : s_send S u (nI i) (nI j) r T) (hi : i < u) (hj : j < u) (h : i ≠ j) (hz : S m_lettersOf j = nI z) (h4 : z < 4) : r = nI (z + 1) ∧ T m_sentBy i = S m_sentBy i + nI u ∧ T m_lettersOf j = nI (z + 1) ∧ (∀ k, rK T k = rK S k) ∧ (∀ k, T m_alarmOf k = S m_alarmOf k) ∧ (∀ k, T m_hasProof k = S m_hasProof k) ∧ ∀ p, p < 5 → T m_letter (20 * j + 5 * z + p) = rK S i p := by
  obtain ⟨q0, q1, q2, q3, q4⟩ := ((hs.2 i j hi hj rfl rfl).2 h z (by omega) hz).2 (by omega)
  refine ⟨q0, by rw [q3, upd_s], by rw [q2, upd_s], fun k => ?_, fun k => ?_, fun k => ?_, fun p hp => by rw [q1, cpy_in hp]⟩
  · unfold rK; rw [q4 _ (by decide) (by decide) (by decide)]
  · rw [q4 _ (by decide) (by decide) (by decide)]
  · rw [q4 _ (by decide) (by decide) (by decide)]
theorem o_none {S T : XM} {u i : Nat} {r : Int32} (hs : s_lose S u (nI i) r T) (hi : i < u) (hz : S m_lettersOf i = nI 0) : r = (-10005) ∧ T = S := (hs.2 i hi rfl 0 (by decide) hz).1 rfl
theorem o_ok {S T : XM} {u i z : Nat} {r : Int32} (hs : s_lose S u (nI i) r T) (hi : i < u) (hz : S m_lettersOf i = nI z) (h0 : z ≠ 0) (h4 : z ≤ 4) : r = nI (z - 1) := ((hs.2 i hi rfl z h4 hz).2 h0).1
theorem l_none {S T : XM} {u i : Nat} {r : Int32} (hs : s_readL S u (nI i) r T) (hi : i < u) (hz : S m_lettersOf i = nI 0) : r = (-10005) ∧ T = S := (hs.2 i hi rfl 0 (by decide) hz).1 rfl
/-- one letter F is in the box -/
def LtOk (S T : XM) (u i x : Nat) (F : Nat → Int32) : Prop := T m_lettersOf i = nI 0 ∧ (∀ p, p < 5 → rK T i p = if x = 1 then F p else rK S i p) ∧ (∀ a, S m_alarmOf i = nI a → a ≤ 5 → T m_alarmOf i = nI (if x = 2 ∧ a = 0 then 4 else a)) ∧ (x ≠ 2 → T m_hasProof i = S m_hasProof i) ∧ (x = 2 → T m_hasProof i ≠ 0) ∧ (x = 2 → S m_hasProof i = 0 → ∀ p, p < 5 → pF T i p = rK S i p ∧ pS T i p = F p)
theorem l_ok {S T : XM} {u i : Nat} {r : Int32} {F : Nat → Int32} (hs : s_readL S u (nI i) r T) (hi : i < u) (hu : u ≤ 5) (hz : S m_lettersOf i = nI 1) (hF : ∀ p, p < 5 → S m_letter (20 * i + p) = F p) : ∃ x, x ≤ 2 ∧ r = nI x ∧ (x = 0 ↔ vle u F (rK S i)) ∧ (x = 2 ↔ ¬ vle u F (rK S i) ∧ ¬ vle u (rK S i) F) ∧ LtOk S T u i x F := by
  obtain ⟨T1, q, q1, q2⟩ := (hs.2 i hi rfl 1 (by decide) hz).2 (by decide)
  have eF : ∀ p, p < u → sl (S m_letter) (20 * i) p = F p := fun p hp => hF p (by omega)
  rw [vle_congr eF (fun _ _ => rfl)] at q1 q2
  rw [vle_congr (f := rK S i) (fun _ _ => rfl) eF] at q2
  have e1 : ∀ o, o ≠ m_hand → o ≠ m_lettersOf → o ≠ m_letter → T1 o = S o := q.2.2.2
  have eL : T1 m_lettersOf i = nI 0 := by rw [q.2.1, upd_s]
  by_cases h1 : vle u F (rK S i)
  · obtain ⟨rfl, rfl⟩ := q1 h1
    refine ⟨0, by decide, rfl, ⟨fun _ => h1, fun _ => rfl⟩, ⟨fun z => absurd z (by decide), fun z => absurd h1 z.1⟩, eL, fun p hp => ?_, fun a ha h5 => ?_, fun _ => ?_, fun z => absurd z (by decide), fun z => absurd z (by decide)⟩
    · rw [if_neg (by decide)]; unfold rK; rw [e1 _ (by decide) (by decide) (by decide)]
    · rw [if_neg (by omega), e1 _ (by decide) (by decide) (by decide)]; exact ha
    · rw [e1 _ (by decide) (by decide) (by decide)]
  · by_cases h2 : vle u (rK S i) F
    · obtain ⟨rfl, q3, q4⟩ := (q2 h1).1 h2
      refine ⟨1, by decide, rfl, ⟨fun z => absurd z (by decide), fun z => absurd z h1⟩, ⟨fun z => absurd z (by decide), fun z => absurd h2 z.2⟩, by rw [q4 _ (by decide)]; exact eL, fun p hp => ?_, fun a ha h5 => ?_, fun _ => ?_, fun z => absurd z (by decide), fun z => absurd z (by decide)⟩
      · rw [if_pos rfl]
        show T m_knownOf (5 * i + p) = _
        rw [q3, cpy_in hp]; exact hF p hp
      · rw [if_neg (by omega), q4 _ (by decide), e1 _ (by decide) (by decide) (by decide)]; exact ha
      · rw [q4 _ (by decide), e1 _ (by decide) (by decide) (by decide)]
    · obtain ⟨rfl, T2, a1, a2, q3⟩ := (q2 h1).2 h2
      have e2 : ∀ o, o ≠ m_alarmOf → T2 o = T1 o := fun o o1 => by
        by_cases h6 : 0 < S m_alarmOf i
        · rw [a1 h6]; exact sw_n o1
        · rw [a2 h6]; exact sw_n o1
      refine ⟨2, by decide, rfl, ⟨fun z => absurd z (by decide), fun z => absurd z h1⟩, ⟨fun _ => ⟨h1, h2⟩, fun _ => rfl⟩, by rw [q3.out (by decide) (by decide) (by decide), e2 _ (by decide)]; exact eL, fun p hp => ?_, fun a ha h5 => ?_, fun z => absurd rfl z, fun _ => ?_, fun _ h0 p hp => ?_⟩
      · rw [if_neg (by decide)]
        unfold rK
        rw [q3.out (by decide) (by decide) (by decide), e2 _ (by decide), e1 _ (by decide) (by decide) (by decide)]
      · rw [q3.out (by decide) (by decide) (by decide)]
        by_cases h6 : 0 < S m_alarmOf i
        · have := (alm_pos ha (by omega)).mp h6
          rw [a1 h6, sw_s, if_neg (by omega)]; exact ha
        · have : ¬ 0 < a := fun z => h6 ((alm_pos ha (by omega)).mpr z)
          rw [a2 h6, sw_s, if_pos ⟨rfl, by omega⟩]
      · by_cases h0 : T2 m_hasProof i = 0
        · exact (mKeep_new q3 h0).1
        · rcases q3 with ⟨z, rfl⟩ | ⟨z, -⟩
          · exact z
          · exact absurd z h0
      · have h00 : T2 m_hasProof i = 0 := by rw [e2 _ (by decide), e1 _ (by decide) (by decide) (by decide)]; exact h0
        have hh := (mKeep_new q3 h00).2.2 p hp
        refine ⟨hh.1, hh.2.trans ((q.hd p hp).trans (hF p hp))⟩
/-! proofs -/
theorem p_no {S T : XM} {u i j : Nat} {r : Int32} (hs : s_pass S u (nI i) (nI j) r T) (hi : i < u) (hj : j < u) (h : i ≠ j) (hp : S m_hasProof i = 0) : r = (-10003) ∧ T = S := ((hs.2 i j hi hj rfl rfl).2 h).1 hp
theorem p_ok {S T : XM} {u i j a d : Nat} {r : Int32} (hs : s_pass S u (nI i) (nI j) r T) (hi : i < u) (hj : j < u) (h : i ≠ j) (hp : S m_hasProof i ≠ 0) (ha : S m_alarmOf j = nI a) (h5 : a ≤ 5) (hd : S m_depthOf i = nI d) : r = nI (if a = 0 then 1 else 0) ∧ T m_sentBy i = S m_sentBy i + nI (2 * u) ∧ T m_alarmOf j = nI (if a = 0 then 5 else a) ∧ T m_hasProof j ≠ 0 ∧ (S m_hasProof j = 0 → T m_depthOf j = nI (d + 1)) := by
  obtain ⟨T1, q, c1, c2⟩ := ((hs.2 i j hi hj rfl rfl).2 h).2 hp
  have hs1 : T1 m_sentBy i = S m_sentBy i + nI (2 * u) := by rw [q.out (by decide) (by decide) (by decide), sw_s]
  have ha1 : T1 m_alarmOf j = nI a := by rw [q.out (by decide) (by decide) (by decide), sw_n (by decide)]; exact ha
  have hp1 : T1 m_hasProof j ≠ 0 := by
    by_cases h0 : S m_hasProof j = 0
    · exact (mKeep_new q (by rw [sw_n (by decide)]; exact h0)).1
    · rcases q with ⟨z, rfl⟩ | ⟨z, -⟩
      · exact z
      · rw [sw_n (by decide)] at z; exact absurd z h0
  have hd1 : S m_hasProof j = 0 → T1 m_depthOf j = nI (d + 1) := fun h0 => by
    rw [(mKeep_new q (by rw [sw_n (by decide)]; exact h0)).2.1, hd, nI_add]
  by_cases h6 : 0 < S m_alarmOf j
  · have := (alm_pos ha (by omega)).mp h6
    obtain ⟨rfl, rfl⟩ := c1 h6
    exact ⟨by rw [if_neg (by omega)], hs1, by rw [if_neg (by omega)]; exact ha1, hp1, hd1⟩
  · have : ¬ 0 < a := fun z => h6 ((alm_pos ha (by omega)).mpr z)
    obtain ⟨rfl, rfl⟩ := c2 h6
    exact ⟨by rw [if_pos (by omega)], by rw [sw_n (by decide)]; exact hs1, by rw [sw_s, if_pos (by omega)], by rw [sw_n (by decide)]; exact hp1, fun h0 => by rw [sw_n (by decide)]; exact hd1 h0⟩
