/-! ===== p29: there is an answer to the other calls, too ===== -/
theorem ex_lose {S : XM} {u w : Nat} {x : Int32} (h : MW S u w) : ∃ r T, s_lose S u x r T := by
  have hu := h.1.2
  by_cases h1 : isU u x
  · obtain ⟨i, hi, rfl⟩ := h1
    obtain ⟨z, hz4, hz⟩ := h.2.2.2.2.1 i (by omega)
    by_cases h3 : z = 0
    · exact ⟨_, _, fun q => absurd ⟨i, hi, rfl⟩ q, fun j hj e z' hz' e3 => by
        obtain rfl := nI_inj (by omega) (by omega) e
        obtain rfl := nI_inj (by omega) (by omega) (hz.symm.trans e3)
        exact ⟨fun _ => ⟨rfl, rfl⟩, fun q => absurd h3 q⟩⟩
    · obtain ⟨T1, hT1⟩ := ex_take S i z
      exact ⟨_, T1, fun q => absurd ⟨i, hi, rfl⟩ q, fun j hj e z' hz' e3 => by
        obtain rfl := nI_inj (by omega) (by omega) e
        obtain rfl := nI_inj (by omega) (by omega) (hz.symm.trans e3)
        exact ⟨fun q => absurd q h3, fun _ => ⟨rfl, hT1⟩⟩⟩
  · exact ⟨_, _, fun _ => ⟨rfl, rfl⟩, fun i hi e => absurd ⟨i, hi, e⟩ h1⟩
theorem ex_pass {S : XM} {u w : Nat} {x y : Int32} (h : MW S u w) : ∃ r T, s_pass S u x y r T := by
  have hu := h.1.2
  by_cases h1 : isU u x ∧ isU u y
  · obtain ⟨⟨i, hi, rfl⟩, ⟨j, hj, rfl⟩⟩ := h1
    have key : ∀ r T, ((i = j → r = (-10002) ∧ T = S) ∧ (i ≠ j → (S m_hasProof i = 0 → r = (-10003) ∧ T = S) ∧ (S m_hasProof i ≠ 0 → ∃ T1, mKeep (sw S m_sentBy i (S m_sentBy i + nI (2 * u))) j (S m_depthOf i + nI 1) (sl (S m_proofOf) (10 * i)) (sl (S m_proofOf) (10 * i + 5)) T1 ∧ (0 < S m_alarmOf j → r = nI 0 ∧ T = T1) ∧ (¬ 0 < S m_alarmOf j → r = nI 1 ∧ T = sw T1 m_alarmOf j (nI 5))))) → s_pass S u (nI i) (nI j) r T := fun r T hT => ⟨fun q => absurd ⟨⟨i, hi, rfl⟩, ⟨j, hj, rfl⟩⟩ q, fun i' j' hi' hj' e e' => by
      obtain rfl := nI_inj (by omega) (by omega) e
      obtain rfl := nI_inj (by omega) (by omega) e'
      exact hT⟩
    by_cases h2 : i = j
    · exact ⟨_, _, key _ _ ⟨fun _ => ⟨rfl, rfl⟩, fun q => absurd h2 q⟩⟩
    · by_cases h3 : S m_hasProof i = 0
      · exact ⟨_, _, key _ _ ⟨fun q => absurd q h2, fun _ => ⟨fun _ => ⟨rfl, rfl⟩, fun q => absurd h3 q⟩⟩⟩
      · obtain ⟨T1, hT1⟩ := mKeep_ex (sw S m_sentBy i (S m_sentBy i + nI (2 * u))) j (S m_depthOf i + nI 1) (sl (S m_proofOf) (10 * i)) (sl (S m_proofOf) (10 * i + 5))
        by_cases h4 : 0 < S m_alarmOf j
        · exact ⟨_, _, key _ _ ⟨fun q => absurd q h2, fun _ => ⟨fun q => absurd q h3, fun _ => ⟨T1, hT1, fun _ => ⟨rfl, rfl⟩, fun q => absurd h4 q⟩⟩⟩⟩
        · exact ⟨_, _, key _ _ ⟨fun q => absurd q h2, fun _ => ⟨fun q => absurd q h3, fun _ => ⟨T1, hT1, fun q => absurd q h4, fun _ => ⟨rfl, rfl⟩⟩⟩⟩⟩
  · exact ⟨_, _, fun _ => ⟨rfl, rfl⟩, fun i j hi hj e e' => absurd ⟨⟨i, hi, e⟩, ⟨j, hj, e'⟩⟩ h1⟩
theorem ex_roll {S : XM} {u w : Nat} {x y : Int32} (h : MW S u w) : ∃ r T, s_roll S w x y r T := by
  have hw := h.2.1.2
  by_cases h1 : isU w x
  · obtain ⟨v, hv, rfl⟩ := h1
    by_cases h2 : nI 1 ≤ y ∧ y ≤ nI 5
    · obtain ⟨z, z1, z5, rfl⟩ := rng15 h2
      obtain ⟨k, hk5, hk⟩ := h.2.2.2.1 v hv
      have key : ∀ r T, ((k < z → r = (-10005) ∧ T = S) ∧ (z ≤ k → r = nI (k - z) ∧ T m_keptOf = upd (S m_keptOf) v (nI (k - z)) ∧ T m_row = cpy 30 (S m_row) (30 * v) (sl (S m_keptRow) (150 * v + 30 * (k - z))) ∧ ∀ o, o ≠ m_keptOf → o ≠ m_row → T o = S o)) → s_roll S w (nI v) (nI z) r T := fun r T hT => ⟨fun q => absurd ⟨v, hv, rfl⟩ q, fun v' hv' e => by
        obtain rfl := nI_inj (by omega) (by omega) e
        exact ⟨fun q => absurd h2 q, fun z' k' _ _ e1 _ e2 => by
          obtain rfl := nI_inj (by omega) (by omega) e1
          obtain rfl := nI_inj (by omega) (by omega) (hk.symm.trans e2)
          exact hT⟩⟩
      rcases Nat.lt_or_ge k z with q | q
      · exact ⟨_, _, key _ _ ⟨fun _ => ⟨rfl, rfl⟩, fun q2 => by omega⟩⟩
      · exact ⟨_, su (su S m_keptOf (upd (S m_keptOf) v (nI (k - z)))) m_row (cpy 30 (S m_row) (30 * v) (sl (S m_keptRow) (150 * v + 30 * (k - z)))), key _ _ ⟨fun q2 => by omega, fun _ => ⟨rfl, by rw [su_n (by decide), su_s], su_s, fun o o1 o2 => by rw [su_n o2, su_n o1]⟩⟩⟩
    · exact ⟨_, _, fun q => absurd ⟨v, hv, rfl⟩ q, fun v' hv' e => ⟨fun _ => ⟨rfl, rfl⟩, fun z k z1 z5 e1 _ _ => absurd ⟨by rw [e1]; exact nI_le z1 (by omega), by rw [e1]; exact nI_le z5 (by decide)⟩ h2⟩⟩
  · exact ⟨_, _, fun _ => ⟨rfl, rfl⟩, fun v hv e => absurd ⟨v, hv, e⟩ h1⟩
/-- the rows of a view, those of another one where P holds -/
noncomputable def mixRow (P : Nat → Prop) (f : Nat → Int32) (v o : Nat) : Nat → Int32 := fun q =>
  if 30 * v ≤ q ∧ q < 30 * v + 30 then
    (@ite _ (P (if q < 30 * v + 25 then (q - 30 * v) / 5 else q - (30 * v + 25))) (Classical.propDecidable _) (f (30 * o + (q - 30 * v))) (f q))
  else f q
theorem mixRow_out {P : Nat → Prop} {f : Nat → Int32} {v o q : Nat} (h : q < 30 * v ∨ 30 * v + 30 ≤ q) : mixRow P f v o q = f q := if_neg (by omega)
theorem mixRow_t {P : Nat → Prop} {f : Nat → Int32} {v o i k : Nat} (hi : i < 5) (hk : k < 5) (h : P i) : mixRow P f v o (30 * v + 5 * i + k) = f (30 * o + 5 * i + k) := by
  unfold mixRow
  rw [if_pos (by omega), if_pos (show 30 * v + 5 * i + k < 30 * v + 25 by omega), show (30 * v + 5 * i + k - 30 * v) / 5 = i by omega, if_pos h]
  congr 1; omega
theorem mixRow_f {P : Nat → Prop} {f : Nat → Int32} {v o i k : Nat} (hi : i < 5) (hk : k < 5) (h : ¬ P i) : mixRow P f v o (30 * v + 5 * i + k) = f (30 * v + 5 * i + k) := by
  unfold mixRow
  rw [if_pos (by omega), if_pos (show 30 * v + 5 * i + k < 30 * v + 25 by omega), show (30 * v + 5 * i + k - 30 * v) / 5 = i by omega, if_neg h]
theorem mixRow_ct {P : Nat → Prop} {f : Nat → Int32} {v o i : Nat} (hi : i < 5) (h : P i) : mixRow P f v o (30 * v + 25 + i) = f (30 * o + 25 + i) := by
  unfold mixRow
  rw [if_pos (by omega), if_neg (show ¬ 30 * v + 25 + i < 30 * v + 25 by omega), show 30 * v + 25 + i - (30 * v + 25) = i by omega, if_pos h]
  congr 1; omega
theorem mixRow_cf {P : Nat → Prop} {f : Nat → Int32} {v o i : Nat} (hi : i < 5) (h : ¬ P i) : mixRow P f v o (30 * v + 25 + i) = f (30 * v + 25 + i) := by
  unfold mixRow
  rw [if_pos (by omega), if_neg (show ¬ 30 * v + 25 + i < 30 * v + 25 by omega), show 30 * v + 25 + i - (30 * v + 25) = i by omega, if_neg h]
theorem ex_mix {S : XM} {u w : Nat} {x y : Int32} (h : MW S u w) : ∃ r T, s_mix S u w x y r T := by
  have hu := h.1.2
  have hw := h.2.1.2
  by_cases h1 : isU w x ∧ isU w y
  · obtain ⟨⟨v, hv, rfl⟩, ⟨o, ho, rfl⟩⟩ := h1
    by_cases h2 : v = o
    · exact ⟨_, _, fun q => absurd ⟨⟨v, hv, rfl⟩, ⟨o, ho, rfl⟩⟩ q, fun v' o' hv' ho' e e' => by
        obtain rfl := nI_inj (by omega) (by omega) e
        obtain rfl := nI_inj (by omega) (by omega) e'
        exact ⟨fun _ => ⟨rfl, rfl⟩, fun q => absurd h2 q⟩⟩
    · refine ⟨nI (xcnt (mixC S v o) u), su (su (su S m_row (mixRow (fun i => i < u ∧ mixC S v o i) (S m_row) v o)) m_viewOf (fun i => if i < u ∧ S m_viewOf i = nI o then nI v else S m_viewOf i)) m_keptOf (upd (S m_keptOf) v (nI 0)), fun q => absurd ⟨⟨v, hv, rfl⟩, ⟨o, ho, rfl⟩⟩ q, fun v' o' hv' ho' e e' => ?_⟩
      obtain rfl := nI_inj (by omega) (by omega) e
      obtain rfl := nI_inj (by omega) (by omega) e'
      refine ⟨fun q => absurd q h2, fun _ => ⟨rfl, fun i hi => ⟨fun c => ⟨fun k hk => ?_, ?_⟩, fun c => ⟨fun k hk => ?_, ?_⟩⟩, fun i hi hi5 => ⟨fun k hk => ?_, ?_⟩, fun q hq => ?_, fun i hi => ⟨fun c => ?_, fun c => ?_⟩, fun i hi => ?_, su_s, fun q q1 q2 q3 => by rw [su_n q3, su_n q2, su_n q1]⟩⟩
      · rw [su_n (by decide), su_n (by decide), su_s]; exact mixRow_t (by omega) hk ⟨hi, c⟩
      · rw [su_n (by decide), su_n (by decide), su_s]; exact mixRow_ct (by omega) ⟨hi, c⟩
      · rw [su_n (by decide), su_n (by decide), su_s]; exact mixRow_f (by omega) hk (fun z => c z.2)
      · rw [su_n (by decide), su_n (by decide), su_s]; exact mixRow_cf (by omega) (fun z => c z.2)
      · rw [su_n (by decide), su_n (by decide), su_s]; exact mixRow_f hi5 hk (fun z => absurd z.1 (by omega))
      · rw [su_n (by decide), su_n (by decide), su_s]; exact mixRow_cf hi5 (fun z => absurd z.1 (by omega))
      · rw [su_n (by decide), su_n (by decide), su_s]; exact mixRow_out hq
      · rw [su_n (by decide), su_s]; exact if_pos ⟨hi, c⟩
      · rw [su_n (by decide), su_s]; exact if_neg (fun z => c z.2)
      · rw [su_n (by decide), su_s]; exact if_neg (fun z => absurd z.1 (by omega))
  · exact ⟨_, _, fun _ => ⟨rfl, rfl⟩, fun i j hi hj e e' => absurd ⟨⟨i, hi, e⟩, ⟨j, hj, e'⟩⟩ h1⟩
theorem ex_fork {S : XM} {u w : Nat} {x y : Int32} (h : MW S u w) : ∃ r T, s_fork S u w x y r T := by
  have hu := h.1.2
  have hw := h.2.1.2
  by_cases h1 : isU w x
  · obtain ⟨v, hv, rfl⟩ := h1
    by_cases h2 : badS S u v y
    · exact ⟨_, _, fun q => absurd ⟨v, hv, rfl⟩ q, fun v' hv' e => by
        obtain rfl := nI_inj (by omega) (by omega) e
        exact ⟨fun _ => ⟨rfl, rfl⟩, fun q => absurd h2 q⟩⟩
    · by_cases h3 : w = 6
      · exact ⟨_, _, fun q => absurd ⟨v, hv, rfl⟩ q, fun v' hv' e => by
          obtain rfl := nI_inj (by omega) (by omega) e
          exact ⟨fun q => absurd q h2, fun _ => ⟨fun _ => ⟨rfl, rfl⟩, fun q => absurd h3 q⟩⟩⟩
      · refine ⟨nI w, sw (su (su (su (su S m_row (cpy 30 (S m_row) (30 * w) (sl (S m_row) (30 * v)))) m_keptRow (cpy 150 (S m_keptRow) (150 * w) (sl (S m_keptRow) (150 * v)))) m_keptOf (upd (S m_keptOf) w (S m_keptOf v))) m_viewOf (fun i => @ite _ (i < u ∧ hasB y i) (Classical.propDecidable _) (nI w) (S m_viewOf i))) oMod 1 (nI (w + 1)), fun q => absurd ⟨v, hv, rfl⟩ q, fun v' hv' e => ?_⟩
        obtain rfl := nI_inj (by omega) (by omega) e
        refine ⟨fun q => absurd q h2, fun _ => ⟨fun q => absurd q h3, fun _ => ⟨rfl, ?_, ?_, ?_, fun i hi => ⟨fun c => ?_, fun c => ?_⟩, fun i hi => ?_, sw_s, fun j hj => ?_, fun o o1 o2 o3 o4 o5 => ?_⟩⟩⟩
        · rw [sw_n (by decide), su_n (by decide), su_n (by decide), su_n (by decide), su_s]
        · rw [sw_n (by decide), su_n (by decide), su_n (by decide), su_s]
        · rw [sw_n (by decide), su_n (by decide), su_s]
        · rw [sw_n (by decide), su_s]; exact if_pos ⟨hi, c⟩
        · rw [sw_n (by decide), su_s]; exact if_neg (fun z => c z.2)
        · rw [sw_n (by decide), su_s]; exact if_neg (fun z => absurd z.1 (by omega))
        · rw [sw_k hj, su_n (by decide), su_n (by decide), su_n (by decide), su_n (by decide)]
        · rw [sw_n o1, su_n o5, su_n o4, su_n o3, su_n o2]
  · exact ⟨_, _, fun _ => ⟨rfl, rfl⟩, fun v hv e => absurd ⟨v, hv, e⟩ h1⟩
theorem ex_type {S : XM} {u w : Nat} {x : Int32} (h : MW S u w) : ∃ r T, s_type S x r T := by
  obtain ⟨t, ht6, ht⟩ := h.2.2.2.2.2.1
  by_cases h1 : t = 60
  · exact ⟨_, _, fun t' ht' e => by
      obtain rfl := nI_inj (by omega) (by omega) (ht.symm.trans e)
      exact ⟨fun _ => ⟨rfl, rfl⟩, fun q => absurd h1 q⟩⟩
  · exact ⟨_, _, fun t' ht' e => by
      obtain rfl := nI_inj (by omega) (by omega) (ht.symm.trans e)
      exact ⟨fun q => absurd q h1, fun _ => ⟨rfl, rfl⟩⟩⟩
theorem ex_begin (S : XM) (z : Nat) : ∃ T, mBegin S z T := by
  refine ⟨fun o k => if o = oMod then (if k = 0 then nI z else if k = 1 then nI 1 else if k = 2 then nI 0 else S oMod k) else if o = m_text then S m_text k else nI 0, ?_⟩
  refine ⟨rfl, rfl, rfl, fun j j0 j1 j2 => ?_, fun q _ => rfl, fun q _ => rfl, fun q _ => ⟨rfl, rfl⟩, fun q _ => ⟨rfl, rfl, rfl, rfl, rfl, rfl, rfl, rfl, rfl, rfl⟩, rfl⟩
  show (if (oMod : Nat) = oMod then _ else _) = _
  rw [if_pos rfl, if_neg j0, if_neg j1, if_neg j2]
theorem ex_reset {S : XM} {u : Nat} {x : Int32} : ∃ r T, s_reset S u x r T := by
  by_cases h1 : nI 2 ≤ x ∧ x ≤ nI 5
  · obtain ⟨z, z2, z5, rfl⟩ := rng25 h1
    obtain ⟨T, hT⟩ := ex_begin S z
    exact ⟨_, T, fun q => absurd h1 q, fun z' _ _ e => by
      obtain rfl := nI_inj (by omega) (by omega) e
      exact ⟨rfl, hT⟩⟩
  · exact ⟨_, _, fun _ => ⟨rfl, rfl⟩, fun z z2 z5 e => absurd ⟨by rw [e]; exact nI_le z2 (by omega), by rw [e]; exact nI_le z5 (by decide)⟩ h1⟩
