/-! ===== there is an answer ===== -/
theorem nat_min {P : Nat → Prop} : ∀ (n : Nat), P n → ∃ k, P k ∧ ∀ j, P j → k ≤ j := by
  intro n
  induction n using Nat.strongRecOn with
  | ind n ih =>
    intro h
    by_cases q : ∃ j, j < n ∧ P j
    · obtain ⟨j, h1, h2⟩ := q
      exact ih j h1 h2
    · exact ⟨n, h, fun j hj => by
        rcases Nat.lt_or_ge j n with z | z
        · exact absurd ⟨j, z, hj⟩ q
        · exact z⟩
theorem fst_ex {n w : Nat} {V : Nat → Nat → Int32} (h : fkd n w V) : ∃ a c, fstP n w V a c := by
  obtain ⟨i, j, h1, h2, h3⟩ := h
  obtain ⟨a, ⟨c0, q1, q2, q3⟩, q4⟩ := nat_min (P := fun a => ∃ c, a < c ∧ c < n ∧ rel w (V a) (V c) = 2) i ⟨j, h1, h2, h3⟩
  obtain ⟨c, ⟨r1, r2, r3⟩, r4⟩ := nat_min (P := fun c => a < c ∧ c < n ∧ rel w (V a) (V c) = 2) c0 ⟨q1, q2, q3⟩
  refine ⟨a, c, r1, r2, r3, fun i' j' s1 s2 s3 => ?_⟩
  have t1 := q4 i' ⟨j', s1, s2, s3⟩
  rcases Nat.lt_or_ge a i' with z | z
  · exact Or.inl z
  · obtain rfl : a = i' := by omega
    exact Or.inr ⟨rfl, r4 j' ⟨s1, s2, s3⟩⟩
theorem mKeep_ex (S : XM) (i : Nat) (d : Int32) (f1 f2 : Nat → Int32) : ∃ T, mKeep S i d f1 f2 T := by
  by_cases h : S m_hasProof i = 0
  · exact ⟨_, Or.inr ⟨h, rfl⟩⟩
  · exact ⟨_, Or.inl ⟨h, rfl⟩⟩
theorem mRem_ex (S : XM) (v k : Nat) : ∃ g, mRem S v k g := by
  have h4 : min k 4 ≤ 4 := Nat.min_le_right _ _
  refine ⟨fun y => if 150 * v ≤ y ∧ y < 150 * v + 30 * min k 4 then S m_keptRow (150 * v + 30 * (k - min k 4) + (y - 150 * v)) else if 150 * v + 30 * min k 4 ≤ y ∧ y < 150 * v + 30 * min k 4 + 30 then S m_row (30 * v + (y - (150 * v + 30 * min k 4))) else S m_keptRow y, fun x hx => ?_, fun x hx => ?_, fun x hx => ?_⟩
  · show (if _ then _ else _) = _
    rw [if_neg (by omega), if_pos (by omega)]
    congr 1; omega
  · show (if _ then _ else _) = _
    rw [if_pos (by omega)]
    congr 1; omega
  · show (if _ then _ else _) = _
    rw [if_neg (by omega), if_neg (by omega)]
theorem mOper_ex (S : XM) (u v i k : Nat) : ∃ T, mOper S u v i k T := by
  rcases al_cases S u v i with ⟨e, q⟩ | ⟨q, ⟨e, q2⟩ | ⟨q2, ⟨e, q3⟩ | ⟨e, q3⟩⟩⟩
  · exact ⟨_, Or.inl ⟨by omega, _, Sp.rf, Or.inl ⟨e, rfl⟩⟩⟩
  · obtain ⟨-, e1, -, -⟩ := al_same (S := S) (T := sw S m_shownTo i (S m_shownTo i + nI (u * u))) (u := u) (v := v) (i := i) (sw_n (by decide)) (sw_n (by decide)) (sw_n (by decide))
    obtain ⟨a, c, h⟩ := fst_ex q2
    obtain ⟨T, hT⟩ := mKeep_ex (sw (sw S m_shownTo i (S m_shownTo i + nI (u * u))) m_alarmOf i (nI 2)) i (nI 0) (rV (sw S m_shownTo i (S m_shownTo i + nI (u * u))) v a) (rV (sw S m_shownTo i (S m_shownTo i + nI (u * u))) v c)
    exact ⟨T, Or.inl ⟨by omega, _, Sp.rf, Or.inr (Or.inl ⟨e, a, c, by rw [e1]; exact h, hT⟩)⟩⟩
  · obtain ⟨g, hg⟩ := mRem_ex S v k
    refine ⟨su (su (sw (su (su (su (su (su (su S m_shownTo (upd (S m_shownTo) i (S m_shownTo i + nI (u * u)))) m_signedOf (cpy 5 (S m_signedOf) (5 * i) (oU S u v i))) m_knownOf (cpy 5 (S m_knownOf) (5 * i) (oU S u v i))) m_row (cpy 5 (S m_row) (30 * v + 5 * i) (oU S u v i))) m_sentBy (upd (S m_sentBy) i (S m_sentBy i + nI u))) m_doneOf (upd (S m_doneOf) i (S m_doneOf i + nI 1))) oMod 2 (S oMod 2 + nI 1)) m_keptOf (upd (S m_keptOf) v (nI (min (k + 1) 5)))) m_keptRow g, Or.inr ⟨e, q2, ?_, ?_, ?_, ?_, ?_, ?_, ?_, ?_, ?_, fun j j1 _ _ => ?_, fun o o1 o2 o3 o4 o5 o6 o7 o8 o9 => ?_⟩⟩
    · rw [su_n (by decide), su_n (by decide), sw_n (by decide), su_n (by decide), su_n (by decide), su_n (by decide), su_n (by decide), su_n (by decide), su_s]
    · rw [su_n (by decide), su_n (by decide), sw_n (by decide), su_n (by decide), su_n (by decide), su_n (by decide), su_n (by decide), su_s]
    · rw [su_n (by decide), su_n (by decide), sw_n (by decide), su_n (by decide), su_n (by decide), su_n (by decide), su_s]
    · rw [su_n (by decide), su_n (by decide), sw_n (by decide), su_n (by decide), su_n (by decide), su_s]
    · rw [su_n (by decide), su_n (by decide), sw_n (by decide), su_n (by decide), su_s]
    · rw [su_n (by decide), su_n (by decide), sw_n (by decide), su_s]
    · rw [su_n (by decide), su_n (by decide), sw_s]
    · rw [su_n (by decide), su_s]
    · rw [su_s]; exact hg
    · rw [su_n (by decide), su_n (by decide), sw_k j1, su_n (by decide), su_n (by decide), su_n (by decide), su_n (by decide), su_n (by decide), su_n (by decide)]
    · rw [su_n o9, su_n o8, sw_n o1, su_n o7, su_n o6, su_n o5, su_n o4, su_n o3, su_n o2]
  · by_cases hr : rel u (rK (sw S m_shownTo i (S m_shownTo i + nI (u * u))) i) (rV (sw S m_shownTo i (S m_shownTo i + nI (u * u))) v (bst (sw S m_shownTo i (S m_shownTo i + nI (u * u))) u v)) = 2
    · obtain ⟨T, hT⟩ := mKeep_ex (sw (sw S m_shownTo i (S m_shownTo i + nI (u * u))) m_alarmOf i (nI 3)) i (nI 0) (rK (sw S m_shownTo i (S m_shownTo i + nI (u * u))) i) (rV (sw S m_shownTo i (S m_shownTo i + nI (u * u))) v (bst (sw S m_shownTo i (S m_shownTo i + nI (u * u))) u v))
      exact ⟨T, Or.inl ⟨by omega, _, Sp.rf, Or.inr (Or.inr ⟨e, _, Sp.rf, Or.inl ⟨hr, hT⟩⟩)⟩⟩
    · exact ⟨_, Or.inl ⟨by omega, _, Sp.rf, Or.inr (Or.inr ⟨e, _, Sp.rf, Or.inr ⟨hr, rfl⟩⟩)⟩⟩
theorem ex_write {S : XM} {u w : Nat} {x y : Int32} (h : MW S u w) : ∃ r T, s_write S u x y r T := by
  have hu := h.1.2
  by_cases h1 : isU u x
  · obtain ⟨i, hi, rfl⟩ := h1
    by_cases h2 : inR y
    · by_cases h3 : 0 < S m_alarmOf i
      · exact ⟨_, _, fun q => absurd ⟨i, hi, rfl⟩ q, fun j hj e => by
          obtain rfl := nI_inj (by omega) (by omega) e
          exact ⟨fun q => absurd h2 q, fun _ => ⟨fun _ => ⟨rfl, rfl⟩, fun q => absurd h3 q⟩⟩⟩
      · obtain ⟨v, hv, hV⟩ := h.2.2.1 i (by omega)
        obtain ⟨k, hk5, hk⟩ := h.2.2.2.1 v hv
        have hw := h.2.1.2
        obtain ⟨T1, hT1⟩ := mOper_ex S u v i k
        have key : ∀ T, ((al S u v i = 0 → T = sw T1 m_row (30 * v + 25 + i) y) ∧ (al S u v i ≠ 0 → T = T1)) → s_write S u (nI i) y (nI (al S u v i)) T := fun T hT => ⟨fun q => absurd ⟨i, hi, rfl⟩ q, fun j hj e => by
          obtain rfl := nI_inj (by omega) (by omega) e
          exact ⟨fun q => absurd h2 q, fun _ => ⟨fun q => absurd q h3, fun _ v' k' hv' hk' e1 e2 => by
            obtain rfl := nI_inj (by omega) (by omega) (hV.symm.trans e1)
            obtain rfl := nI_inj (by omega) (by omega) (hk.symm.trans e2)
            exact ⟨T1, hT1, rfl, hT⟩⟩⟩⟩
        by_cases h4 : al S u v i = 0
        · exact ⟨_, _, key _ ⟨fun _ => rfl, fun q => absurd h4 q⟩⟩
        · exact ⟨_, _, key _ ⟨fun q => absurd q h4, fun _ => rfl⟩⟩
    · exact ⟨_, _, fun q => absurd ⟨i, hi, rfl⟩ q, fun j hj e => ⟨fun _ => ⟨rfl, rfl⟩, fun q => absurd q h2⟩⟩
  · exact ⟨_, _, fun _ => ⟨rfl, rfl⟩, fun i hi e => absurd ⟨i, hi, e⟩ h1⟩
theorem ex_read {S : XM} {u w : Nat} {x y : Int32} (h : MW S u w) : ∃ r T, s_read S u x y r T := by
  have hu := h.1.2
  by_cases h1 : isU u x ∧ isU u y
  · obtain ⟨⟨i, hi, rfl⟩, ⟨j, hj, rfl⟩⟩ := h1
    by_cases h3 : 0 < S m_alarmOf i
    · exact ⟨_, _, fun q => absurd ⟨⟨i, hi, rfl⟩, ⟨j, hj, rfl⟩⟩ q, fun i' j' hi' hj' e e' => by
        obtain rfl := nI_inj (by omega) (by omega) e
        exact ⟨fun _ => ⟨rfl, rfl⟩, fun q => absurd h3 q⟩⟩
    · obtain ⟨v, hv, hV⟩ := h.2.2.1 i (by omega)
      obtain ⟨k, hk5, hk⟩ := h.2.2.2.1 v hv
      have hw := h.2.1.2
      obtain ⟨T1, hT1⟩ := mOper_ex S u v i k
      have key : ∀ T, ((al S u v i = 0 → T = sw (sw T1 m_hasRead i (nI 1)) m_readOf i (T1 m_row (30 * v + 25 + j))) ∧ (al S u v i ≠ 0 → T = T1)) → s_read S u (nI i) (nI j) (nI (al S u v i)) T := fun T hT => ⟨fun q => absurd ⟨⟨i, hi, rfl⟩, ⟨j, hj, rfl⟩⟩ q, fun i' j' hi' hj' e e' => by
        obtain rfl := nI_inj (by omega) (by omega) e
        obtain rfl := nI_inj (by omega) (by omega) e'
        exact ⟨fun q => absurd q h3, fun _ v' k' hv' hk' e1 e2 => by
          obtain rfl := nI_inj (by omega) (by omega) (hV.symm.trans e1)
          obtain rfl := nI_inj (by omega) (by omega) (hk.symm.trans e2)
          exact ⟨T1, hT1, rfl, hT⟩⟩⟩
      by_cases h4 : al S u v i = 0
      · exact ⟨_, _, key _ ⟨fun _ => rfl, fun q => absurd h4 q⟩⟩
      · exact ⟨_, _, key _ ⟨fun q => absurd q h4, fun _ => rfl⟩⟩
  · exact ⟨_, _, fun _ => ⟨rfl, rfl⟩, fun i j hi hj e e' => absurd ⟨⟨i, hi, e⟩, ⟨j, hj, e'⟩⟩ h1⟩
theorem ex_send {S : XM} {u w : Nat} {x y : Int32} (h : MW S u w) : ∃ r T, s_send S u x y r T := by
  have hu := h.1.2
  by_cases h1 : isU u x ∧ isU u y
  · obtain ⟨⟨i, hi, rfl⟩, ⟨j, hj, rfl⟩⟩ := h1
    by_cases h3 : i = j
    · exact ⟨_, _, fun q => absurd ⟨⟨i, hi, rfl⟩, ⟨j, hj, rfl⟩⟩ q, fun i' j' hi' hj' e e' => by
        obtain rfl := nI_inj (by omega) (by omega) e
        obtain rfl := nI_inj (by omega) (by omega) e'
        exact ⟨fun _ => ⟨rfl, rfl⟩, fun q => absurd h3 q⟩⟩
    · obtain ⟨z, hz4, hz⟩ := h.2.2.2.2.1 j (by omega)
      by_cases h4 : z = 4
      · exact ⟨_, _, fun q => absurd ⟨⟨i, hi, rfl⟩, ⟨j, hj, rfl⟩⟩ q, fun i' j' hi' hj' e e' => by
          obtain rfl := nI_inj (by omega) (by omega) e
          obtain rfl := nI_inj (by omega) (by omega) e'
          exact ⟨fun q => absurd q h3, fun _ z' hz' e3 => by
            obtain rfl := nI_inj (by omega) (by omega) (hz.symm.trans e3)
            exact ⟨fun _ => ⟨rfl, rfl⟩, fun q => absurd h4 q⟩⟩⟩
      · refine ⟨nI (z + 1), su (su (su S m_letter (cpy 5 (S m_letter) (20 * j + 5 * z) (rK S i))) m_lettersOf (upd (S m_lettersOf) j (nI (z + 1)))) m_sentBy (upd (S m_sentBy) i (S m_sentBy i + nI u)), fun q => absurd ⟨⟨i, hi, rfl⟩, ⟨j, hj, rfl⟩⟩ q, fun i' j' hi' hj' e e' => ?_⟩
        obtain rfl := nI_inj (by omega) (by omega) e
        obtain rfl := nI_inj (by omega) (by omega) e'
        refine ⟨fun q => absurd q h3, fun _ z' hz' e3 => ?_⟩
        obtain rfl := nI_inj (by omega) (by omega) (hz.symm.trans e3)
        exact ⟨fun q => absurd q h4, fun _ => ⟨rfl, by rw [su_n (by decide), su_n (by decide), su_s], by rw [su_n (by decide), su_s], su_s, fun o o1 o2 o3 => by rw [su_n o3, su_n o2, su_n o1]⟩⟩
  · exact ⟨_, _, fun _ => ⟨rfl, rfl⟩, fun i j hi hj e e' => absurd ⟨⟨i, hi, e⟩, ⟨j, hj, e'⟩⟩ h1⟩
theorem ex_attach {S : XM} {u w : Nat} {x y : Int32} (h : MW S u w) : ∃ r T, s_attach S u w x y r T := by
  have hu := h.1.2
  have hw := h.2.1.2
  by_cases h1 : isU u x ∧ isU w y
  · obtain ⟨⟨i, hi, rfl⟩, ⟨v, hv, rfl⟩⟩ := h1
    exact ⟨_, _, fun q => absurd ⟨⟨i, hi, rfl⟩, ⟨v, hv, rfl⟩⟩ q, fun i' v' hi' hv' e e' => by
      obtain rfl := nI_inj (by omega) (by omega) e
      obtain rfl := nI_inj (by omega) (by omega) e'
      exact ⟨rfl, rfl⟩⟩
  · exact ⟨_, _, fun _ => ⟨rfl, rfl⟩, fun i j hi hj e e' => absurd ⟨⟨i, hi, e⟩, ⟨j, hj, e'⟩⟩ h1⟩
theorem ex_take (S : XM) (i z : Nat) : ∃ T, mTake S i z T := ⟨su (su (su S m_hand (cpy 5 (S m_hand) 0 (sl (S m_letter) (20 * i)))) m_lettersOf (upd (S m_lettersOf) i (nI (z - 1)))) m_letter (cpy (5 * (z - 1)) (S m_letter) (20 * i) (sl (S m_letter) (20 * i + 5))), by rw [su_n (by decide), su_n (by decide), su_s], by rw [su_n (by decide), su_s], su_s, fun o o1 o2 o3 => by rw [su_n o3, su_n o2, su_n o1]⟩
theorem ex_readL {S : XM} {u w : Nat} {x : Int32} (h : MW S u w) : ∃ r T, s_readL S u x r T := by
  have hu := h.1.2
  by_cases h1 : isU u x
  · obtain ⟨i, hi, rfl⟩ := h1
    obtain ⟨z, hz4, hz⟩ := h.2.2.2.2.1 i (by omega)
    by_cases h3 : z = 0
    · exact ⟨_, _, fun q => absurd ⟨i, hi, rfl⟩ q, fun j hj e z' hz' e3 => by
        obtain rfl := nI_inj (by omega) (by omega) e
        obtain rfl := nI_inj (by omega) (by omega) (hz.symm.trans e3)
        exact ⟨fun _ => ⟨rfl, rfl⟩, fun q => absurd h3 q⟩⟩
    · obtain ⟨T1, hT1⟩ := ex_take S i z
      have key : ∀ (r : Int32) (T : XM), ((vle u (sl (S m_letter) (20 * i)) (rK S i) → r = nI 0 ∧ T = T1) ∧ (¬ vle u (sl (S m_letter) (20 * i)) (rK S i) → (vle u (rK S i) (sl (S m_letter) (20 * i)) → r = nI 1 ∧ T m_knownOf = cpy 5 (S m_knownOf) (5 * i) (sl (S m_letter) (20 * i)) ∧ ∀ o, o ≠ m_knownOf → T o = T1 o) ∧ (¬ vle u (rK S i) (sl (S m_letter) (20 * i)) → r = nI 2 ∧ ∃ T2, (0 < S m_alarmOf i → T2 = sw T1 m_alarmOf i (S m_alarmOf i)) ∧ (¬ 0 < S m_alarmOf i → T2 = sw T1 m_alarmOf i (nI 4)) ∧ mKeep T2 i (nI 0) (rK S i) (sl (T1 m_hand) 0) T))) → s_readL S u (nI i) r T := fun r T hT => ⟨fun q => absurd ⟨i, hi, rfl⟩ q, fun j hj e z' hz' e3 => by
        obtain rfl := nI_inj (by omega) (by omega) e
        obtain rfl := nI_inj (by omega) (by omega) (hz.symm.trans e3)
        exact ⟨fun q => absurd q h3, fun _ => ⟨T1, hT1, hT⟩⟩⟩
      by_cases h4 : vle u (sl (S m_letter) (20 * i)) (rK S i)
      · exact ⟨_, _, key _ _ ⟨fun _ => ⟨rfl, rfl⟩, fun q => absurd h4 q⟩⟩
      · by_cases h5 : vle u (rK S i) (sl (S m_letter) (20 * i))
        · exact ⟨_, su T1 m_knownOf (cpy 5 (S m_knownOf) (5 * i) (sl (S m_letter) (20 * i))), key _ _ ⟨fun q => absurd q h4, fun _ => ⟨fun _ => ⟨rfl, su_s, fun o ho => su_n ho⟩, fun q => absurd h5 q⟩⟩⟩
        · by_cases h6 : 0 < S m_alarmOf i
          · obtain ⟨T, hT⟩ := mKeep_ex (sw T1 m_alarmOf i (S m_alarmOf i)) i (nI 0) (rK S i) (sl (T1 m_hand) 0)
            exact ⟨_, T, key _ _ ⟨fun q => absurd q h4, fun _ => ⟨fun q => absurd q h5, fun _ => ⟨rfl, _, fun _ => rfl, fun q => absurd h6 q, hT⟩⟩⟩⟩
          · obtain ⟨T, hT⟩ := mKeep_ex (sw T1 m_alarmOf i (nI 4)) i (nI 0) (rK S i) (sl (T1 m_hand) 0)
            exact ⟨_, T, key _ _ ⟨fun q => absurd q h4, fun _ => ⟨fun q => absurd q h5, fun _ => ⟨rfl, _, fun q => absurd q h6, fun _ => rfl, hT⟩⟩⟩⟩
  · exact ⟨_, _, fun _ => ⟨rfl, rfl⟩, fun i hi e => absurd ⟨i, hi, e⟩ h1⟩
