/-! ===== p29: sets of users as bits; forks, mixes and the like, case by case ===== -/
def bitB (f : Nat → Bool) : Nat → Int32
  | 0 => nI 0
  | k + 1 => if f k = true then bitB f k ||| (nI 1 <<< (nI k &&& 31)) else bitB f k
theorem bitB_congr {f g : Nat → Bool} : ∀ {n : Nat}, (∀ k, k < n → f k = g k) → bitB f n = bitB g n
  | 0, _ => rfl
  | n + 1, h => by
    unfold bitB
    rw [bitB_congr (n := n) (fun k hk => h k (by omega)), h n (by omega)]
theorem bitM_B {Q : Nat → Prop} {f : Nat → Bool} : ∀ {n : Nat}, (∀ k, k < n → (Q k ↔ f k = true)) → bitM Q n = bitB f n
  | 0, _ => rfl
  | n + 1, h => by
    have h1 := bitM_B (n := n) (fun k hk => h k (by omega))
    by_cases q : Q n
    · rw [bitM_t q]
      unfold bitB
      rw [if_pos ((h n (by omega)).mp q), h1]
    · rw [bitM_f q]
      unfold bitB
      rw [if_neg (fun z => q ((h n (by omega)).mpr z)), h1]
def tB (m i : Nat) : Bool := m / 2 ^ i % 2 == 1
theorem tB_of : ∀ b0 b1 b2 b3 b4 : Bool, ∃ m, m < 32 ∧ tB m 0 = b0 ∧ tB m 1 = b1 ∧ tB m 2 = b2 ∧ tB m 3 = b3 ∧ tB m 4 = b4 := by
  intro b0 b1 b2 b3 b4
  refine ⟨b0.toNat + 2 * b1.toNat + 4 * b2.toNat + 8 * b3.toNat + 16 * b4.toNat, ?_, ?_, ?_, ?_, ?_, ?_⟩ <;> cases b0 <;> cases b1 <;> cases b2 <;> cases b3 <;> cases b4 <;> decide
/-- any set of at most five users has a number -/
theorem set_num (Q : Nat → Prop) : ∃ m, m < 32 ∧ ∀ k, k < 5 → (Q k ↔ tB m k = true) := by
  have dq : ∀ P : Prop, ∃ c : Bool, (P ↔ c = true) := fun P => by
    by_cases h : P
    · exact ⟨true, fun _ => rfl, fun _ => h⟩
    · exact ⟨false, fun z => absurd z h, fun z => by cases z⟩
  obtain ⟨b0, h0⟩ := dq (Q 0)
  obtain ⟨b1, h1⟩ := dq (Q 1)
  obtain ⟨b2, h2⟩ := dq (Q 2)
  obtain ⟨b3, h3⟩ := dq (Q 3)
  obtain ⟨b4, h4⟩ := dq (Q 4)
  obtain ⟨m, hm, e0, e1, e2, e3, e4⟩ := tB_of b0 b1 b2 b3 b4
  refine ⟨m, hm, fun k hk => ?_⟩
  match k, hk with
  | 0, _ => rw [e0]; exact h0
  | 1, _ => rw [e1]; exact h1
  | 2, _ => rw [e2]; exact h2
  | 3, _ => rw [e3]; exact h3
  | 4, _ => rw [e4]; exact h4
def hB (y : Int32) (i : Nat) : Bool := decide ((y >>> (nI i &&& 31)) &&& nI 1 = nI 1)
theorem hB_iff {y : Int32} {i : Nat} : hasB y i ↔ hB y i = true := (decide_eq_true_iff (p := (y >>> (nI i &&& 31)) &&& nI 1 = nI 1)).symm
theorem bits_1 : ∀ u, u < 6 → ∀ m, m < 32 → ∀ j, j < 32 → (bitB (tB m) u &&& nI j) &&& (bitB (tB m) u ^^^ (-1)) = 0 := by decide +kernel
theorem bits_2 : ∀ u, u < 6 → ∀ m, m < 32 → ∀ j, j < 32 → bitB (hB (bitB (tB m) u &&& nI j)) u = bitB (tB m) u &&& nI j := by decide +kernel
theorem bits_3 : ∀ u, u < 6 → ∀ m, m < 32 → ∀ j, j < 32 → bitB (fun i => tB m i && !(hB (bitB (tB m) u &&& nI j) i)) u = bitB (tB m) u - (bitB (tB m) u &&& nI j) := by decide +kernel
theorem bits_4 : ∀ u, u < 6 → ∀ m, m < 32 → ∀ j, j < 32 → bitB (fun i => tB m i || tB j i) u = bitB (tB m) u ||| bitB (tB j) u := by decide +kernel
theorem bits_5 : ∀ u, u < 6 → bitB (fun _ => true) u = (nI 1 <<< (nI u &&& 31)) - nI 1 := by decide +kernel
theorem bits_0 : ∀ u, u < 6 → bitB (fun _ => false) u = nI 0 := by decide +kernel
theorem fk_ok (S : XM) {u v j : Nat} (hu : u ≤ 5) (hj : j < 32) : (badS S u v (attM S (nI v) u &&& nI j) ↔ attM S (nI v) u &&& nI j = 0) ∧ bitM (hasB (attM S (nI v) u &&& nI j)) u = attM S (nI v) u &&& nI j ∧ bitM (fun i => S m_viewOf i = nI v ∧ ¬ hasB (attM S (nI v) u &&& nI j) i) u = attM S (nI v) u - (attM S (nI v) u &&& nI j) := by
  obtain ⟨m, hm, hQ⟩ := set_num (fun i => S m_viewOf i = nI v)
  have e : attM S (nI v) u = bitB (tB m) u := bitM_B (fun k hk => hQ k (by omega))
  have e3 : bitM (fun i => S m_viewOf i = nI v ∧ ¬ hasB (attM S (nI v) u &&& nI j) i) u = bitB (fun i => tB m i && !(hB (bitB (tB m) u &&& nI j) i)) u := bitM_B (fun k hk => by
    rw [e, hB_iff, hQ k (by omega)]
    cases tB m k <;> cases hB (bitB (tB m) u &&& nI j) k <;> decide)
  refine ⟨?_, ?_, by rw [e3, e]; exact bits_3 u (by omega) m hm j hj⟩
  · unfold badS
    rw [e]
    exact ⟨fun q => q.elim id (fun z => absurd (bits_1 u (by omega) m hm j hj) z), Or.inl⟩
  · rw [bitM_B (f := hB (bitB (tB m) u &&& nI j)) (fun k _ => by rw [e]; exact hB_iff), e]
    exact bits_2 u (by omega) m hm j hj
theorem bitM_or (P Q : Nat → Prop) {u : Nat} (hu : u ≤ 5) : bitM (fun i => P i ∨ Q i) u = bitM P u ||| bitM Q u := by
  obtain ⟨m, hm, hP⟩ := set_num P
  obtain ⟨j, hj, hQ⟩ := set_num Q
  rw [bitM_B (Q := P) (fun k hk => hP k (by omega)), bitM_B (Q := Q) (fun k hk => hQ k (by omega)), ← bits_4 u (by omega) m hm j hj]
  exact bitM_B (fun k hk => by
    rw [hP k (by omega), hQ k (by omega)]
    cases tB m k <;> cases tB j k <;> decide)
theorem bitM_all {Q : Nat → Prop} {u : Nat} (hu : u ≤ 5) (h : ∀ k, k < u → Q k) : bitM Q u = (nI 1 <<< (nI u &&& 31)) - nI 1 := by
  rw [← bits_5 u (by omega)]
  exact bitM_B (fun k hk => ⟨fun _ => rfl, fun _ => h k hk⟩)
theorem bitM_no {Q : Nat → Prop} {u : Nat} (hu : u ≤ 5) (h : ∀ k, k < u → ¬ Q k) : bitM Q u = nI 0 := by
  rw [← bits_0 u (by omega)]
  exact bitM_B (fun k hk => ⟨fun q => absurd q (h k hk), fun q => by cases q⟩)
/-! forks -/
theorem f_bad {S T : XM} {u w v : Nat} {y r : Int32} (hs : s_fork S u w (nI v) y r T) (hv : v < w) (hb : badS S u v y) : r = (-10002) ∧ T = S := (hs.2 v hv rfl).1 hb
theorem f_full {S T : XM} {u w v : Nat} {y r : Int32} (hs : s_fork S u w (nI v) y r T) (hv : v < w) (hb : ¬ badS S u v y) (h6 : w = 6) : r = (-10004) ∧ T = S := ((hs.2 v hv rfl).2 hb).1 h6
theorem f_ok {S T : XM} {u w v kp : Nat} {y r : Int32} (hs : s_fork S u w (nI v) y r T) (hm : MW S u w) (hv : v < w) (hb : ¬ badS S u v y) (h6 : w ≠ 6) (hk : S m_keptOf v = nI kp) : r = nI w ∧ T oMod 1 = nI (w + 1) ∧ (∀ i p, i < 5 → p < 5 → rV T w i p = rV S v i p) ∧ (∀ i, i < 5 → cV T w i = cV S v i ∧ cV T v i = cV S v i) ∧ T m_keptOf w = nI kp ∧ attM T (nI w) u = bitM (hasB y) u ∧ attM T (nI v) u = bitM (fun i => S m_viewOf i = nI v ∧ ¬ hasB y i) u := by
  have hu := hm.1.2
  have hw := hm.2.1.2
  obtain ⟨q0, q1, q2, q3, q4, q5, q6, q7, q8⟩ := ((hs.2 v hv rfl).2 hb).2 h6
  refine ⟨q0, q6, fun i p hi hp => ?_, fun i hi => ⟨?_, ?_⟩, by rw [q3, upd_s]; exact hk, bitM_congr (fun i hi => ?_), bitM_congr (fun i hi => ?_)⟩
  · show T m_row (30 * w + 5 * i + p) = S m_row (30 * v + 5 * i + p)
    rw [q1, show 30 * w + 5 * i + p = 30 * w + (5 * i + p) by omega, cpy_in (by omega)]
    show S m_row (30 * v + (5 * i + p)) = _
    congr 1; omega
  · show T m_row (30 * w + 25 + i) = S m_row (30 * v + 25 + i)
    rw [q1, show 30 * w + 25 + i = 30 * w + (25 + i) by omega, cpy_in (by omega)]
    show S m_row (30 * v + (25 + i)) = _
    congr 1; omega
  · show T m_row (30 * v + 25 + i) = S m_row (30 * v + 25 + i)
    rw [q1, cpy_out (by omega)]
  · by_cases hB : hasB y i
    · exact ⟨fun _ => hB, fun _ => (q4 i hi).1 hB⟩
    · refine ⟨fun e => ?_, fun z => absurd z hB⟩
      rw [(q4 i hi).2 hB] at e
      obtain ⟨v2, hv2, e2⟩ := hm.2.2.1 i (by omega)
      have := nI_inj (by omega) (by omega) (e2.symm.trans e)
      omega
  · by_cases hB : hasB y i
    · refine ⟨fun e => ?_, fun z => absurd hB z.2⟩
      rw [(q4 i hi).1 hB] at e
      have := nI_inj (by omega) (by omega) e
      omega
    · rw [(q4 i hi).2 hB]
      exact ⟨fun e => ⟨e, hB⟩, fun z => z.1⟩
/-! attaching, rolling back, mixing -/
theorem t_ok {S T : XM} {u w i v : Nat} {r : Int32} (hs : s_attach S u w (nI i) (nI v) r T) (hi : i < u) (hv : v < w) : r = S m_viewOf i ∧ T m_viewOf i = nI v := by
  obtain ⟨h1, h2⟩ := hs.2 i v hi hv rfl rfl
  exact ⟨h1, by rw [h2, sw_s]⟩
theorem b_none {S T : XM} {w v z k : Nat} {r : Int32} (hs : s_roll S w (nI v) (nI z) r T) (hv : v < w) (h1 : 1 ≤ z) (h5 : z ≤ 5) (hk5 : k ≤ 5) (hk : S m_keptOf v = nI k) (h : k < z) : r = (-10005) ∧ T = S := ((hs.2 v hv rfl).2 z k h1 h5 rfl hk5 hk).1 h
theorem b_ok {S T : XM} {w v z k : Nat} {r : Int32} (hs : s_roll S w (nI v) (nI z) r T) (hv : v < w) (h1 : 1 ≤ z) (h5 : z ≤ 5) (hk5 : k ≤ 5) (hk : S m_keptOf v = nI k) (h : z ≤ k) : r = nI (k - z) ∧ T m_keptOf v = nI (k - z) := by
  obtain ⟨q0, q1, -⟩ := ((hs.2 v hv rfl).2 z k h1 h5 rfl hk5 hk).2 h
  exact ⟨q0, by rw [q1, upd_s]⟩
theorem b_bad {S T : XM} {w v : Nat} {r : Int32} (hs : s_roll S w (nI v) (nI 6) r T) (hv : v < w) : r = (-10002) ∧ T = S := (hs.2 v hv rfl).1 (by decide)
theorem m_eq {S T : XM} {u w v o : Nat} {r : Int32} (hs : s_mix S u w (nI v) (nI o) r T) (hv : v < w) (ho : o < w) (h : v = o) : r = (-10002) ∧ T = S := (hs.2 v o hv ho rfl rfl).1 h
theorem m_ok {S T : XM} {u w v o : Nat} {r : Int32} (hs : s_mix S u w (nI v) (nI o) r T) (hm : MW S u w) (hv : v < w) (ho : o < w) (h : v ≠ o) : r = nI (xcnt (mixC S v o) u) ∧ attM T (nI v) u = attM S (nI v) u ||| attM S (nI o) u ∧ attM T (nI o) u = nI 0 ∧ T m_keptOf v = nI 0 ∧ xcnt (mixC T v o) u = 0 := by
  have hu := hm.1.2
  have hw := hm.2.1.2
  obtain ⟨q0, q1, q2, q3, q4, q5, q6, q7⟩ := (hs.2 v o hv ho rfl rfl).2 h
  have ne : nI v ≠ nI o := fun e => h (nI_inj (by omega) (by omega) e)
  refine ⟨q0, ?_, bitM_no (by omega) (fun i hi e => ?_), by rw [q6, upd_s], ?_⟩
  · unfold attM
    rw [← bitM_or _ _ (by omega)]
    refine bitM_congr (fun i hi => ?_)
    by_cases e : S m_viewOf i = nI o
    · rw [(q4 i hi).1 e]
      exact ⟨fun _ => Or.inr e, fun _ => rfl⟩
    · rw [(q4 i hi).2 e]
      exact ⟨Or.inl, fun z => z.elim id (fun z => absurd z e)⟩
  · by_cases e2 : S m_viewOf i = nI o
    · rw [(q4 i hi).1 e2] at e; exact ne e
    · rw [(q4 i hi).2 e2] at e; exact e2 e
  · have z : ∀ n, n ≤ u → xcnt (mixC T v o) n = 0 := by
      intro n
      induction n with
      | zero => intro _; rfl
      | succ n ih =>
        intro hn
        have hc : ¬ mixC T v o n := fun c => by
          unfold mixC at c
          have eo : T m_row (30 * o + 5 * n + n) = S m_row (30 * o + 5 * n + n) := q3 _ (by rcases Nat.lt_or_ge o v with z | z <;> omega)
          by_cases c2 : mixC S v o n
          · rw [((q1 n (by omega)).1 c2).1 n (by omega), eo] at c
            exact absurd c (fun z => Int32.lt_irrefl z)
          · rw [((q1 n (by omega)).2 c2).1 n (by omega), eo] at c
            exact c2 c
        rw [xcnt_f hc]; exact ih (by omega)
    exact z u (Nat.le_refl _)
