/-! ===== the class's memory and the twin's ===== -/
def EqR (σ : XM) (en : Nat) (F : Nat → Int32) (a : Nat) : Prop := ∀ i, i < 5 → (∀ p, p < 5 → σ (oNum (oVec (oVs en) i)) p = F (a + 5 * i + p)) ∧ σ (oCon en) i = F (a + 25 + i)
theorem EqR.of {σ τ : XM} {en a a' : Nat} {F G : Nat → Int32} (h : EqR σ en F a) (h1 : ∀ q, en ≤ q → q < en + 13 → τ q = σ q) (h2 : ∀ k, k < 30 → G (a' + k) = F (a + k)) : EqR τ en G a' := by
  intro i hi
  refine ⟨fun p hp => ?_, ?_⟩
  · rw [h1 _ (by simp only [oNum, oVec, oVs]; omega) (by simp only [oNum, oVec, oVs]; omega), (h i hi).1 p hp, Nat.add_assoc, Nat.add_assoc, h2 _ (by omega)]
  · rw [h1 _ (by simp only [oCon]; omega) (by simp only [oCon]; omega), (h i hi).2, Nat.add_assoc, Nat.add_assoc, h2 _ (by omega)]
theorem EqR.eq {σ τ : XM} {e1 e2 a : Nat} {F : Nat → Int32} (h : EqE τ e1 σ e2) (h2 : EqR σ e2 F a) : EqR τ e1 F a := fun i hi => ⟨fun p hp => ((h i hi).1 p hp).trans ((h2 i hi).1 p hp), (h i hi).2.trans (h2 i hi).2⟩
def RA (f : Nat → Int32) (S : XM) (i : Nat) : Prop := f 4 = S m_viewOf i ∧ f 5 = S m_alarmOf i ∧ f 8 = S m_doneOf i ∧ f 9 = S m_shownTo i ∧ f 10 = S m_sentBy i ∧ f 6 = S m_hasRead i ∧ (S m_hasRead i ≠ 0 → f 7 = S m_readOf i)
def RB (g K : Nat → Int32) (i : Nat) : Prop := ∀ p, p < 5 → g p = K (5 * i + p)
def RP (f g1 g2 : Nat → Int32) (S : XM) (i : Nat) : Prop := f 2 = S m_hasProof i ∧ (S m_hasProof i ≠ 0 → f 3 = S m_depthOf i ∧ ∀ p, p < 5 → g1 p = S m_proofOf (10 * i + p) ∧ g2 p = S m_proofOf (10 * i + 5 + p))
def RX (f : Nat → Int32) (g : Nat → Nat → Int32) (S : XM) (i : Nat) : Prop := f 1 = S m_lettersOf i ∧ ∀ z, z ≤ 4 → S m_lettersOf i = nI z → ∀ q, q < z → ∀ p, p < 5 → g q p = S m_letter (20 * i + 5 * q + p)
def RM (σ S : XM) (i : Nat) : Prop := RA (σ (oMem i)) S i ∧ RB (σ (oNum (oKno (oMem i)))) (S m_knownOf) i ∧ RB (σ (oNum (oSig (oMem i)))) (S m_signedOf) i ∧ RP (σ (oPro (oMem i))) (σ (oNum (oFst (oPro (oMem i))))) (σ (oNum (oSnd (oPro (oMem i))))) S i ∧ RX (σ (oBox (oMem i))) (fun q => σ (oNum (oLet (oLts (oBox (oMem i))) q))) S i
/-- the twin's cells of member i are the same -/
def MS (S T : XM) (i : Nat) : Prop := (T m_viewOf i = S m_viewOf i ∧ T m_alarmOf i = S m_alarmOf i ∧ T m_doneOf i = S m_doneOf i ∧ T m_shownTo i = S m_shownTo i ∧ T m_sentBy i = S m_sentBy i ∧ T m_hasRead i = S m_hasRead i ∧ T m_readOf i = S m_readOf i) ∧ (∀ p, p < 5 → T m_knownOf (5 * i + p) = S m_knownOf (5 * i + p)) ∧ (∀ p, p < 5 → T m_signedOf (5 * i + p) = S m_signedOf (5 * i + p)) ∧ (T m_hasProof i = S m_hasProof i ∧ T m_depthOf i = S m_depthOf i ∧ ∀ p, p < 10 → T m_proofOf (10 * i + p) = S m_proofOf (10 * i + p)) ∧ (T m_lettersOf i = S m_lettersOf i ∧ ∀ p, p < 20 → T m_letter (20 * i + p) = S m_letter (20 * i + p))
theorem MS.rf {S : XM} {i : Nat} : MS S S i := ⟨⟨rfl, rfl, rfl, rfl, rfl, rfl, rfl⟩, fun _ _ => rfl, fun _ _ => rfl, ⟨rfl, rfl, fun _ _ => rfl⟩, rfl, fun _ _ => rfl⟩
theorem MS.tr {S T U : XM} {i : Nat} (h : MS S T i) (h2 : MS T U i) : MS S U i := by
  obtain ⟨⟨a1, a2, a3, a4, a5, a6, a7⟩, b1, b2, ⟨b3, b4, b5⟩, b6, b7⟩ := h
  obtain ⟨⟨c1, c2, c3, c4, c5, c6, c7⟩, d1, d2, ⟨d3, d4, d5⟩, d6, d7⟩ := h2
  exact ⟨⟨c1.trans a1, c2.trans a2, c3.trans a3, c4.trans a4, c5.trans a5, c6.trans a6, c7.trans a7⟩, fun p hp => (d1 p hp).trans (b1 p hp), fun p hp => (d2 p hp).trans (b2 p hp), ⟨d3.trans b3, d4.trans b4, fun p hp => (d5 p hp).trans (b5 p hp)⟩, d6.trans b6, fun p hp => (d7 p hp).trans (b7 p hp)⟩
/-- whole arrays the same -/
theorem MS.arr {S T : XM} (h : ∀ o, 589 ≤ o → o < 603 → T o = S o) (i : Nat) : MS S T i := by
  refine ⟨⟨?_, ?_, ?_, ?_, ?_, ?_, ?_⟩, fun _ _ => ?_, fun _ _ => ?_, ⟨?_, ?_, fun _ _ => ?_⟩, ?_, fun _ _ => ?_⟩ <;> rw [h _ (by decide) (by decide)]
theorem RA.of {f : Nat → Int32} {S T : XM} {i : Nat} (h : RA f S i) (q : MS S T i) : RA f T i := by
  obtain ⟨a1, a2, a3, a4, a5, a6, a7⟩ := q.1
  unfold RA
  rw [a1, a2, a3, a4, a5, a6, a7]; exact h
theorem RP.of {f g1 g2 : Nat → Int32} {S T : XM} {i : Nat} (h : RP f g1 g2 S i) (q : MS S T i) : RP f g1 g2 T i := by
  obtain ⟨b3, b4, b5⟩ := q.2.2.2.1
  unfold RP
  rw [b3, b4]
  exact ⟨h.1, fun z => ⟨(h.2 z).1, fun p hp => ⟨by rw [b5 p (by omega)]; exact ((h.2 z).2 p hp).1, by rw [Nat.add_assoc, b5 _ (by omega), ← Nat.add_assoc]; exact ((h.2 z).2 p hp).2⟩⟩⟩
theorem RX.of {f : Nat → Int32} {g : Nat → Nat → Int32} {S T : XM} {i : Nat} (h : RX f g S i) (q : MS S T i) : RX f g T i := by
  obtain ⟨b6, b7⟩ := q.2.2.2.2
  unfold RX
  rw [b6]
  exact ⟨h.1, fun z z4 e k hk p hp => by rw [Nat.add_assoc, b7 _ (by omega), ← Nat.add_assoc]; exact h.2 z z4 e k hk p hp⟩
theorem RB.of {g K K' : Nat → Int32} {i : Nat} (h : RB g K i) (q : ∀ p, p < 5 → K' (5 * i + p) = K (5 * i + p)) : RB g K' i := fun p hp => by rw [q p hp]; exact h p hp
/-- a member's cells in the class's memory are the same -/
def CS (σ τ : XM) (i : Nat) : Prop := ∀ o, oMem i ≤ o → o < oMem i + 20 → τ o = σ o
theorem RM.of {σ τ S T : XM} {i : Nat} (h : RM σ S i) (h1 : CS σ τ i) (q : MS S T i) : RM τ T i := by
  obtain ⟨a1, a2, a3, a4, a5⟩ := h
  refine ⟨?_, ?_, ?_, ?_, ?_⟩
  · rw [h1 _ (Nat.le_refl _) (by omega)]; exact a1.of q
  · rw [h1 _ (by simp only [oNum, oKno]; omega) (by simp only [oNum, oKno]; omega)]; exact a2.of q.2.1
  · rw [h1 _ (by simp only [oNum, oSig]; omega) (by simp only [oNum, oSig]; omega)]; exact a3.of q.2.2.1
  · rw [h1 _ (by simp only [oPro]; omega) (by simp only [oPro]; omega), h1 _ (by simp only [oNum, oFst, oPro]; omega) (by simp only [oNum, oFst, oPro]; omega), h1 _ (by simp only [oNum, oSnd, oPro]; omega) (by simp only [oNum, oSnd, oPro]; omega)]; exact a4.of q
  · have a6 := a5.of q
    refine ⟨by rw [h1 _ (by simp only [oBox]; omega) (by simp only [oBox]; omega)]; exact a6.1, fun z z4 e k hk p hp => ?_⟩
    show τ (oNum (oLet (oLts (oBox (oMem i))) k)) p = _
    rw [h1 _ (by simp only [oNum, oLet, oLts, oBox]; omega) (by simp only [oNum, oLet, oLts, oBox]; omega)]; exact a6.2 z z4 e k hk p hp
def RV (σ S : XM) (v : Nat) : Prop := EqR σ (oEnt (oVw v)) (S m_row) (30 * v) ∧ σ (oVw v) 2 = S m_keptOf v ∧ ∃ x, x < 5 ∧ σ (oVw v) 3 = nI x ∧ ∀ k, k ≤ 5 → S m_keptOf v = nI k → ∀ q, q < k → EqR σ (oBk (oBef (oVw v)) ((x + 5 - k + q) % 5)) (S m_keptRow) (150 * v + 30 * q)
def VS (S T : XM) (v : Nat) : Prop := (∀ p, p < 30 → T m_row (30 * v + p) = S m_row (30 * v + p)) ∧ T m_keptOf v = S m_keptOf v ∧ ∀ p, p < 150 → T m_keptRow (150 * v + p) = S m_keptRow (150 * v + p)
theorem VS.rf {S : XM} {v : Nat} : VS S S v := ⟨fun _ _ => rfl, rfl, fun _ _ => rfl⟩
theorem VS.arr {S T : XM} (h : ∀ o, 586 ≤ o → o < 589 → T o = S o) (v : Nat) : VS S T v := by
  refine ⟨fun _ _ => ?_, ?_, fun _ _ => ?_⟩ <;> rw [h _ (by decide) (by decide)]
theorem RV.of {σ τ S T : XM} {v : Nat} (h : RV σ S v) (h1 : ∀ o, oVw v ≤ o → o < oVw v + 80 → τ o = σ o) (q : VS S T v) : RV τ T v := by
  obtain ⟨a1, a2, x, hx, a3, a4⟩ := h
  refine ⟨a1.of (fun o o1 o2 => h1 o (by simp only [oEnt] at o1; omega) (by simp only [oEnt] at o2; omega)) (fun k hk => q.1 k hk), by rw [h1 _ (Nat.le_refl _) (by omega), q.2.1]; exact a2, x, hx, by rw [h1 _ (Nat.le_refl _) (by omega)]; exact a3, fun k hk e j hj => ?_⟩
  rw [q.2.1] at e
  have hm : (x + 5 - k + j) % 5 < 5 := Nat.mod_lt _ (by decide)
  refine (a4 k hk e j hj).of (fun o o1 o2 => h1 o (by simp only [oBk, oBef] at o1; omega) (by simp only [oBk, oBef] at o2; omega)) (fun p hp => ?_)
  rw [Nat.add_assoc]; exact q.2.2 _ (by omega)
def RT (σ S : XM) : Prop := σ oScr 1 = S oMod 23 ∧ ∀ t, t ≤ 60 → S oMod 23 = nI t → ∀ j, j < t → σ oSgn j = S m_text j
def RR (σ S : XM) (u w : Nat) : Prop := σ 0 3 = nI u ∧ σ 0 4 = nI w ∧ (∀ i, i < 5 → RM σ S i) ∧ (∀ v, v < w → RV σ S v) ∧ RT σ S
theorem RT.of {σ τ S T : XM} (h : RT σ S) (h1 : τ oScr = σ oScr) (h2 : τ oSgn = σ oSgn) (q1 : T oMod 23 = S oMod 23) (q2 : T m_text = S m_text) : RT τ T := by
  unfold RT
  rw [h1, h2, q1, q2]; exact h
/-- what depends on the twin's memory alone -/
theorem RR.of {σ S T : XM} {u w : Nat} (h : RR σ S u w) (h1 : ∀ o, o ≠ oMod → T o = S o) (h2 : T oMod 23 = S oMod 23) : RR σ T u w :=
  ⟨h.1, h.2.1, fun i hi => (h.2.2.1 i hi).of (fun _ _ _ => rfl) (MS.arr (fun o o1 _ => h1 o (by unfold oMod; omega)) i), fun v hv => (h.2.2.2.1 v hv).of (fun _ _ _ => rfl) (VS.arr (fun o o1 _ => h1 o (by unfold oMod; omega)) v), h.2.2.2.2.of rfl rfl h2 (h1 _ (by decide))⟩
theorem RR.sp {σ S T : XM} {u w : Nat} (h : RR σ S u w) (q : Sp S T) : RR σ T u w := h.of q.1 (q.2 23 (by decide) (by decide))
/-- a change that stays within one member -/
theorem RR.mem {σ τ S T : XM} {u w i : Nat} (h : RR σ S u w) (hi : i < 5) (h1 : ∀ o, o < 585 → (o < oMem i ∨ oMem i + 20 ≤ o) → τ o = σ o) (hM : RM τ T i) (h2 : ∀ j, j < 5 → j ≠ i → MS S T j) (h3 : ∀ o, 586 ≤ o → o < 589 → T o = S o) (h4 : T oMod 23 = S oMod 23) (h5 : T m_text = S m_text) (hw : w ≤ 6) : RR τ T u w := by
  have e0 : ∀ o, o < 5 → τ o = σ o := fun o ho => h1 o (by omega) (Or.inl (by simp only [oMem]; omega))
  refine ⟨by rw [e0 0 (by decide)]; exact h.1, by rw [e0 0 (by decide)]; exact h.2.1, fun j hj => ?_, fun v hv => (h.2.2.2.1 v hv).of (fun o o1 o2 => h1 o (by simp only [oVw] at o2; omega) (Or.inr (by simp only [oVw, oMem] at *; omega))) (VS.arr h3 v), h.2.2.2.2.of (e0 _ (by decide)) (e0 _ (by decide)) h4 h5⟩
  by_cases q : j = i
  · subst q; exact hM
  · exact (h.2.2.1 j hj).of (fun o o1 o2 => h1 o (by simp only [oMem] at o2; omega) (by simp only [oMem] at *; omega)) (h2 j hj q)
/-- a change that stays within one view -/
theorem RR.vw {σ τ S T : XM} {u w v : Nat} (h : RR σ S u w) (hv : v < w) (h1 : ∀ o, o < 585 → (o < oVw v ∨ oVw v + 80 ≤ o) → τ o = σ o) (hM : RV τ T v) (h2 : ∀ j, j < w → j ≠ v → VS S T j) (h3 : ∀ o, 589 ≤ o → o < 603 → T o = S o) (h4 : T oMod 23 = S oMod 23) (h5 : T m_text = S m_text) (hw : w ≤ 6) : RR τ T u w := by
  have e0 : ∀ o, o < 5 → τ o = σ o := fun o ho => h1 o (by omega) (Or.inl (by simp only [oVw]; omega))
  refine ⟨by rw [e0 0 (by decide)]; exact h.1, by rw [e0 0 (by decide)]; exact h.2.1, fun j hj => (h.2.2.1 j hj).of (fun o o1 o2 => h1 o (by simp only [oMem] at o2; omega) (Or.inl (by simp only [oVw, oMem] at *; omega))) (MS.arr h3 j), fun j hj => ?_, h.2.2.2.2.of (e0 _ (by decide)) (e0 _ (by decide)) h4 h5⟩
  by_cases q : j = v
  · subst q; exact hM
  · exact (h.2.2.2.1 j hj).of (fun o o1 o2 => h1 o (by simp only [oVw] at o2; omega) (by simp only [oVw] at *; omega)) (h2 j hj q)
/-! the invariant of the twin's memory -/
def NV (N u : Nat) (f : Nat → Int32) (a : Nat) : Prop := ∀ p, p < 5 → ∃ c, c ≤ N ∧ f (a + p) = nI c ∧ (u ≤ p → c = 0)
def NR (N u : Nat) (f : Nat → Int32) (a : Nat) : Prop := ∀ i, i < 5 → NV N u f (a + 5 * i) ∧ (u ≤ i → ∀ p, p < 5 → f (a + 5 * i + p) = nI 0)
def SI (N : Nat) (S : XM) (u w : Nat) : Prop := MW S u w ∧ (∀ v, v < w → NR N u (S m_row) (30 * v)) ∧ (∀ v, v < w → ∀ k, k ≤ 5 → S m_keptOf v = nI k → ∀ q, q < k → NR N u (S m_keptRow) (150 * v + 30 * q)) ∧ (∀ i, i < 5 → ∀ p, u ≤ p → p < 5 → S m_knownOf (5 * i + p) = nI 0 ∧ S m_signedOf (5 * i + p) = nI 0) ∧ (∀ i, i < 5 → ∀ z, z ≤ 4 → S m_lettersOf i = nI z → ∀ q, q < z → ∀ p, u ≤ p → p < 5 → S m_letter (20 * i + 5 * q + p) = nI 0) ∧ S oMod 2 = xsum (S m_doneOf) u
/-! five places against u -/
theorem vle_5u {u : Nat} {f g f' g' : Nat → Int32} (hu : u ≤ 5) (hf : ∀ p, p < 5 → f p = f' p) (hg : ∀ p, p < 5 → g p = g' p) (hz : ∀ p, u ≤ p → p < 5 → f' p = g' p) : vle 5 f g ↔ vle u f' g' := by
  constructor
  · intro h p hp
    rw [← hf p (by omega), ← hg p (by omega)]; exact h p (by omega)
  · intro h p hp
    rw [hf p hp, hg p hp]
    rcases Nat.lt_or_ge p u with q | q
    · exact h p q
    · rw [hz p q hp]; exact Int32.le_refl _
theorem rel_5u {u : Nat} {f g f' g' : Nat → Int32} (hu : u ≤ 5) (hf : ∀ p, p < 5 → f p = f' p) (hg : ∀ p, p < 5 → g p = g' p) (hz : ∀ p, u ≤ p → p < 5 → f' p = g' p) : rel 5 f g = rel u f' g' := by
  unfold rel
  rw [propext (vle_5u hu hf hg hz), propext (vle_5u hu hg hf (fun p q q2 => (hz p q q2).symm))]
/-- five vectors, u of them of u numbers, the rest zeros -/
def W5 (u : Nat) (V W : Nat → Nat → Int32) : Prop := 1 ≤ u ∧ u ≤ 5 ∧ (∀ i, i < 5 → ∀ p, p < 5 → V i p = W i p) ∧ ∀ i, i < 5 → ∀ p, p < 5 → ∃ c, c < 2 ^ 31 ∧ W i p = nI c ∧ (u ≤ p ∨ u ≤ i → c = 0)
theorem W5.z {u : Nat} {V W : Nat → Nat → Int32} (h : W5 u V W) {i p : Nat} (hi : i < 5) (hp : p < 5) (hz : u ≤ p ∨ u ≤ i) : W i p = nI 0 := by
  obtain ⟨c, -, q, q2⟩ := h.2.2.2 i hi p hp
  rw [q, q2 hz]
theorem W5.r {u : Nat} {V W : Nat → Nat → Int32} (h : W5 u V W) {i j : Nat} (hi : i < 5) (hj : j < 5) : rel 5 (V i) (V j) = rel u (W i) (W j) := rel_5u h.2.1 (h.2.2.1 i hi) (h.2.2.1 j hj) (fun p q q2 => (h.z hi q2 (Or.inl q)).trans (h.z hj q2 (Or.inl q)).symm)
theorem W5.l {u : Nat} {V W : Nat → Nat → Int32} (h : W5 u V W) {i j : Nat} (hi : i < 5) (hj : j < 5) : vle 5 (V i) (V j) ↔ vle u (W i) (W j) := vle_5u h.2.1 (h.2.2.1 i hi) (h.2.2.1 j hj) (fun p q q2 => (h.z hi q2 (Or.inl q)).trans (h.z hj q2 (Or.inl q)).symm)
theorem W5.pair {u : Nat} {V W : Nat → Nat → Int32} (h : W5 u V W) {i j : Nat} : (i < j ∧ j < 5 ∧ rel 5 (V i) (V j) = 2) ↔ (i < j ∧ j < u ∧ rel u (W i) (W j) = 2) := by
  constructor
  · rintro ⟨h1, h2, h3⟩
    rw [h.r (by omega) h2] at h3
    refine ⟨h1, ?_, h3⟩
    rcases Nat.lt_or_ge j u with q | q
    · exact q
    · refine absurd (fun p hp => ?_) (rel_2.mp h3).2
      have hu := h.2.1
      rw [h.z h2 (by omega) (Or.inr q)]
      obtain ⟨c, hc, e, -⟩ := h.2.2.2 i (by omega) p (by omega)
      rw [e]
      exact nI_le (Nat.zero_le _) hc
  · rintro ⟨h1, h2, h3⟩
    have hu := h.2.1
    exact ⟨h1, by omega, by rw [h.r (by omega) (by omega)]; exact h3⟩
theorem W5.f {u : Nat} {V W : Nat → Nat → Int32} (h : W5 u V W) : fkd 5 5 V ↔ fkd u u W := ⟨fun ⟨i, j, q⟩ => ⟨i, j, h.pair.mp q⟩, fun ⟨i, j, q⟩ => ⟨i, j, h.pair.mpr q⟩⟩
theorem W5.t {u : Nat} {V W : Nat → Nat → Int32} (h : W5 u V W) {i j : Nat} : fstP 5 5 V i j ↔ fstP u u W i j := by
  constructor
  · rintro ⟨a, c, d, e⟩
    obtain ⟨a', c', d'⟩ := h.pair.mp ⟨a, c, d⟩
    exact ⟨a', c', d', fun i' j' q1 q2 q3 => by obtain ⟨r1, r2, r3⟩ := h.pair.mpr ⟨q1, q2, q3⟩; exact e i' j' r1 r2 r3⟩
  · rintro ⟨a, c, d, e⟩
    obtain ⟨a', c', d'⟩ := h.pair.mpr ⟨a, c, d⟩
    exact ⟨a', c', d', fun i' j' q1 q2 q3 => by obtain ⟨r1, r2, r3⟩ := h.pair.mp ⟨q1, q2, q3⟩; exact e i' j' r1 r2 r3⟩
theorem gix_congr {le le' : Nat → Nat → Prop} : ∀ {n : Nat}, (∀ a c, a ≤ n → c ≤ n → (le a c ↔ le' a c)) → gix le n = gix le' n
  | 0, _ => rfl
  | n + 1, h => by
    have h1 := gix_congr (n := n) (fun a c ha hc => h a c (by omega) (by omega))
    have hg := gix_le le' n
    by_cases q : le' (gix le' n) (n + 1)
    · rw [gix_t q, gix_t (by rw [h1]; exact (h _ _ (by omega) (by omega)).mpr q)]
    · rw [gix_f q, gix_f (by rw [h1]; exact fun z => q ((h _ _ (by omega) (by omega)).mp z)), h1]
theorem W5.g {u : Nat} {V W : Nat → Nat → Int32} (h : W5 u V W) : ∀ p, p < 5 → V (gix (fun a c => vle 5 (V a) (V c)) 4) p = W (gix (fun a c => vle u (W a) (W c)) (u - 1)) p := by
  have hu1 := h.1
  have hu5 := h.2.1
  have e1 : gix (fun a c => vle 5 (V a) (V c)) 4 = gix (fun a c => vle u (W a) (W c)) 4 := gix_congr (fun a c ha hc => h.l (by omega) (by omega))
  have hs : ∀ k, k ≤ 4 → u - 1 ≤ k → ∀ p, p < 5 → W (gix (fun a c => vle u (W a) (W c)) k) p = W (gix (fun a c => vle u (W a) (W c)) (u - 1)) p := by
    intro k
    induction k with
    | zero => intro _ h2 p _; rw [show u - 1 = 0 by omega]
    | succ k ih =>
      intro h1 h2 p hp
      rcases Nat.lt_or_ge k (u - 1) with q | q
      · rw [show k + 1 = u - 1 by omega]
      · have hg := gix_le (fun a c => vle u (W a) (W c)) k
        rw [← ih (by omega) q p hp]
        by_cases z : vle u (W (gix (fun a c => vle u (W a) (W c)) k)) (W (k + 1))
        · rw [gix_t (le := fun a c => vle u (W a) (W c)) z, h.z (i := k + 1) (by omega) hp (Or.inr (by omega))]
          rcases Nat.lt_or_ge p u with y | y
          · have h3 := z p y
            rw [h.z (i := k + 1) (by omega) hp (Or.inr (by omega))] at h3
            obtain ⟨c, hc, e, -⟩ := h.2.2.2 (gix (fun a c => vle u (W a) (W c)) k) (by omega) p hp
            rw [e] at h3 ⊢
            have := (nI_leI hc (by decide)).mp h3
            rw [show c = 0 by omega]
          · rw [h.z (by omega) hp (Or.inl y)]
        · rw [gix_f (le := fun a c => vle u (W a) (W c)) z]
  intro p hp
  have hg := gix_le (fun a c => vle u (W a) (W c)) 4
  rw [e1, h.2.2.1 _ (by omega) p hp, hs 4 (by omega) (by omega) p hp]
theorem SI.w5 {N : Nat} {σ S : XM} {u w v : Nat} (h : SI N S u w) (hN : N < 2 ^ 31) (hR : RR σ S u w) (hv : v < w) : W5 u (xve σ (oEnt (oVw v))) (rV S v) := by
  have hu := h.1.1
  refine ⟨by have := hu.2; omega, by have := hu.2; omega, fun i hi p hp => ((hR.2.2.2.1 v hv).1 i hi).1 p hp, fun i hi p hp => ?_⟩
  obtain ⟨c, h1, h2, h3⟩ := (h.2.1 v hv i hi).1 p hp
  rcases Nat.lt_or_ge i u with q | q
  · exact ⟨c, by omega, h2, fun z => h3 (by omega)⟩
  · exact ⟨0, by decide, (h.2.1 v hv i hi).2 q p hp, fun _ => rfl⟩
theorem SI.kk {N : Nat} {σ S : XM} {u w i j : Nat} (h : SI N S u w) (hR : RR σ S u w) (hi : i < 5) (hj : j < 5) : rel 5 (σ (oNum (oKno (oMem i)))) (σ (oNum (oKno (oMem j)))) = rel u (rK S i) (rK S j) := by
  have hu := h.1.1
  exact rel_5u (by have := hu.2; omega) (fun p hp => (hR.2.2.1 i hi).2.1 p hp) (fun p hp => (hR.2.2.1 j hj).2.1 p hp) (fun p q q2 => ((h.2.2.2.1 i hi p q q2).1).trans ((h.2.2.2.1 j hj p q q2).1).symm)
theorem SI.gg {N : Nat} {σ S : XM} {u w i j : Nat} (h : SI N S u w) (hR : RR σ S u w) (hi : i < 5) (hj : j < 5) : rel 5 (σ (oNum (oSig (oMem i)))) (σ (oNum (oSig (oMem j)))) = rel u (rG S i) (rG S j) := by
  have hu := h.1.1
  exact rel_5u (by have := hu.2; omega) (fun p hp => (hR.2.2.1 i hi).2.2.1 p hp) (fun p hp => (hR.2.2.1 j hj).2.2.1 p hp) (fun p q q2 => ((h.2.2.2.1 i hi p q q2).2).trans ((h.2.2.2.1 j hj p q q2).2).symm)
theorem SI.up {N M : Nat} {S : XM} {u w : Nat} (h : SI N S u w) (hm : N ≤ M) : SI M S u w :=
  ⟨h.1, fun v hv i hi => ⟨fun p hp => by obtain ⟨c, c1, c2⟩ := (h.2.1 v hv i hi).1 p hp; exact ⟨c, by omega, c2⟩, (h.2.1 v hv i hi).2⟩, fun v hv k hk e q hq i hi => ⟨fun p hp => by obtain ⟨c, c1, c2⟩ := (h.2.2.1 v hv k hk e q hq i hi).1 p hp; exact ⟨c, by omega, c2⟩, (h.2.2.1 v hv k hk e q hq i hi).2⟩, h.2.2.2⟩
