/-! ===== letters, proofs, the text on both sides ===== -/
theorem RX_put {f : Nat → Int32} {g : Nat → Nat → Int32} {S : XM} {j z : Nat} {k l0 : Nat → Int32} (h : RX f g S j) (hz : S m_lettersOf j = nI z) (hz4 : z < 4) (hk : ∀ p, p < 5 → k p = l0 p) {f' : Nat → Int32} {g' : Nat → Nat → Int32} {T : XM} (e1 : f' 1 = nI (z + 1)) (e2 : ∀ q, q < z → g' q = g q) (e3 : g' z = k) (e4 : T m_lettersOf = upd (S m_lettersOf) j (nI (z + 1))) (e5 : T m_letter = cpy 5 (S m_letter) (20 * j + 5 * z) l0) : RX f' g' T j := by
  refine ⟨by rw [e1, e4, upd_s], fun y hy ey q hq p hp => ?_⟩
  rw [e4, upd_s] at ey
  obtain rfl := nI_inj (by omega) (by omega) ey
  rcases Nat.lt_or_ge q z with a | a
  · rw [e2 q a, e5, cpy_out (by omega)]
    exact h.2 z (by omega) hz q a p hp
  · obtain rfl : q = z := by omega
    rw [e3, e5, cpy_in hp]
    exact hk p hp
theorem R_put {σ S T : XM} {u w j z : Nat} {k l0 : Nat → Int32} (h : RR σ S u w) (hw : w ≤ 6) (hj : j < 5) (hz : S m_lettersOf j = nI z) (hz4 : z < 4) (hk : ∀ p, p < 5 → k p = l0 p) (e4 : T m_lettersOf = upd (S m_lettersOf) j (nI (z + 1))) (e5 : T m_letter = cpy 5 (S m_letter) (20 * j + 5 * z) l0) (e6 : ∀ o, o ≠ m_lettersOf → o ≠ m_letter → T o = S o) : RR (sw (su σ (oNum (oLet (oLts (oBox (oMem j))) z)) k) (oBox (oMem j)) 1 (nI (z + 1))) T u w := by
  obtain ⟨a1, a2, a3, a4, a5⟩ := h.2.2.1 j hj
  refine h.mem hj (fun o _ o2 => by rw [sw_n (by simp only [oNum, oKno, oSig, oPro, oFst, oSnd, oBox, oLet, oLts, oMem, oVw, oEnt, oBef, oBk, oVs, oVec, oCon] at * <;> omega), su_n (by simp only [oNum, oKno, oSig, oPro, oFst, oSnd, oBox, oLet, oLts, oMem, oVw, oEnt, oBef, oBk, oVs, oVec, oCon] at * <;> omega)]) ⟨?_, ?_, ?_, ?_, ?_⟩ (fun i _ hi => ⟨⟨by rw [e6 _ (by decide) (by decide)], by rw [e6 _ (by decide) (by decide)], by rw [e6 _ (by decide) (by decide)], by rw [e6 _ (by decide) (by decide)], by rw [e6 _ (by decide) (by decide)], by rw [e6 _ (by decide) (by decide)], by rw [e6 _ (by decide) (by decide)]⟩, fun p _ => by rw [e6 _ (by decide) (by decide)], fun p _ => by rw [e6 _ (by decide) (by decide)], ⟨by rw [e6 _ (by decide) (by decide)], by rw [e6 _ (by decide) (by decide)], fun p _ => by rw [e6 _ (by decide) (by decide)]⟩, by rw [e4, upd_n hi], fun p hp => by rw [e5, cpy_out (by rcases Nat.lt_or_ge i j with q | q <;> omega)]⟩) (fun o o1 o2 => e6 o (by simp only [m_lettersOf]; omega) (by simp only [m_letter]; omega)) (by rw [e6 oMod (by decide) (by decide)]) (e6 _ (by decide) (by decide)) hw
  · unfold RA
    rw [sw_n (by first | (simp only [oNum, oKno, oSig, oPro, oFst, oSnd, oBox, oLet, oLts, oMem, oVw, oEnt, oBef, oBk, oVs, oVec, oCon] <;> omega) | omega | decide), su_n (by first | (simp only [oNum, oKno, oSig, oPro, oFst, oSnd, oBox, oLet, oLts, oMem, oVw, oEnt, oBef, oBk, oVs, oVec, oCon] <;> omega) | omega | decide), e6 m_viewOf (by decide) (by decide), e6 m_alarmOf (by decide) (by decide), e6 m_doneOf (by decide) (by decide), e6 m_shownTo (by decide) (by decide), e6 m_sentBy (by decide) (by decide), e6 m_hasRead (by decide) (by decide), e6 m_readOf (by decide) (by decide)]; exact a1
  · rw [sw_n (by first | (simp only [oNum, oKno, oSig, oPro, oFst, oSnd, oBox, oLet, oLts, oMem, oVw, oEnt, oBef, oBk, oVs, oVec, oCon] <;> omega) | omega | decide), su_n (by first | (simp only [oNum, oKno, oSig, oPro, oFst, oSnd, oBox, oLet, oLts, oMem, oVw, oEnt, oBef, oBk, oVs, oVec, oCon] <;> omega) | omega | decide), e6 m_knownOf (by decide) (by decide)]; exact a2
  · rw [sw_n (by first | (simp only [oNum, oKno, oSig, oPro, oFst, oSnd, oBox, oLet, oLts, oMem, oVw, oEnt, oBef, oBk, oVs, oVec, oCon] <;> omega) | omega | decide), su_n (by first | (simp only [oNum, oKno, oSig, oPro, oFst, oSnd, oBox, oLet, oLts, oMem, oVw, oEnt, oBef, oBk, oVs, oVec, oCon] <;> omega) | omega | decide), e6 m_signedOf (by decide) (by decide)]; exact a3
  · unfold RP
    rw [sw_n (q := oPro (oMem j)) (by first | (simp only [oNum, oKno, oSig, oPro, oFst, oSnd, oBox, oLet, oLts, oMem, oVw, oEnt, oBef, oBk, oVs, oVec, oCon] <;> omega) | omega | decide), su_n (q := oPro (oMem j)) (by first | (simp only [oNum, oKno, oSig, oPro, oFst, oSnd, oBox, oLet, oLts, oMem, oVw, oEnt, oBef, oBk, oVs, oVec, oCon] <;> omega) | omega | decide), sw_n (q := oNum (oFst (oPro (oMem j)))) (by first | (simp only [oNum, oKno, oSig, oPro, oFst, oSnd, oBox, oLet, oLts, oMem, oVw, oEnt, oBef, oBk, oVs, oVec, oCon] <;> omega) | omega | decide), su_n (q := oNum (oFst (oPro (oMem j)))) (by first | (simp only [oNum, oKno, oSig, oPro, oFst, oSnd, oBox, oLet, oLts, oMem, oVw, oEnt, oBef, oBk, oVs, oVec, oCon] <;> omega) | omega | decide), sw_n (q := oNum (oSnd (oPro (oMem j)))) (by first | (simp only [oNum, oKno, oSig, oPro, oFst, oSnd, oBox, oLet, oLts, oMem, oVw, oEnt, oBef, oBk, oVs, oVec, oCon] <;> omega) | omega | decide), su_n (q := oNum (oSnd (oPro (oMem j)))) (by first | (simp only [oNum, oKno, oSig, oPro, oFst, oSnd, oBox, oLet, oLts, oMem, oVw, oEnt, oBef, oBk, oVs, oVec, oCon] <;> omega) | omega | decide), e6 m_hasProof (by decide) (by decide), e6 m_depthOf (by decide) (by decide), e6 m_proofOf (by decide) (by decide)]; exact a4
  · refine RX_put a5 hz hz4 hk sw_s (fun q hq => ?_) ?_ e4 e5
    · show sw _ _ _ _ (oNum (oLet (oLts (oBox (oMem j))) q)) = _
      rw [sw_n (by first | (simp only [oNum, oKno, oSig, oPro, oFst, oSnd, oBox, oLet, oLts, oMem, oVw, oEnt, oBef, oBk, oVs, oVec, oCon] <;> omega) | omega | decide), su_n (by first | (simp only [oNum, oKno, oSig, oPro, oFst, oSnd, oBox, oLet, oLts, oMem, oVw, oEnt, oBef, oBk, oVs, oVec, oCon] <;> omega) | omega | decide)]
    · show sw _ _ _ _ (oNum (oLet (oLts (oBox (oMem j))) z)) = _
      rw [sw_n (by first | (simp only [oNum, oKno, oSig, oPro, oFst, oSnd, oBox, oLet, oLts, oMem, oVw, oEnt, oBef, oBk, oVs, oVec, oCon] <;> omega) | omega | decide), su_s]
/-- the first letter is dropped -/
theorem R_drop {σ τ S T : XM} {u w i z : Nat} (h : RR σ S u w) (hw : w ≤ 6) (hi : i < 5) (hz : S m_lettersOf i = nI z) (hz0 : z ≠ 0) (hz4 : z ≤ 4) (k1 : τ (oBox (oMem i)) 1 = nI (z - 1)) (k2 : ∀ j, j < z - 1 → ∀ k, k < 5 → τ (oNum (oLet (oLts (oBox (oMem i))) j)) k = σ (oNum (oLet (oLts (oBox (oMem i))) (j + 1))) k) (k3 : ∀ q, q ≠ oBox (oMem i) → (∀ j, j < 4 → q ≠ oNum (oLet (oLts (oBox (oMem i))) j)) → τ q = σ q) (e4 : T m_lettersOf = upd (S m_lettersOf) i (nI (z - 1))) (e5 : T m_letter = cpy (5 * (z - 1)) (S m_letter) (20 * i) (sl (S m_letter) (20 * i + 5))) (e6 : ∀ o, o ≠ m_hand → o ≠ m_lettersOf → o ≠ m_letter → T o = S o) : RR τ T u w := by
  obtain ⟨a1, a2, a3, a4, a5⟩ := h.2.2.1 i hi
  have e7 : ∀ o, o ≠ m_hand ∧ o ≠ m_lettersOf ∧ o ≠ m_letter → T o = S o := fun o q => e6 o q.1 q.2.1 q.2.2
  refine h.mem hi (fun o _ o2 => k3 o (by simp only [oNum, oKno, oSig, oPro, oFst, oSnd, oBox, oLet, oLts, oMem, oVw, oEnt, oBef, oBk, oVs, oVec, oCon] at * <;> omega) (fun j hj => (by simp only [oNum, oKno, oSig, oPro, oFst, oSnd, oBox, oLet, oLts, oMem, oVw, oEnt, oBef, oBk, oVs, oVec, oCon] at * <;> omega))) ⟨?_, ?_, ?_, ?_, ?_⟩ (fun j _ hj => ⟨⟨by rw [e7 _ (by decide)], by rw [e7 _ (by decide)], by rw [e7 _ (by decide)], by rw [e7 _ (by decide)], by rw [e7 _ (by decide)], by rw [e7 _ (by decide)], by rw [e7 _ (by decide)]⟩, fun p _ => by rw [e7 _ (by decide)], fun p _ => by rw [e7 _ (by decide)], ⟨by rw [e7 _ (by decide)], by rw [e7 _ (by decide)], fun p _ => by rw [e7 _ (by decide)]⟩, by rw [e4, upd_n hj], fun p hp => by rw [e5, cpy_out (by rcases Nat.lt_or_ge i j with q | q <;> omega)]⟩) (fun o o1 o2 => e6 o (by simp only [m_hand]; omega) (by simp only [m_lettersOf]; omega) (by simp only [m_letter]; omega)) (by rw [e7 oMod (by decide)]) (e7 _ (by decide)) hw
  · unfold RA
    rw [k3 _ (by first | (simp only [oNum, oKno, oSig, oPro, oFst, oSnd, oBox, oLet, oLts, oMem, oVw, oEnt, oBef, oBk, oVs, oVec, oCon] <;> omega) | omega | decide) (fun j hj => (by first | (simp only [oNum, oKno, oSig, oPro, oFst, oSnd, oBox, oLet, oLts, oMem, oVw, oEnt, oBef, oBk, oVs, oVec, oCon] <;> omega) | omega | decide)), e7 m_viewOf (by decide), e7 m_alarmOf (by decide), e7 m_doneOf (by decide), e7 m_shownTo (by decide), e7 m_sentBy (by decide), e7 m_hasRead (by decide), e7 m_readOf (by decide)]; exact a1
  · rw [k3 _ (by first | (simp only [oNum, oKno, oSig, oPro, oFst, oSnd, oBox, oLet, oLts, oMem, oVw, oEnt, oBef, oBk, oVs, oVec, oCon] <;> omega) | omega | decide) (fun j hj => (by first | (simp only [oNum, oKno, oSig, oPro, oFst, oSnd, oBox, oLet, oLts, oMem, oVw, oEnt, oBef, oBk, oVs, oVec, oCon] <;> omega) | omega | decide)), e7 m_knownOf (by decide)]; exact a2
  · rw [k3 _ (by first | (simp only [oNum, oKno, oSig, oPro, oFst, oSnd, oBox, oLet, oLts, oMem, oVw, oEnt, oBef, oBk, oVs, oVec, oCon] <;> omega) | omega | decide) (fun j hj => (by first | (simp only [oNum, oKno, oSig, oPro, oFst, oSnd, oBox, oLet, oLts, oMem, oVw, oEnt, oBef, oBk, oVs, oVec, oCon] <;> omega) | omega | decide)), e7 m_signedOf (by decide)]; exact a3
  · unfold RP
    rw [k3 (oPro (oMem i)) (by first | (simp only [oNum, oKno, oSig, oPro, oFst, oSnd, oBox, oLet, oLts, oMem, oVw, oEnt, oBef, oBk, oVs, oVec, oCon] <;> omega) | omega | decide) (fun j hj => (by first | (simp only [oNum, oKno, oSig, oPro, oFst, oSnd, oBox, oLet, oLts, oMem, oVw, oEnt, oBef, oBk, oVs, oVec, oCon] <;> omega) | omega | decide)), k3 (oNum (oFst (oPro (oMem i)))) (by first | (simp only [oNum, oKno, oSig, oPro, oFst, oSnd, oBox, oLet, oLts, oMem, oVw, oEnt, oBef, oBk, oVs, oVec, oCon] <;> omega) | omega | decide) (fun j hj => (by first | (simp only [oNum, oKno, oSig, oPro, oFst, oSnd, oBox, oLet, oLts, oMem, oVw, oEnt, oBef, oBk, oVs, oVec, oCon] <;> omega) | omega | decide)), k3 (oNum (oSnd (oPro (oMem i)))) (by first | (simp only [oNum, oKno, oSig, oPro, oFst, oSnd, oBox, oLet, oLts, oMem, oVw, oEnt, oBef, oBk, oVs, oVec, oCon] <;> omega) | omega | decide) (fun j hj => (by first | (simp only [oNum, oKno, oSig, oPro, oFst, oSnd, oBox, oLet, oLts, oMem, oVw, oEnt, oBef, oBk, oVs, oVec, oCon] <;> omega) | omega | decide)), e7 m_hasProof (by decide), e7 m_depthOf (by decide), e7 m_proofOf (by decide)]; exact a4
  · refine ⟨by rw [k1, e4, upd_s], fun y hy ey q hq p hp => ?_⟩
    rw [e4, upd_s] at ey
    obtain rfl := nI_inj (by omega) (by omega) ey
    show τ (oNum (oLet (oLts (oBox (oMem i))) q)) p = _
    rw [k2 q hq p hp, e5, Nat.add_assoc, cpy_in (by omega)]
    have := a5.2 z hz4 hz (q + 1) (by omega) p hp
    refine this.trans ?_
    show S m_letter _ = S m_letter _
    congr 1; omega
theorem mKeep_par {S S' T T' : XM} {i : Nat} {d : Int32} {f1 f2 : Nat → Int32} (h : mKeep S i d f1 f2 T) (h' : mKeep S' i d f1 f2 T') (e1 : S' m_hasProof = S m_hasProof) (e2 : S' m_depthOf = S m_depthOf) (e3 : S' m_proofOf = S m_proofOf) {o : Nat} (eo : S' o = S o) : T' o = T o := by
  rcases h with ⟨a, rfl⟩ | ⟨a, rfl⟩ <;> rcases h' with ⟨a', rfl⟩ | ⟨a', rfl⟩
  · exact eo
  · rw [e1] at a'; exact absurd a' a
  · rw [e1] at a'; exact absurd a a'
  · by_cases q3 : o = m_proofOf
    · subst q3; rw [su_s, su_s, e3]
    · rw [su_n q3, su_n q3]
      by_cases q2 : o = m_depthOf
      · subst q2; rw [sw_o, sw_o, sw_n (by decide), sw_n (by decide), e2]
      · rw [sw_n q2, sw_n q2]
        by_cases q1 : o = m_hasProof
        · subst q1; rw [sw_o, sw_o, e1]
        · rw [sw_n q1, sw_n q1]; exact eo
theorem R_type {σ S : XM} {u w t : Nat} {x : Int32} (h : RR σ S u w) (hw : w ≤ 6) (ht : S oMod 23 = nI t) (ht6 : t < 60) : RR (sw (sw σ oSgn t x) oScr 1 (nI (t + 1))) (sw (sw S m_text t x) oMod 23 (nI (t + 1))) u w := by
  have hF : ∀ o, (o < 3 ∨ 5 ≤ o) → sw (sw σ oSgn t x) oScr 1 (nI (t + 1)) o = σ o := fun o ho => by rw [sw_n (by simp only [oScr]; omega), sw_n (by simp only [oSgn]; omega)]
  have hT : ∀ o, o ≠ oMod → o ≠ m_text → sw (sw S m_text t x) oMod 23 (nI (t + 1)) o = S o := fun o o1 o2 => by rw [sw_n o1, sw_n o2]
  refine ⟨by rw [hF 0 (by omega)]; exact h.1, by rw [hF 0 (by omega)]; exact h.2.1, fun i hi => (h.2.2.1 i hi).of (fun o o1 o2 => hF o (by simp only [oMem] at o1; omega)) (MS.arr (fun o o1 o2 => hT o (by simp only [oMod]; omega) (by simp only [m_text]; omega)) i), fun v hv => (h.2.2.2.1 v hv).of (fun o o1 o2 => hF o (by simp only [oVw] at o1; omega)) (VS.arr (fun o o1 o2 => hT o (by simp only [oMod]; omega) (by simp only [m_text]; omega)) v), by rw [sw_s, sw_s], fun y hy ey j hj => ?_⟩
  rw [sw_s] at ey
  obtain rfl := nI_inj (by omega) (by omega) ey
  rw [sw_n (q := oSgn) (o := oScr) (by decide), sw_n (q := m_text) (o := oMod) (by decide)]
  by_cases q : j = t
  · subst q; rw [sw_s, sw_s]
  · rw [sw_k q, sw_k q]
    exact h.2.2.2.2.2 t (by omega) ht j (by omega)
theorem R_clr {σ S : XM} {u w : Nat} (h : RR σ S u w) (hw : w ≤ 6) : RR (sw σ oScr 1 (nI 0)) (sw S oMod 23 (nI 0)) u w := by
  have hF : ∀ o, (o < 3 ∨ 5 ≤ o) → sw σ oScr 1 (nI 0) o = σ o := fun o ho => by rw [sw_n (by simp only [oScr]; omega)]
  refine ⟨by rw [hF 0 (by omega)]; exact h.1, by rw [hF 0 (by omega)]; exact h.2.1, fun i hi => (h.2.2.1 i hi).of (fun o o1 o2 => hF o (by simp only [oMem] at o1; omega)) (MS.arr (fun o o1 o2 => sw_n (by simp only [oMod]; omega)) i), fun v hv => (h.2.2.2.1 v hv).of (fun o o1 o2 => hF o (by simp only [oVw] at o1; omega)) (VS.arr (fun o o1 o2 => sw_n (by simp only [oMod]; omega)) v), by rw [sw_s, sw_s], fun y hy ey j hj => ?_⟩
  rw [sw_s] at ey
  obtain rfl := nI_inj (by omega) (by omega) ey
  exact absurd hj (Nat.not_lt_zero _)
theorem SI.lk {N : Nat} {σ S : XM} {u w i z : Nat} (h : SI N S u w) (hR : RR σ S u w) (hi : i < 5) (hz : S m_lettersOf i = nI z) (hz0 : z ≠ 0) (hz4 : z ≤ 4) : (vle 5 (σ (oNum (oLet (oLts (oBox (oMem i))) 0))) (σ (oNum (oKno (oMem i)))) ↔ vle u (sl (S m_letter) (20 * i)) (rK S i)) ∧ (vle 5 (σ (oNum (oKno (oMem i)))) (σ (oNum (oLet (oLts (oBox (oMem i))) 0))) ↔ vle u (rK S i) (sl (S m_letter) (20 * i))) ∧ ∀ p, p < 5 → σ (oNum (oLet (oLts (oBox (oMem i))) 0)) p = sl (S m_letter) (20 * i) p := by
  have hu := h.1.1.2
  have h1 : ∀ p, p < 5 → σ (oNum (oLet (oLts (oBox (oMem i))) 0)) p = sl (S m_letter) (20 * i) p := fun p hp => (hR.2.2.1 i hi).2.2.2.2.2 z hz4 hz 0 (by omega) p hp
  have h2 : ∀ p, p < 5 → σ (oNum (oKno (oMem i))) p = rK S i p := fun p hp => (hR.2.2.1 i hi).2.1 p hp
  have h3 : ∀ p, u ≤ p → p < 5 → sl (S m_letter) (20 * i) p = rK S i p := fun p q q2 => (h.2.2.2.2.1 i hi z hz4 hz 0 (by omega) p q q2).trans (h.2.2.2.1 i hi p q q2).1.symm
  exact ⟨vle_5u (by omega) h1 h2 h3, vle_5u (by omega) h2 h1 (fun p q q2 => (h3 p q q2).symm), h1⟩
