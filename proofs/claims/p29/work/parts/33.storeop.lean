theorem al_same {S T : XM} {u v i : Nat} (h1 : T m_row = S m_row) (h2 : T m_signedOf = S m_signedOf) (h3 : T m_knownOf = S m_knownOf) : al T u v i = al S u v i ∧ rV T v = rV S v ∧ rK T i = rK S i ∧ bst T u v = bst S u v := by
  have e1 : rV T v = rV S v := by funext a; show sl (T m_row) _ = sl (S m_row) _; rw [h1]
  have e2 : rG T i = rG S i := by show sl (T m_signedOf) _ = sl (S m_signedOf) _; rw [h2]
  have e3 : rK T i = rK S i := by show sl (T m_knownOf) _ = sl (S m_knownOf) _; rw [h3]
  have e4 : bst T u v = bst S u v := by unfold bst; rw [e1]
  refine ⟨?_, e1, e3, e4⟩
  rcases al_cases S u v i with ⟨e, q⟩ | ⟨q, ⟨e, q2⟩ | ⟨q2, ⟨e, q3⟩ | ⟨e, q3⟩⟩⟩
  · rw [e]; exact al_1 (by rw [e1, e2]; exact q)
  · rw [e]; exact al_2 (by rw [e1, e2]; exact q) (by rw [e1]; exact q2)
  · rw [e]; exact al_0 (by rw [e1, e2]; exact q) (by rw [e1]; exact q2) (by rw [e1, e3, e4]; exact q3)
  · rw [e]; exact al_3 (by rw [e1, e2]; exact q) (by rw [e1]; exact q2) (by rw [e1, e3, e4]; exact q3)
theorem al_lt (S : XM) (u v i : Nat) : al S u v i < 4 := by rcases al_cases S u v i with ⟨q, -⟩ | ⟨-, ⟨q, -⟩ | ⟨-, ⟨q, -⟩ | ⟨q, -⟩⟩⟩ <;> omega
theorem SI.al5 {N : Nat} {S : XM} {u w i a : Nat} (h : SI N S u w) (ha : a ≤ 5) : SI N (sw S m_alarmOf i (nI a)) u w := by
  refine ⟨h.1.keep (fun k _ => by rw [sw_n (by decide)]) (fun _ _ => Or.inl (by rw [sw_n (by decide)])) (fun _ _ => Or.inl (by rw [sw_n (by decide)])) (fun _ _ => Or.inl (by rw [sw_n (by decide)])) (fun j _ => by rw [sw_o]; exact upd_or ha j), ?_, ?_, ?_, ?_, ?_⟩
  · rw [sw_n (by decide)]; exact h.2.1
  · rw [sw_n (q := m_keptOf) (by decide), sw_n (q := m_keptRow) (by decide)]; exact h.2.2.1
  · rw [sw_n (q := m_knownOf) (by decide), sw_n (q := m_signedOf) (by decide)]; exact h.2.2.2.1
  · rw [sw_n (q := m_lettersOf) (by decide), sw_n (q := m_letter) (by decide)]; exact h.2.2.2.2.1
  · rw [sw_n (q := oMod) (by decide), sw_n (q := m_doneOf) (by decide)]; exact h.2.2.2.2.2
theorem fstP_uni {n w : Nat} {V : Nat → Nat → Int32} {a c a' c' : Nat} (h : fstP n w V a c) (h' : fstP n w V a' c') : a = a' ∧ c = c' := by
  obtain ⟨h1, h2, h3, h4⟩ := h
  obtain ⟨g1, g2, g3, g4⟩ := h'
  have := h4 a' c' g1 g2 g3
  have := g4 a c h1 h2 h3
  omega
/-- an operation that raises an alarm -/
theorem R_fail {σ τ S T1 T : XM} {N u w v i x : Nat} (hS : SI N S u w) (hN : N + 1 < 2 ^ 31) (hR : RR σ S u w) (hi : i < u) (hv : v < w) (hp : Sp S T1) (hm : mRaise T1 u v i x T)
    (hc : (x = 1 ∧ τ = sw σ (oMem i) 5 (nI x)) ∨ (x = 2 ∧ ((∃ a c, fstP 5 5 (xve (sw σ (oMem i) 5 (nI x)) (oEnt (oVw v))) a c ∧ xKeep (sw σ (oMem i) 5 (nI x)) (oPro (oMem i)) (nI 0) (xve (sw σ (oMem i) 5 (nI x)) (oEnt (oVw v)) a) (xve (sw σ (oMem i) 5 (nI x)) (oEnt (oVw v)) c) τ) ∨ (¬ fkd 5 5 (xve (sw σ (oMem i) 5 (nI x)) (oEnt (oVw v))) ∧ τ = sw σ (oMem i) 5 (nI x)))) ∨
      (x = 3 ∧ ((rel 5 (sw σ (oMem i) 5 (nI x) (oNum (oKno (oMem i)))) (xve (sw σ (oMem i) 5 (nI x)) (oEnt (oVw v)) (gix (fun a c => vle 5 (xve (sw σ (oMem i) 5 (nI x)) (oEnt (oVw v)) a) (xve (sw σ (oMem i) 5 (nI x)) (oEnt (oVw v)) c)) 4)) = 2 ∧ xKeep (sw σ (oMem i) 5 (nI x)) (oPro (oMem i)) (nI 0) (sw σ (oMem i) 5 (nI x) (oNum (oKno (oMem i)))) (xve (sw σ (oMem i) 5 (nI x)) (oEnt (oVw v)) (gix (fun a c => vle 5 (xve (sw σ (oMem i) 5 (nI x)) (oEnt (oVw v)) a) (xve (sw σ (oMem i) 5 (nI x)) (oEnt (oVw v)) c)) 4)) τ) ∨
        (rel 5 (sw σ (oMem i) 5 (nI x) (oNum (oKno (oMem i)))) (xve (sw σ (oMem i) 5 (nI x)) (oEnt (oVw v)) (gix (fun a c => vle 5 (xve (sw σ (oMem i) 5 (nI x)) (oEnt (oVw v)) a) (xve (sw σ (oMem i) 5 (nI x)) (oEnt (oVw v)) c)) 4)) ≠ 2 ∧ τ = sw σ (oMem i) 5 (nI x))))) : RR τ T u w := by
  have hu := hS.1.1.2
  have hw := hS.1.2.1.2
  have hx5 : x ≤ 5 := by omega
  have hR1 : RR (sw σ (oMem i) 5 (nI x)) (sw T1 m_alarmOf i (nI x)) u w := R_al (hR.sp hp) (by omega) (by omega)
  have hS1 : SI N (sw T1 m_alarmOf i (nI x)) u w := (hS.sp hp).al5 hx5
  generalize sw σ (oMem i) 5 (nI x) = σ' at *
  have e1 : (sw T1 m_alarmOf i (nI x)) m_row = T1 m_row := sw_n (by decide)
  have e2 : (sw T1 m_alarmOf i (nI x)) m_signedOf = T1 m_signedOf := sw_n (by decide)
  have e3 : (sw T1 m_alarmOf i (nI x)) m_knownOf = T1 m_knownOf := sw_n (by decide)
  obtain ⟨-, q1, q2, q3⟩ := al_same (u := u) (v := v) (i := i) e1 e2 e3
  rcases hm with ⟨rfl, rfl⟩ | ⟨rfl, a, c, m1, m2⟩ | ⟨rfl, T2, m1, m2⟩
  · rcases hc with ⟨-, rfl⟩ | ⟨z, -⟩ | ⟨z, -⟩
    · exact hR1
    · exact absurd z (by decide)
    · exact absurd z (by decide)
  · have hW := hS1.w5 (by omega) hR1 hv
    rw [q1] at hW
    rcases hc with ⟨z, -⟩ | ⟨-, z⟩ | ⟨z, -⟩
    · exact absurd z (by decide)
    · rcases z with ⟨a', c', k1, k2⟩ | ⟨k1, -⟩
      · obtain ⟨rfl, rfl⟩ := fstP_uni (hW.t.mp k1) m1
        have h5 : a' < 5 ∧ c' < 5 := ⟨by have := k1.1; have := k1.2.1; omega, k1.2.1⟩
        exact R_keep hR1 (by omega) (by omega) k2 m2 (hW.2.2.1 _ h5.1) (hW.2.2.1 _ h5.2)
      · exact absurd (hW.f.mpr (fst_fkd m1)) k1
    · exact absurd z (by decide)
  · rcases hc with ⟨z, -⟩ | ⟨z, -⟩ | ⟨-, z⟩
    · exact absurd z (by decide)
    · exact absurd z (by decide)
    · have hR2 := hR1.sp m1
      have hS2 := hS1.sp m1
      have hk := hS2.rk (i := i) (by omega) hR2 hv (by omega)
      have hW := hS2.w5 (by omega) hR2 hv
      rw [m1.rK, m1.rV, m1.bst, q1, q2, q3] at hk
      have hg := hW.g
      have eb : gix (fun a c => vle u (rV T2 v a) (rV T2 v c)) (u - 1) = bst T2 u v := rfl
      rw [eb, m1.rV, m1.bst, q1, q3] at hg
      rcases m2 with ⟨n1, n2⟩ | ⟨n1, rfl⟩
      · rcases z with ⟨z1, z2⟩ | ⟨z1, -⟩
        · exact R_keep hR2 (by omega) (by omega) z2 n2 (fun p hp => by have := (hR2.2.2.1 i (by omega)).2.1 p hp; rw [this, ← q2, ← m1.rK]; rfl) hg
        · exact absurd (hk.trans n1) z1
      · rcases z with ⟨z1, -⟩ | ⟨-, rfl⟩
        · exact absurd (hk.symm.trans z1) n1
        · exact hR2
theorem oU_g {σ τ2 S : XM} {N u w v i : Nat} (hS : SI N S u w) (hN : N + 1 < 2 ^ 31) (hR : RR σ S u w) (hi : i < u) (hv : v < w) (h : ∀ q, oEnt (oVw v) ≤ q → q < oEnt (oVw v) + 13 → τ2 q = σ q) : ∀ p, p < 5 → (upd (xve τ2 (oEnt (oVw v)) (gix (fun a c => vle 5 (xve τ2 (oEnt (oVw v)) a) (xve τ2 (oEnt (oVw v)) c)) 4)) i ((xve τ2 (oEnt (oVw v)) (gix (fun a c => vle 5 (xve τ2 (oEnt (oVw v)) a) (xve τ2 (oEnt (oVw v)) c)) 4)) i + nI 1)) p = oU S u v i p := by
  have hu := hS.1.1.2
  have hW := hS.w5 (by omega) hR hv
  have e0 : ∀ a, a < 5 → xve τ2 (oEnt (oVw v)) a = xve σ (oEnt (oVw v)) a := fun a ha => h _ (by simp only [oNum, oVec, oVs]; omega) (by simp only [oNum, oVec, oVs]; omega)
  have e1 : gix (fun a c => vle 5 (xve τ2 (oEnt (oVw v)) a) (xve τ2 (oEnt (oVw v)) c)) 4 = gix (fun a c => vle 5 (xve σ (oEnt (oVw v)) a) (xve σ (oEnt (oVw v)) c)) 4 := gix_congr (fun a c ha hc => by rw [e0 a (by omega), e0 c (by omega)])
  have hg := gix_le (fun a c => vle 5 (xve σ (oEnt (oVw v)) a) (xve σ (oEnt (oVw v)) c)) 4
  intro p hp
  rw [e1, e0 _ (by omega)]
  have hgp := hW.g
  by_cases q : p = i
  · subst q
    unfold oU
    rw [upd_s, upd_s, hgp _ (by omega)]; rfl
  · unfold oU
    rw [upd_n q, upd_n q, hgp _ hp]; rfl
/-- an operation that raises none: the view remembers, the user signs -/
theorem R_ok {σ τ2 τ3 S T : XM} {N u w v i k x : Nat} (hS : SI N S u w) (hN : N + 1 < 2 ^ 31) (hR : RR σ S u w) (hi : i < u) (hv : v < w) (hk5 : k ≤ 5) (hk : S m_keptOf v = nI k) (hx5 : x < 5) (hring : ∀ q, q < k → EqR σ (oBk (oBef (oVw v)) ((x + 5 - k + q) % 5)) (S m_keptRow) (150 * v + 30 * q))
    (E1 : EqE τ2 (oBk (oBef (oVw v)) x) σ (oEnt (oVw v))) (E2 : τ2 (oVw v) 2 = nI (min (k + 1) 5)) (E3 : τ2 (oVw v) 3 = nI ((x + 1) % 5)) (E4 : ∀ q, q ≠ oVw v → (q < oBk (oBef (oVw v)) x ∨ oBk (oBef (oVw v)) x + 13 ≤ q) → τ2 q = σ q)
    (K1 : ∀ p, p < 5 → τ3 (oNum (oKno (oMem i))) p = (upd (xve τ2 (oEnt (oVw v)) (gix (fun a c => vle 5 (xve τ2 (oEnt (oVw v)) a) (xve τ2 (oEnt (oVw v)) c)) 4)) i ((xve τ2 (oEnt (oVw v)) (gix (fun a c => vle 5 (xve τ2 (oEnt (oVw v)) a) (xve τ2 (oEnt (oVw v)) c)) 4)) i + nI 1)) p) (K2 : ∀ p, p < 5 → τ3 (oNum (oSig (oMem i))) p = (upd (xve τ2 (oEnt (oVw v)) (gix (fun a c => vle 5 (xve τ2 (oEnt (oVw v)) a) (xve τ2 (oEnt (oVw v)) c)) 4)) i ((xve τ2 (oEnt (oVw v)) (gix (fun a c => vle 5 (xve τ2 (oEnt (oVw v)) a) (xve τ2 (oEnt (oVw v)) c)) 4)) i + nI 1)) p) (K3 : ∀ p, p < 5 → τ3 (oNum (oVec (oVs (oEnt (oVw v))) i)) p = (upd (xve τ2 (oEnt (oVw v)) (gix (fun a c => vle 5 (xve τ2 (oEnt (oVw v)) a) (xve τ2 (oEnt (oVw v)) c)) 4)) i ((xve τ2 (oEnt (oVw v)) (gix (fun a c => vle 5 (xve τ2 (oEnt (oVw v)) a) (xve τ2 (oEnt (oVw v)) c)) 4)) i + nI 1)) p) (K4 : τ3 (oMem i) 8 = τ2 (oMem i) 8 + nI 1) (K5 : ∀ p, p ≠ 8 → τ3 (oMem i) p = τ2 (oMem i) p) (K6 : ∀ q, q ≠ oMem i → q ≠ oNum (oKno (oMem i)) → q ≠ oNum (oSig (oMem i)) → q ≠ oNum (oVec (oVs (oEnt (oVw v))) i) → τ3 q = τ2 q)
    (t1 : T m_shownTo = S m_shownTo) (t2 : T m_signedOf = cpy 5 (S m_signedOf) (5 * i) (oU S u v i)) (t3 : T m_knownOf = cpy 5 (S m_knownOf) (5 * i) (oU S u v i)) (t4 : T m_row = cpy 5 (S m_row) (30 * v + 5 * i) (oU S u v i)) (t5 : T m_sentBy = upd (S m_sentBy) i (S m_sentBy i + nI u)) (t6 : T m_doneOf = upd (S m_doneOf) i (S m_doneOf i + nI 1)) (t7 : T m_keptOf = upd (S m_keptOf) v (nI (min (k + 1) 5))) (t8 : mRem S v k (T m_keptRow)) (t9 : T oMod 23 = S oMod 23) (t10 : ∀ o, o ≠ oMod → o ≠ m_signedOf → o ≠ m_knownOf → o ≠ m_row → o ≠ m_sentBy → o ≠ m_doneOf → o ≠ m_keptOf → o ≠ m_keptRow → T o = S o) : RR (sw τ3 (oMem i) 10 (τ3 (oMem i) 10 + nI u)) T u w := by
  have hu := hS.1.1.2
  have hw := hS.1.2.1.2
  have hU := oU_g hS hN hR hi hv (τ2 := τ2) (fun q q1 q2 => E4 q (by simp only [oNum, oKno, oSig, oPro, oFst, oSnd, oBox, oLet, oLts, oMem, oVw, oEnt, oBef, oBk, oVs, oVec, oCon] at * <;> omega) (Or.inl (by simp only [oNum, oKno, oSig, oPro, oFst, oSnd, oBox, oLet, oLts, oMem, oVw, oEnt, oBef, oBk, oVs, oVec, oCon] at * <;> omega)))
  have d0 : τ2 (oMem i) = σ (oMem i) := E4 _ (by first | (simp only [oNum, oKno, oSig, oPro, oFst, oSnd, oBox, oLet, oLts, oMem, oVw, oEnt, oBef, oBk, oVs, oVec, oCon] <;> omega) | omega | decide) (Or.inl (by first | (simp only [oNum, oKno, oSig, oPro, oFst, oSnd, oBox, oLet, oLts, oMem, oVw, oEnt, oBef, oBk, oVs, oVec, oCon] <;> omega) | omega | decide))
  have hF : ∀ q, q ≠ oMem i → q ≠ oNum (oKno (oMem i)) → q ≠ oNum (oSig (oMem i)) → q ≠ oNum (oVec (oVs (oEnt (oVw v))) i) → q ≠ oVw v → (q < oBk (oBef (oVw v)) x ∨ oBk (oBef (oVw v)) x + 13 ≤ q) → sw τ3 (oMem i) 10 (τ3 (oMem i) 10 + nI u) q = σ q := fun q q1 q2 q3 q4 q5 q6 => by rw [sw_n q1, K6 q q1 q2 q3 q4, E4 q q5 q6]
  have hA : ∀ o, 589 ≤ o → o < 603 → o ≠ m_signedOf → o ≠ m_knownOf → o ≠ m_sentBy → o ≠ m_doneOf → T o = S o := fun o o1 o2 o3 o4 o5 o6 => t10 o (by simp only [oMod]; omega) o3 o4 (by simp only [m_row]; omega) o5 o6 (by simp only [m_keptOf]; omega) (by simp only [m_keptRow]; omega)
  have h0 : ∀ q, q < 5 → sw τ3 (oMem i) 10 (τ3 (oMem i) 10 + nI u) q = σ q := fun q hq => hF q (by first | (simp only [oNum, oKno, oSig, oPro, oFst, oSnd, oBox, oLet, oLts, oMem, oVw, oEnt, oBef, oBk, oVs, oVec, oCon] <;> omega) | omega | decide) (by first | (simp only [oNum, oKno, oSig, oPro, oFst, oSnd, oBox, oLet, oLts, oMem, oVw, oEnt, oBef, oBk, oVs, oVec, oCon] <;> omega) | omega | decide) (by first | (simp only [oNum, oKno, oSig, oPro, oFst, oSnd, oBox, oLet, oLts, oMem, oVw, oEnt, oBef, oBk, oVs, oVec, oCon] <;> omega) | omega | decide) (by first | (simp only [oNum, oKno, oSig, oPro, oFst, oSnd, oBox, oLet, oLts, oMem, oVw, oEnt, oBef, oBk, oVs, oVec, oCon] <;> omega) | omega | decide) (by first | (simp only [oNum, oKno, oSig, oPro, oFst, oSnd, oBox, oLet, oLts, oMem, oVw, oEnt, oBef, oBk, oVs, oVec, oCon] <;> omega) | omega | decide) (Or.inl (by first | (simp only [oNum, oKno, oSig, oPro, oFst, oSnd, oBox, oLet, oLts, oMem, oVw, oEnt, oBef, oBk, oVs, oVec, oCon] <;> omega) | omega | decide))
  refine ⟨by rw [h0 0 (by decide)]; exact hR.1, by rw [h0 0 (by decide)]; exact hR.2.1, fun j hj => ?_, fun v' hv' => ?_, hR.2.2.2.2.of (h0 _ (by decide)) (h0 _ (by decide)) t9 (t10 _ (by decide) (by decide) (by decide) (by decide) (by decide) (by decide) (by decide) (by decide))⟩
  · by_cases hj2 : j = i
    · subst hj2
      obtain ⟨a1, a2, a3, a4, a5⟩ := hR.2.2.1 j hj
      refine ⟨?_, ?_, ?_, ?_, ?_⟩
      · refine ⟨?_, ?_, ?_, ?_, ?_, ?_, ?_⟩
        · rw [sw_k (by decide), K5 _ (by decide), d0, hA m_viewOf (by decide) (by decide) (by decide) (by decide) (by decide) (by decide)]; exact a1.1
        · rw [sw_k (by decide), K5 _ (by decide), d0, hA m_alarmOf (by decide) (by decide) (by decide) (by decide) (by decide) (by decide)]; exact a1.2.1
        · rw [sw_k (by decide), K4, d0, t6, upd_s, a1.2.2.1]
        · rw [sw_k (by decide), K5 _ (by decide), d0, t1]; exact a1.2.2.2.1
        · rw [sw_s, K5 _ (by decide), d0, t5, upd_s, a1.2.2.2.2.1]
        · rw [sw_k (by decide), K5 _ (by decide), d0, hA m_hasRead (by decide) (by decide) (by decide) (by decide) (by decide) (by decide)]; exact a1.2.2.2.2.2.1
        · rw [hA m_hasRead (by decide) (by decide) (by decide) (by decide) (by decide) (by decide), hA m_readOf (by decide) (by decide) (by decide) (by decide) (by decide) (by decide), sw_k (by decide), K5 _ (by decide), d0]; exact a1.2.2.2.2.2.2
      · intro p hp; rw [sw_n (by first | (simp only [oNum, oKno, oSig, oPro, oFst, oSnd, oBox, oLet, oLts, oMem, oVw, oEnt, oBef, oBk, oVs, oVec, oCon] <;> omega) | omega | decide), K1 p hp, hU p hp, t3, cpy_in hp]
      · intro p hp; rw [sw_n (by first | (simp only [oNum, oKno, oSig, oPro, oFst, oSnd, oBox, oLet, oLts, oMem, oVw, oEnt, oBef, oBk, oVs, oVec, oCon] <;> omega) | omega | decide), K2 p hp, hU p hp, t2, cpy_in hp]
      · unfold RP
        rw [hF (oPro (oMem j)) (by first | (simp only [oNum, oKno, oSig, oPro, oFst, oSnd, oBox, oLet, oLts, oMem, oVw, oEnt, oBef, oBk, oVs, oVec, oCon] <;> omega) | omega | decide) (by first | (simp only [oNum, oKno, oSig, oPro, oFst, oSnd, oBox, oLet, oLts, oMem, oVw, oEnt, oBef, oBk, oVs, oVec, oCon] <;> omega) | omega | decide) (by first | (simp only [oNum, oKno, oSig, oPro, oFst, oSnd, oBox, oLet, oLts, oMem, oVw, oEnt, oBef, oBk, oVs, oVec, oCon] <;> omega) | omega | decide) (by first | (simp only [oNum, oKno, oSig, oPro, oFst, oSnd, oBox, oLet, oLts, oMem, oVw, oEnt, oBef, oBk, oVs, oVec, oCon] <;> omega) | omega | decide) (by first | (simp only [oNum, oKno, oSig, oPro, oFst, oSnd, oBox, oLet, oLts, oMem, oVw, oEnt, oBef, oBk, oVs, oVec, oCon] <;> omega) | omega | decide) (Or.inl (by first | (simp only [oNum, oKno, oSig, oPro, oFst, oSnd, oBox, oLet, oLts, oMem, oVw, oEnt, oBef, oBk, oVs, oVec, oCon] <;> omega) | omega | decide)), hF (oNum (oFst (oPro (oMem j)))) (by first | (simp only [oNum, oKno, oSig, oPro, oFst, oSnd, oBox, oLet, oLts, oMem, oVw, oEnt, oBef, oBk, oVs, oVec, oCon] <;> omega) | omega | decide) (by first | (simp only [oNum, oKno, oSig, oPro, oFst, oSnd, oBox, oLet, oLts, oMem, oVw, oEnt, oBef, oBk, oVs, oVec, oCon] <;> omega) | omega | decide) (by first | (simp only [oNum, oKno, oSig, oPro, oFst, oSnd, oBox, oLet, oLts, oMem, oVw, oEnt, oBef, oBk, oVs, oVec, oCon] <;> omega) | omega | decide) (by first | (simp only [oNum, oKno, oSig, oPro, oFst, oSnd, oBox, oLet, oLts, oMem, oVw, oEnt, oBef, oBk, oVs, oVec, oCon] <;> omega) | omega | decide) (by first | (simp only [oNum, oKno, oSig, oPro, oFst, oSnd, oBox, oLet, oLts, oMem, oVw, oEnt, oBef, oBk, oVs, oVec, oCon] <;> omega) | omega | decide) (Or.inl (by first | (simp only [oNum, oKno, oSig, oPro, oFst, oSnd, oBox, oLet, oLts, oMem, oVw, oEnt, oBef, oBk, oVs, oVec, oCon] <;> omega) | omega | decide)), hF (oNum (oSnd (oPro (oMem j)))) (by first | (simp only [oNum, oKno, oSig, oPro, oFst, oSnd, oBox, oLet, oLts, oMem, oVw, oEnt, oBef, oBk, oVs, oVec, oCon] <;> omega) | omega | decide) (by first | (simp only [oNum, oKno, oSig, oPro, oFst, oSnd, oBox, oLet, oLts, oMem, oVw, oEnt, oBef, oBk, oVs, oVec, oCon] <;> omega) | omega | decide) (by first | (simp only [oNum, oKno, oSig, oPro, oFst, oSnd, oBox, oLet, oLts, oMem, oVw, oEnt, oBef, oBk, oVs, oVec, oCon] <;> omega) | omega | decide) (by first | (simp only [oNum, oKno, oSig, oPro, oFst, oSnd, oBox, oLet, oLts, oMem, oVw, oEnt, oBef, oBk, oVs, oVec, oCon] <;> omega) | omega | decide) (by first | (simp only [oNum, oKno, oSig, oPro, oFst, oSnd, oBox, oLet, oLts, oMem, oVw, oEnt, oBef, oBk, oVs, oVec, oCon] <;> omega) | omega | decide) (Or.inl (by first | (simp only [oNum, oKno, oSig, oPro, oFst, oSnd, oBox, oLet, oLts, oMem, oVw, oEnt, oBef, oBk, oVs, oVec, oCon] <;> omega) | omega | decide)), hA m_hasProof (by decide) (by decide) (by decide) (by decide) (by decide) (by decide), hA m_depthOf (by decide) (by decide) (by decide) (by decide) (by decide) (by decide), hA m_proofOf (by decide) (by decide) (by decide) (by decide) (by decide) (by decide)]; exact a4
      · unfold RX
        rw [hF (oBox (oMem j)) (by first | (simp only [oNum, oKno, oSig, oPro, oFst, oSnd, oBox, oLet, oLts, oMem, oVw, oEnt, oBef, oBk, oVs, oVec, oCon] <;> omega) | omega | decide) (by first | (simp only [oNum, oKno, oSig, oPro, oFst, oSnd, oBox, oLet, oLts, oMem, oVw, oEnt, oBef, oBk, oVs, oVec, oCon] <;> omega) | omega | decide) (by first | (simp only [oNum, oKno, oSig, oPro, oFst, oSnd, oBox, oLet, oLts, oMem, oVw, oEnt, oBef, oBk, oVs, oVec, oCon] <;> omega) | omega | decide) (by first | (simp only [oNum, oKno, oSig, oPro, oFst, oSnd, oBox, oLet, oLts, oMem, oVw, oEnt, oBef, oBk, oVs, oVec, oCon] <;> omega) | omega | decide) (by first | (simp only [oNum, oKno, oSig, oPro, oFst, oSnd, oBox, oLet, oLts, oMem, oVw, oEnt, oBef, oBk, oVs, oVec, oCon] <;> omega) | omega | decide) (Or.inl (by first | (simp only [oNum, oKno, oSig, oPro, oFst, oSnd, oBox, oLet, oLts, oMem, oVw, oEnt, oBef, oBk, oVs, oVec, oCon] <;> omega) | omega | decide)), hA m_lettersOf (by decide) (by decide) (by decide) (by decide) (by decide) (by decide), hA m_letter (by decide) (by decide) (by decide) (by decide) (by decide) (by decide)]
        refine ⟨a5.1, fun z z4 e q hq p hp => ?_⟩
        show sw _ _ _ _ (oNum (oLet (oLts (oBox (oMem j))) q)) p = _
        rw [hF (oNum (oLet (oLts (oBox (oMem j))) q)) (by first | (simp only [oNum, oKno, oSig, oPro, oFst, oSnd, oBox, oLet, oLts, oMem, oVw, oEnt, oBef, oBk, oVs, oVec, oCon] <;> omega) | omega | decide) (by first | (simp only [oNum, oKno, oSig, oPro, oFst, oSnd, oBox, oLet, oLts, oMem, oVw, oEnt, oBef, oBk, oVs, oVec, oCon] <;> omega) | omega | decide) (by first | (simp only [oNum, oKno, oSig, oPro, oFst, oSnd, oBox, oLet, oLts, oMem, oVw, oEnt, oBef, oBk, oVs, oVec, oCon] <;> omega) | omega | decide) (by first | (simp only [oNum, oKno, oSig, oPro, oFst, oSnd, oBox, oLet, oLts, oMem, oVw, oEnt, oBef, oBk, oVs, oVec, oCon] <;> omega) | omega | decide) (by first | (simp only [oNum, oKno, oSig, oPro, oFst, oSnd, oBox, oLet, oLts, oMem, oVw, oEnt, oBef, oBk, oVs, oVec, oCon] <;> omega) | omega | decide) (Or.inl (by first | (simp only [oNum, oKno, oSig, oPro, oFst, oSnd, oBox, oLet, oLts, oMem, oVw, oEnt, oBef, oBk, oVs, oVec, oCon] <;> omega) | omega | decide))]; exact a5.2 z z4 e q hq p hp
    · refine (hR.2.2.1 j hj).of (fun q q1 q2 => hF q (by simp only [oNum, oKno, oSig, oPro, oFst, oSnd, oBox, oLet, oLts, oMem, oVw, oEnt, oBef, oBk, oVs, oVec, oCon] at * <;> omega) (by simp only [oNum, oKno, oSig, oPro, oFst, oSnd, oBox, oLet, oLts, oMem, oVw, oEnt, oBef, oBk, oVs, oVec, oCon] at * <;> omega) (by simp only [oNum, oKno, oSig, oPro, oFst, oSnd, oBox, oLet, oLts, oMem, oVw, oEnt, oBef, oBk, oVs, oVec, oCon] at * <;> omega) (by simp only [oNum, oKno, oSig, oPro, oFst, oSnd, oBox, oLet, oLts, oMem, oVw, oEnt, oBef, oBk, oVs, oVec, oCon] at * <;> omega) (by simp only [oNum, oKno, oSig, oPro, oFst, oSnd, oBox, oLet, oLts, oMem, oVw, oEnt, oBef, oBk, oVs, oVec, oCon] at * <;> omega) (Or.inl (by simp only [oNum, oKno, oSig, oPro, oFst, oSnd, oBox, oLet, oLts, oMem, oVw, oEnt, oBef, oBk, oVs, oVec, oCon] at * <;> omega))) ⟨⟨?_, ?_, ?_, ?_, ?_, ?_, ?_⟩, fun p hp => ?_, fun p hp => ?_, ⟨?_, ?_, fun p _ => ?_⟩, ?_, fun p _ => ?_⟩
      · rw [hA _ (by decide) (by decide) (by decide) (by decide) (by decide) (by decide)]
      · rw [hA _ (by decide) (by decide) (by decide) (by decide) (by decide) (by decide)]
      · rw [t6, upd_n hj2]
      · rw [t1]
      · rw [t5, upd_n hj2]
      · rw [hA _ (by decide) (by decide) (by decide) (by decide) (by decide) (by decide)]
      · rw [hA _ (by decide) (by decide) (by decide) (by decide) (by decide) (by decide)]
      · rw [t3]; exact cpy_row hj2 hp (by decide)
      · rw [t2]; exact cpy_row hj2 hp (by decide)
      · rw [hA _ (by decide) (by decide) (by decide) (by decide) (by decide) (by decide)]
      · rw [hA _ (by decide) (by decide) (by decide) (by decide) (by decide) (by decide)]
      · rw [hA _ (by decide) (by decide) (by decide) (by decide) (by decide) (by decide)]
      · rw [hA _ (by decide) (by decide) (by decide) (by decide) (by decide) (by decide)]
      · rw [hA _ (by decide) (by decide) (by decide) (by decide) (by decide) (by decide)]
  · by_cases hv2 : v' = v
    · subst hv2
      obtain ⟨b1, b2, -⟩ := hR.2.2.2.1 v' hv'
      refine ⟨fun j hj => ⟨fun p hp => ?_, ?_⟩, ?_, (x + 1) % 5, Nat.mod_lt _ (by decide), ?_, fun k' hk' e q hq => ?_⟩
      · by_cases hj2 : j = i
        · subst hj2
          rw [sw_n (by first | (simp only [oNum, oKno, oSig, oPro, oFst, oSnd, oBox, oLet, oLts, oMem, oVw, oEnt, oBef, oBk, oVs, oVec, oCon] <;> omega) | omega | decide), K3 p hp, hU p hp, t4, cpy_in hp]
        · rw [hF _ (by first | (simp only [oNum, oKno, oSig, oPro, oFst, oSnd, oBox, oLet, oLts, oMem, oVw, oEnt, oBef, oBk, oVs, oVec, oCon] <;> omega) | omega | decide) (by first | (simp only [oNum, oKno, oSig, oPro, oFst, oSnd, oBox, oLet, oLts, oMem, oVw, oEnt, oBef, oBk, oVs, oVec, oCon] <;> omega) | omega | decide) (by first | (simp only [oNum, oKno, oSig, oPro, oFst, oSnd, oBox, oLet, oLts, oMem, oVw, oEnt, oBef, oBk, oVs, oVec, oCon] <;> omega) | omega | decide) (by first | (simp only [oNum, oKno, oSig, oPro, oFst, oSnd, oBox, oLet, oLts, oMem, oVw, oEnt, oBef, oBk, oVs, oVec, oCon] <;> omega) | omega | decide) (by first | (simp only [oNum, oKno, oSig, oPro, oFst, oSnd, oBox, oLet, oLts, oMem, oVw, oEnt, oBef, oBk, oVs, oVec, oCon] <;> omega) | omega | decide) (Or.inl (by first | (simp only [oNum, oKno, oSig, oPro, oFst, oSnd, oBox, oLet, oLts, oMem, oVw, oEnt, oBef, oBk, oVs, oVec, oCon] <;> omega) | omega | decide)), t4, cpy_out (by rcases Nat.lt_or_ge j i with z | z <;> omega)]
          exact (b1 j hj).1 p hp
      · rw [hF _ (by first | (simp only [oNum, oKno, oSig, oPro, oFst, oSnd, oBox, oLet, oLts, oMem, oVw, oEnt, oBef, oBk, oVs, oVec, oCon] <;> omega) | omega | decide) (by first | (simp only [oNum, oKno, oSig, oPro, oFst, oSnd, oBox, oLet, oLts, oMem, oVw, oEnt, oBef, oBk, oVs, oVec, oCon] <;> omega) | omega | decide) (by first | (simp only [oNum, oKno, oSig, oPro, oFst, oSnd, oBox, oLet, oLts, oMem, oVw, oEnt, oBef, oBk, oVs, oVec, oCon] <;> omega) | omega | decide) (by first | (simp only [oNum, oKno, oSig, oPro, oFst, oSnd, oBox, oLet, oLts, oMem, oVw, oEnt, oBef, oBk, oVs, oVec, oCon] <;> omega) | omega | decide) (by first | (simp only [oNum, oKno, oSig, oPro, oFst, oSnd, oBox, oLet, oLts, oMem, oVw, oEnt, oBef, oBk, oVs, oVec, oCon] <;> omega) | omega | decide) (Or.inl (by first | (simp only [oNum, oKno, oSig, oPro, oFst, oSnd, oBox, oLet, oLts, oMem, oVw, oEnt, oBef, oBk, oVs, oVec, oCon] <;> omega) | omega | decide)), t4, cpy_out (by omega)]
        exact (b1 j hj).2
      · rw [sw_n (by first | (simp only [oNum, oKno, oSig, oPro, oFst, oSnd, oBox, oLet, oLts, oMem, oVw, oEnt, oBef, oBk, oVs, oVec, oCon] <;> omega) | omega | decide), K6 _ (by first | (simp only [oNum, oKno, oSig, oPro, oFst, oSnd, oBox, oLet, oLts, oMem, oVw, oEnt, oBef, oBk, oVs, oVec, oCon] <;> omega) | omega | decide) (by first | (simp only [oNum, oKno, oSig, oPro, oFst, oSnd, oBox, oLet, oLts, oMem, oVw, oEnt, oBef, oBk, oVs, oVec, oCon] <;> omega) | omega | decide) (by first | (simp only [oNum, oKno, oSig, oPro, oFst, oSnd, oBox, oLet, oLts, oMem, oVw, oEnt, oBef, oBk, oVs, oVec, oCon] <;> omega) | omega | decide) (by first | (simp only [oNum, oKno, oSig, oPro, oFst, oSnd, oBox, oLet, oLts, oMem, oVw, oEnt, oBef, oBk, oVs, oVec, oCon] <;> omega) | omega | decide), E2, t7, upd_s]
      · rw [sw_n (by first | (simp only [oNum, oKno, oSig, oPro, oFst, oSnd, oBox, oLet, oLts, oMem, oVw, oEnt, oBef, oBk, oVs, oVec, oCon] <;> omega) | omega | decide), K6 _ (by first | (simp only [oNum, oKno, oSig, oPro, oFst, oSnd, oBox, oLet, oLts, oMem, oVw, oEnt, oBef, oBk, oVs, oVec, oCon] <;> omega) | omega | decide) (by first | (simp only [oNum, oKno, oSig, oPro, oFst, oSnd, oBox, oLet, oLts, oMem, oVw, oEnt, oBef, oBk, oVs, oVec, oCon] <;> omega) | omega | decide) (by first | (simp only [oNum, oKno, oSig, oPro, oFst, oSnd, oBox, oLet, oLts, oMem, oVw, oEnt, oBef, oBk, oVs, oVec, oCon] <;> omega) | omega | decide) (by first | (simp only [oNum, oKno, oSig, oPro, oFst, oSnd, oBox, oLet, oLts, oMem, oVw, oEnt, oBef, oBk, oVs, oVec, oCon] <;> omega) | omega | decide), E3]
      · rw [t7, upd_s] at e
        obtain rfl := nI_inj (by omega) (by omega) e
        by_cases hq2 : q = min k 4
        · have es : ((x + 1) % 5 + 5 - min (k + 1) 5 + q) % 5 = x := by omega
          rw [es]
          refine (EqR.eq E1 b1).of (τ := sw τ3 (oMem i) 10 (τ3 (oMem i) 10 + nI u)) (a' := 150 * v' + 30 * q) (G := T m_keptRow) (fun o o1 o2 => by rw [sw_n (by simp only [oNum, oKno, oSig, oPro, oFst, oSnd, oBox, oLet, oLts, oMem, oVw, oEnt, oBef, oBk, oVs, oVec, oCon] at * <;> omega), K6 _ (by simp only [oNum, oKno, oSig, oPro, oFst, oSnd, oBox, oLet, oLts, oMem, oVw, oEnt, oBef, oBk, oVs, oVec, oCon] at * <;> omega) (by simp only [oNum, oKno, oSig, oPro, oFst, oSnd, oBox, oLet, oLts, oMem, oVw, oEnt, oBef, oBk, oVs, oVec, oCon] at * <;> omega) (by simp only [oNum, oKno, oSig, oPro, oFst, oSnd, oBox, oLet, oLts, oMem, oVw, oEnt, oBef, oBk, oVs, oVec, oCon] at * <;> omega) (by simp only [oNum, oKno, oSig, oPro, oFst, oSnd, oBox, oLet, oLts, oMem, oVw, oEnt, oBef, oBk, oVs, oVec, oCon] at * <;> omega)]) (fun p hp => ?_)
          rw [hq2]; exact t8.1 p hp
        · have hqk : q < min k 4 := by omega
          have hne : (x + 5 - k + (q + (k - min k 4))) % 5 ≠ x := by omega
          have es : ((x + 1) % 5 + 5 - min (k + 1) 5 + q) % 5 = (x + 5 - k + (q + (k - min k 4))) % 5 := by omega
          rw [es]
          refine (hring (q + (k - min k 4)) (by omega)).of (fun o o1 o2 => hF o (by simp only [oNum, oKno, oSig, oPro, oFst, oSnd, oBox, oLet, oLts, oMem, oVw, oEnt, oBef, oBk, oVs, oVec, oCon] at * <;> omega) (by simp only [oNum, oKno, oSig, oPro, oFst, oSnd, oBox, oLet, oLts, oMem, oVw, oEnt, oBef, oBk, oVs, oVec, oCon] at * <;> omega) (by simp only [oNum, oKno, oSig, oPro, oFst, oSnd, oBox, oLet, oLts, oMem, oVw, oEnt, oBef, oBk, oVs, oVec, oCon] at * <;> omega) (by simp only [oNum, oKno, oSig, oPro, oFst, oSnd, oBox, oLet, oLts, oMem, oVw, oEnt, oBef, oBk, oVs, oVec, oCon] at * <;> omega) (by simp only [oNum, oKno, oSig, oPro, oFst, oSnd, oBox, oLet, oLts, oMem, oVw, oEnt, oBef, oBk, oVs, oVec, oCon] at * <;> omega) ?_) (fun p hp => ?_)
          · simp only [oBk] at *; omega
          · have := t8.2.1 (30 * q + p) (by omega)
            rw [show 150 * v' + 30 * q + p = 150 * v' + (30 * q + p) by omega, this]
            congr 1; omega
    · refine (hR.2.2.2.1 v' hv').of (fun q q1 q2 => hF q (by simp only [oNum, oKno, oSig, oPro, oFst, oSnd, oBox, oLet, oLts, oMem, oVw, oEnt, oBef, oBk, oVs, oVec, oCon] at * <;> omega) (by simp only [oNum, oKno, oSig, oPro, oFst, oSnd, oBox, oLet, oLts, oMem, oVw, oEnt, oBef, oBk, oVs, oVec, oCon] at * <;> omega) (by simp only [oNum, oKno, oSig, oPro, oFst, oSnd, oBox, oLet, oLts, oMem, oVw, oEnt, oBef, oBk, oVs, oVec, oCon] at * <;> omega) ?_ (by simp only [oNum, oKno, oSig, oPro, oFst, oSnd, oBox, oLet, oLts, oMem, oVw, oEnt, oBef, oBk, oVs, oVec, oCon] at * <;> omega) ?_) ⟨fun p hp => ?_, ?_, fun p hp => ?_⟩
      · simp only [oNum, oVec, oVs, oEnt, oVw] at *; omega
      · simp only [oBk, oBef, oVw] at *; omega
      · rw [t4, cpy_out (by rcases Nat.lt_or_ge v' v with z | z <;> omega)]
      · rw [t7, upd_n hv2]
      · exact t8.2.2 _ (by rcases Nat.lt_or_ge v' v with z | z <;> omega)
set_option maxRecDepth 100000 in
set_option maxHeartbeats 4000000 in
theorem c_X7_operate (l : Launch) (D : XD) (b n : Nat) {σ S : XM} {N u w : Nat} (hS : SI N S u w) (hR : RR σ S u w) (hN : N + 1 < 2 ^ 31) {i v k : Nat} (hi : i < u) (hv : v < w) (hV : S m_viewOf i = nI v) (hk5 : k ≤ 5) (hk : S m_keptOf v = nI k) (hal0 : S m_alarmOf i = nI 0) : xM l yX7_operate cX7_operate 5 (some .int) 3 69 0 0 D b n [.ref (b + 0), .int (nI i)] (xH D b σ) n (fun y' h' => ∃ τ : XM, y' = some (.int (nI (al S u v i))) ∧ Hi τ σ ∧ (∀ T, mOper S u v i k T → RR τ T u w) ∧ h' = xH D b τ) := by
  refine xM.of (lv := [some (.ref (b + 0)), some (.int (nI i)), none, none, none]) (by decide +kernel) rfl (List.forall_mem_cons.mpr ⟨rfl, List.forall_mem_cons.mpr ⟨rfl, fun _ h => absurd h List.not_mem_nil⟩⟩) (Nat.le_of_ble_eq_true rfl) rfl ?_
  intro p e s m args below meth c hC hr hnm
  obtain ⟨hU, hn, hVw, hKp, hLt, hTx, hAl⟩ := id hS.1
  obtain ⟨hu, hu2, hu5⟩ := id hU
  obtain ⟨hn1, hw1, hw6⟩ := id hn
  obtain ⟨r3, r4, hMm, hVv, hTt⟩ := id hR
  refine xi_aload_n hC dX7_operate_0 (pc' := 1) rfl rfl rfl ?_
  refine xg7_members hC dX7_operate_1 (pc' := 4) rfl xw_f_X7_11 kd_0 ?_
  refine xi_iload_n hC dX7_operate_4 (pc' := 5) rfl rfl rfl ?_
  refine xa_members hC dX7_operate_5 (pc' := 6) rfl kd_oMs rfl (by omega) ?_
  refine xi_astore_n (lv' := [some (.ref (b + 0)), some (.int (nI i)), some (.ref (b + (oMem i))), none, none]) hC dX7_operate_6 (pc' := 7) rfl rfl (by decide) rfl ?_
  refine xi_aload_n hC dX7_operate_7 (pc' := 8) rfl rfl rfl ?_
  refine xg7_views hC dX7_operate_8 (pc' := 11) rfl xw_f_X7_17 kd_0 ?_
  refine xi_aload_n hC dX7_operate_11 (pc' := 12) rfl rfl rfl ?_
  refine xg2_view hC dX7_operate_12 (pc' := 15) rfl xw_f_X7_90 (kd_oMem (by omega)) ?_
  refine xtop (y := (nI v)) (((hMm i (by omega)).1.1).trans hV) ?_
  refine xa_views hC dX7_operate_15 (pc' := 16) rfl kd_oVws rfl (by omega) ?_
  refine xi_astore_n (lv' := [some (.ref (b + 0)), some (.int (nI i)), some (.ref (b + (oMem i))), some (.ref (b + (oVw v))), none]) hC dX7_operate_16 (pc' := 17) rfl rfl (by decide) rfl ?_
  refine xi_aload_n hC dX7_operate_17 (pc' := 18) rfl rfl rfl ?_
  refine xi_dup hC dX7_operate_18 (pc' := 19) rfl rfl ?_
  refine xg2_shown hC dX7_operate_19 (pc' := 22) rfl xw_f_X7_186 (kd_oMem (by omega)) ?_
  refine xi_aload_n hC dX7_operate_22 (pc' := 23) rfl rfl rfl ?_
  refine xg7_users hC dX7_operate_23 (pc' := 26) rfl xw_f_X7_28 kd_0 ?_
  refine xtop (y := (nI u)) (r3) ?_
  refine xi_aload_n hC dX7_operate_26 (pc' := 27) rfl rfl rfl ?_
  refine xg7_users hC dX7_operate_27 (pc' := 30) rfl xw_f_X7_28 kd_0 ?_
  refine xtop (y := (nI u)) (r3) ?_
  refine xn_imul hC dX7_operate_30 (pc' := 31) rfl ?_
  refine xi_iadd hC dX7_operate_31 (pc' := 32) rfl ?_
  refine xp2_shown hC dX7_operate_32 (pc' := 35) rfl xw_f_X7_186 (kd_oMem (by omega)) ?_
  obtain ⟨σ1, eσ⟩ : ∃ τ, τ = (sw σ (oMem i) 9 ((σ (oMem i) 9) + (nI (u * u)))) := ⟨_, rfl⟩
  obtain ⟨S1, eS⟩ : ∃ T, T = sw S m_shownTo i (S m_shownTo i + nI (u * u)) := ⟨_, rfl⟩
  refine xstate eσ.symm ?_
  have f1 : ∀ o, o ≠ oMem i → σ1 o = σ o := fun o ho => by rw [eσ]; exact sw_n ho
  have f2 : ∀ o, o ≠ m_shownTo → S1 o = S o := fun o ho => by rw [eS]; exact sw_n ho
  have hR1 : RR σ1 S1 u w := by rw [eσ, eS, (hMm i (by omega)).1.2.2.2.1]; exact R_sh hR hw6 (by omega)
  have hS1 : SI N S1 u w := hS.same (fun o ho => f2 o (by rcases ho with rfl | rfl | rfl | rfl | rfl | rfl | rfl | rfl | rfl | rfl <;> decide)) (fun k _ => by rw [f2 oMod (by decide)])
  obtain ⟨hA1, hA2, hA3, hA4⟩ := al_same (S := S) (T := S1) (u := u) (v := v) (i := i) (f2 _ (by decide)) (f2 _ (by decide)) (f2 _ (by decide))
  have hV1 : S1 m_viewOf i = nI v := by rw [f2 _ (by decide)]; exact hV
  have hk1 : S1 m_keptOf v = nI k := by rw [f2 _ (by decide)]; exact hk
  obtain ⟨b1, b2, x, hx5, b3, b4⟩ := hR1.2.2.2.1 v hv
  have hring := b4 k hk5 hk1
  have ha1 : σ1 (oMem i) 5 = 0 := by rw [(hR1.2.2.1 i (by omega)).1.2.1, f2 _ (by decide), hal0]; exact nI_0
  refine xi_aload_n hC dX7_operate_35 (pc' := 36) rfl rfl rfl ?_
  refine xi_iload_n hC dX7_operate_36 (pc' := 37) rfl rfl rfl ?_
  refine xi_callV (As := [.int (nI i)]) (rest := []) (c_X7_alarmAhead l D b n (σ := σ1) (S := S1) (N := N) (u := u) (w := w) (i := i) (v := v) hS1 hR1 hN hi hv hV1) hC dX7_operate_37 (pc' := 40) rfl xw_m_X7_73 xw_c_X7_alarmAhead xw_ins_X7_alarmAhead xw_sel_X7_alarmAhead xw_ini_X7 xd_X7_alarmAhead (xH_at.trans (xsh_7 kd_0)) rfl ⟨Nat.le_of_ble_eq_true rfl, Nat.le_of_ble_eq_true rfl⟩ rfl (Nat.le_of_ble_eq_true rfl) ⟨Nat.le_of_ble_eq_true rfl, Nat.le_of_ble_eq_true rfl⟩ ?_
  rintro _ _ ⟨rfl, rfl⟩
  show xV _ _ _ _ _ _ _ _ _ _ _ _ _ _ _ _ _ (xH D b σ1) _ _ [.int (nI (al S1 u v i))]
  refine xtop (y := nI (al S u v i)) (by rw [hA1]) ?_
  have hal4 := al_lt S u v i
  refine xi_istore (lv' := [some (.ref (b + 0)), some (.int (nI i)), some (.ref (b + (oMem i))), some (.ref (b + (oVw v))), some (.int (nI (al S u v i)))]) hC dX7_operate_40 (pc' := 42) rfl (by decide) rfl ?_
  refine xi_iload hC dX7_operate_42 (pc' := 44) rfl rfl ?_
  refine xn_ifne (tgt := 75) hC dX7_operate_44 (pc' := 47) rfl (by decide) (by omega) (fun zc44 => ?_) (fun zc44 => ?_)
  · skip
    refine xi_aload_n hC dX7_operate_75 (pc' := 76) rfl rfl rfl ?_
    refine xi_iload hC dX7_operate_76 (pc' := 78) rfl rfl ?_
    refine xi_callV (As := [.int (nI (al S u v i))]) (rest := []) (c_X2_raise l D b n (σ := σ1) (x := (nI (al S u v i))) (kd_oMem (by omega))) hC dX7_operate_78 (pc' := 81) rfl xw_m_X7_163 xw_c_X2_raise xw_ins_X2_raise xw_sel_X2_raise xw_ini_X2 xd_X2_raise (xH_at.trans (xsh_2 (kd_oMem (by omega)))) rfl ⟨Nat.le_of_ble_eq_true rfl, Nat.le_of_ble_eq_true rfl⟩ rfl (Nat.le_of_ble_eq_true rfl) ⟨Nat.le_of_ble_eq_true rfl, Nat.le_of_ble_eq_true rfl⟩ ?_
    rintro _ _ ⟨rfl, τ_1, hR_2, rfl⟩
    show xV _ _ _ _ _ _ _ _ _ _ _ _ _ _ _ _ _ (xH D b τ_1) _ _ []
    obtain rfl : τ_1 = sw σ1 (oMem i) 5 (nI (al S u v i)) := by
      rcases hR_2 with ⟨-, q⟩ | ⟨q, -⟩
      · exact q
      · exact absurd ha1 q
    refine xi_iload hC dX7_operate_81 (pc' := 83) rfl rfl ?_
    refine xi_iconst (v := nI 2) hC dX7_operate_83 (pc' := 84) rfl (by decide +kernel) ?_
    refine xn_icmpne (tgt := 98) hC dX7_operate_84 (pc' := 87) rfl (by decide) (by omega) (by omega) (fun zc84 => ?_) (fun zc84 => ?_)
    · skip
      refine xi_iload hC dX7_operate_98 (pc' := 100) rfl rfl ?_
      refine xi_iconst (v := nI 3) hC dX7_operate_100 (pc' := 101) rfl (by decide +kernel) ?_
      refine xn_icmpne (tgt := 115) hC dX7_operate_101 (pc' := 104) rfl (by decide) (by omega) (by omega) (fun zc101 => ?_) (fun zc101 => ?_)
      · skip
        refine xi_iload hC dX7_operate_115 (pc' := 117) rfl rfl ?_
        refine xi_ireturn hC dX7_operate_117 hr rfl ?_
        refine ⟨_, rfl, ?_, fun T hT => ?_, rfl⟩
        · exact fun o ho => by rw [sw_n (by simp only [oNum, oKno, oSig, oPro, oFst, oSnd, oBox, oLet, oLts, oMem, oVw, oEnt, oBef, oBk, oVs, oVec, oCon] at * <;> omega), f1 o (by simp only [oNum, oKno, oSig, oPro, oFst, oSnd, oBox, oLet, oLts, oMem, oVw, oEnt, oBef, oBk, oVs, oVec, oCon] at * <;> omega)]
        · rcases hT with ⟨-, T1, q1, q2⟩ | ⟨q, -⟩
          · rw [← eS] at q1
            exact R_fail hS1 hN hR1 hi hv q1 q2 (Or.inl ⟨by omega, rfl⟩)
          · exact absurd q (by omega)
      · skip
        refine xi_aload_n hC dX7_operate_104 (pc' := 105) rfl rfl rfl ?_
        refine xi_aload_n hC dX7_operate_105 (pc' := 106) rfl rfl rfl ?_
        refine xg6_entries hC dX7_operate_106 (pc' := 109) rfl xw_f_X7_102 (kd_oVw (by omega)) ?_
        refine xi_callV (As := []) (rest := [.ref (b + (oMem i))]) (c_X1_greatest l D b n (σ := (sw σ1 (oMem i) 5 (nI (al S u v i)))) (kd_oEnt (kd_oVw (by omega)))) hC dX7_operate_109 (pc' := 112) rfl xw_m_X7_204 xw_c_X1_greatest xw_ins_X1_greatest xw_sel_X1_greatest xw_ini_X1 xd_X1_greatest (xH_at.trans (xsh_1 (kd_oEnt (kd_oVw (by omega))))) rfl ⟨Nat.le_of_ble_eq_true rfl, Nat.le_of_ble_eq_true rfl⟩ rfl (Nat.le_of_ble_eq_true rfl) ⟨Nat.le_of_ble_eq_true rfl, Nat.le_of_ble_eq_true rfl⟩ ?_
        rintro _ _ ⟨gi_3, hgi_4, egi_5, rfl, rfl⟩
        show xV _ _ _ _ _ _ _ _ _ _ _ _ _ _ _ _ _ (xH D b (sw σ1 (oMem i) 5 (nI (al S u v i)))) _ _ [.ref (b + (oVec (oVs (oEnt (oVw v))) gi_3)), .ref (b + (oMem i))]
        refine xi_callV (As := [.ref (b + (oVec (oVs (oEnt (oVw v))) gi_3))]) (rest := []) (c_X2_proveLack l D b n (σ := (sw σ1 (oMem i) 5 (nI (al S u v i)))) (kd_oMem (by omega)) (kd_oVec (kd_oVs (kd_oEnt (kd_oVw (by omega)))) hgi_4) (by refine ⟨?_, ?_⟩ <;> first | (simp only [oMs, oVws, oScr, oSgn, oMod, oMem, oSig, oKno, oPro, oBox, oFst, oSnd, oLts, oLet, oNum, oVw, oEnt, oBef, oBk, oVs, oCon, oVec, m_row, m_keptOf, m_keptRow, m_viewOf, m_alarmOf, m_hasProof, m_depthOf, m_proofOf, m_signedOf, m_knownOf, m_doneOf, m_shownTo, m_sentBy, m_hasRead, m_readOf, m_lettersOf, m_letter, m_hand, m_text] <;> omega) | decide | omega | (simp only [oMs, oVws, oScr, oSgn, oMod, oMem, oSig, oKno, oPro, oBox, oFst, oSnd, oLts, oLet, oNum, oVw, oEnt, oBef, oBk, oVs, oCon, oVec, m_row, m_keptOf, m_keptRow, m_viewOf, m_alarmOf, m_hasProof, m_depthOf, m_proofOf, m_signedOf, m_knownOf, m_doneOf, m_shownTo, m_sentBy, m_hasRead, m_readOf, m_lettersOf, m_letter, m_hand, m_text] at * <;> omega))) hC dX7_operate_112 (pc' := 115) rfl xw_m_X7_255 xw_c_X2_proveLack xw_ins_X2_proveLack xw_sel_X2_proveLack xw_ini_X2 xd_X2_proveLack (xH_at.trans (xsh_2 (kd_oMem (by omega)))) rfl ⟨Nat.le_of_ble_eq_true rfl, Nat.le_of_ble_eq_true rfl⟩ rfl (Nat.le_of_ble_eq_true rfl) ⟨Nat.le_of_ble_eq_true rfl, Nat.le_of_ble_eq_true rfl⟩ ?_
        rintro _ _ ⟨rfl, τ_6, hL_7, rfl⟩
        show xV _ _ _ _ _ _ _ _ _ _ _ _ _ _ _ _ _ (xH D b τ_6) _ _ []
        refine xi_iload hC dX7_operate_115 (pc' := 117) rfl rfl ?_
        refine xi_ireturn hC dX7_operate_117 hr rfl ?_
        refine ⟨_, rfl, ?_, fun T hT => ?_, rfl⟩
        · have hO : ∀ o, 585 ≤ o → τ_6 o = sw σ1 (oMem i) 5 (nI (al S u v i)) o := fun o ho => by
            rcases hL_7 with ⟨-, z⟩ | ⟨-, z⟩
            · exact z.out (by simp only [oNum, oKno, oSig, oPro, oFst, oSnd, oBox, oLet, oLts, oMem, oVw, oEnt, oBef, oBk, oVs, oVec, oCon] at * <;> omega) (by simp only [oNum, oKno, oSig, oPro, oFst, oSnd, oBox, oLet, oLts, oMem, oVw, oEnt, oBef, oBk, oVs, oVec, oCon] at * <;> omega) (by simp only [oNum, oKno, oSig, oPro, oFst, oSnd, oBox, oLet, oLts, oMem, oVw, oEnt, oBef, oBk, oVs, oVec, oCon] at * <;> omega)
            · rw [z]
          exact fun o ho => by rw [hO o ho, sw_n (by simp only [oNum, oKno, oSig, oPro, oFst, oSnd, oBox, oLet, oLts, oMem, oVw, oEnt, oBef, oBk, oVs, oVec, oCon] at * <;> omega), f1 o (by simp only [oNum, oKno, oSig, oPro, oFst, oSnd, oBox, oLet, oLts, oMem, oVw, oEnt, oBef, oBk, oVs, oVec, oCon] at * <;> omega)]
        · rcases hT with ⟨-, T1, q1, q2⟩ | ⟨q, -⟩
          · rw [← eS] at q1
            exact R_fail hS1 hN hR1 hi hv q1 q2 (Or.inr (Or.inr ⟨by omega, by rw [← egi_5]; exact hL_7⟩))
          · exact absurd q (by omega)
    · skip
      refine xi_aload_n hC dX7_operate_87 (pc' := 88) rfl rfl rfl ?_
      refine xg6_entries hC dX7_operate_88 (pc' := 91) rfl xw_f_X7_102 (kd_oVw (by omega)) ?_
      refine xi_aload_n hC dX7_operate_91 (pc' := 92) rfl rfl rfl ?_
      refine xg2_proof hC dX7_operate_92 (pc' := 95) rfl xw_f_X7_141 (kd_oMem (by omega)) ?_
      refine xi_callV (As := [.ref (b + (oPro (oMem i)))]) (rest := []) (c_X1_prove l D b n (σ := (sw σ1 (oMem i) 5 (nI (al S u v i)))) (kd_oEnt (kd_oVw (by omega))) (kd_oPro (kd_oMem (by omega))) (by intro i hi; constructor <;> (simp only [oMs, oVws, oScr, oSgn, oMod, oMem, oSig, oKno, oPro, oBox, oFst, oSnd, oLts, oLet, oNum, oVw, oEnt, oBef, oBk, oVs, oCon, oVec, m_row, m_keptOf, m_keptRow, m_viewOf, m_alarmOf, m_hasProof, m_depthOf, m_proofOf, m_signedOf, m_knownOf, m_doneOf, m_shownTo, m_sentBy, m_hasRead, m_readOf, m_lettersOf, m_letter, m_hand, m_text] <;> omega))) hC dX7_operate_95 (pc' := 98) rfl xw_m_X7_251 xw_c_X1_prove xw_ins_X1_prove xw_sel_X1_prove xw_ini_X1 xd_X1_prove (xH_at.trans (xsh_1 (kd_oEnt (kd_oVw (by omega))))) rfl ⟨Nat.le_of_ble_eq_true rfl, Nat.le_of_ble_eq_true rfl⟩ rfl (Nat.le_of_ble_eq_true rfl) ⟨Nat.le_of_ble_eq_true rfl, Nat.le_of_ble_eq_true rfl⟩ ?_
      rintro _ _ ⟨rfl, τ_8, hV_9, rfl⟩
      show xV _ _ _ _ _ _ _ _ _ _ _ _ _ _ _ _ _ (xH D b τ_8) _ _ []
      refine xi_iload hC dX7_operate_98 (pc' := 100) rfl rfl ?_
      refine xi_iconst (v := nI 3) hC dX7_operate_100 (pc' := 101) rfl (by decide +kernel) ?_
      refine xn_icmpne (tgt := 115) hC dX7_operate_101 (pc' := 104) rfl (by decide) (by omega) (by omega) (fun zc101 => ?_) (fun zc101 => ?_)
      · skip
        refine xi_iload hC dX7_operate_115 (pc' := 117) rfl rfl ?_
        refine xi_ireturn hC dX7_operate_117 hr rfl ?_
        refine ⟨_, rfl, ?_, fun T hT => ?_, rfl⟩
        · have hO : ∀ o, 585 ≤ o → τ_8 o = sw σ1 (oMem i) 5 (nI (al S u v i)) o := fun o ho => by
            rcases hV_9 with ⟨_, _, -, z⟩ | ⟨-, z⟩
            · exact z.out (by simp only [oNum, oKno, oSig, oPro, oFst, oSnd, oBox, oLet, oLts, oMem, oVw, oEnt, oBef, oBk, oVs, oVec, oCon] at * <;> omega) (by simp only [oNum, oKno, oSig, oPro, oFst, oSnd, oBox, oLet, oLts, oMem, oVw, oEnt, oBef, oBk, oVs, oVec, oCon] at * <;> omega) (by simp only [oNum, oKno, oSig, oPro, oFst, oSnd, oBox, oLet, oLts, oMem, oVw, oEnt, oBef, oBk, oVs, oVec, oCon] at * <;> omega)
            · rw [z]
          exact fun o ho => by rw [hO o ho, sw_n (by simp only [oNum, oKno, oSig, oPro, oFst, oSnd, oBox, oLet, oLts, oMem, oVw, oEnt, oBef, oBk, oVs, oVec, oCon] at * <;> omega), f1 o (by simp only [oNum, oKno, oSig, oPro, oFst, oSnd, oBox, oLet, oLts, oMem, oVw, oEnt, oBef, oBk, oVs, oVec, oCon] at * <;> omega)]
        · rcases hT with ⟨-, T1, q1, q2⟩ | ⟨q, -⟩
          · rw [← eS] at q1
            exact R_fail hS1 hN hR1 hi hv q1 q2 (Or.inr (Or.inl ⟨by omega, hV_9⟩))
          · exact absurd q (by omega)
      · skip
        exact absurd zc101 (by omega)
  · skip
    refine xi_aload_n hC dX7_operate_47 (pc' := 48) rfl rfl rfl ?_
    refine xi_callV (As := []) (rest := []) (c_X6_remember l D b n (σ := σ1) (x := x) (r := k) (kd_oVw (by omega)) b3 hx5 (b2.trans hk1) hk5) hC dX7_operate_48 (pc' := 51) rfl xw_m_X7_244 xw_c_X6_remember xw_ins_X6_remember xw_sel_X6_remember xw_ini_X6 xd_X6_remember (xH_at.trans (xsh_6 (kd_oVw (by omega)))) rfl ⟨Nat.le_of_ble_eq_true rfl, Nat.le_of_ble_eq_true rfl⟩ rfl (Nat.le_of_ble_eq_true rfl) ⟨Nat.le_of_ble_eq_true rfl, Nat.le_of_ble_eq_true rfl⟩ ?_
    rintro _ _ ⟨rfl, τ_10, hE_11, hr_12, hn_13, hF_14, rfl⟩
    show xV _ _ _ _ _ _ _ _ _ _ _ _ _ _ _ _ _ (xH D b τ_10) _ _ []
    refine xi_aload_n hC dX7_operate_51 (pc' := 52) rfl rfl rfl ?_
    refine xi_iload_n hC dX7_operate_52 (pc' := 53) rfl rfl rfl ?_
    refine xi_aload_n hC dX7_operate_53 (pc' := 54) rfl rfl rfl ?_
    refine xg6_entries hC dX7_operate_54 (pc' := 57) rfl xw_f_X7_102 (kd_oVw (by omega)) ?_
    refine xi_callV (As := [.int (nI i), .ref (b + (oEnt (oVw v)))]) (rest := []) (c_X2_sign l D b n (σ := τ_10) (j := i) (kd_oMem (by omega)) (kd_oEnt (kd_oVw (by omega))) (by omega) (by first | (simp only [oMs, oVws, oScr, oSgn, oMod, oMem, oSig, oKno, oPro, oBox, oFst, oSnd, oLts, oLet, oNum, oVw, oEnt, oBef, oBk, oVs, oCon, oVec, m_row, m_keptOf, m_keptRow, m_viewOf, m_alarmOf, m_hasProof, m_depthOf, m_proofOf, m_signedOf, m_knownOf, m_doneOf, m_shownTo, m_sentBy, m_hasRead, m_readOf, m_lettersOf, m_letter, m_hand, m_text] <;> omega) | decide | omega | (simp only [oMs, oVws, oScr, oSgn, oMod, oMem, oSig, oKno, oPro, oBox, oFst, oSnd, oLts, oLet, oNum, oVw, oEnt, oBef, oBk, oVs, oCon, oVec, m_row, m_keptOf, m_keptRow, m_viewOf, m_alarmOf, m_hasProof, m_depthOf, m_proofOf, m_signedOf, m_knownOf, m_doneOf, m_shownTo, m_sentBy, m_hasRead, m_readOf, m_lettersOf, m_letter, m_hand, m_text] at * <;> omega))) hC dX7_operate_57 (pc' := 60) rfl xw_m_X7_247 xw_c_X2_sign xw_ins_X2_sign xw_sel_X2_sign xw_ini_X2 xd_X2_sign (xH_at.trans (xsh_2 (kd_oMem (by omega)))) rfl ⟨Nat.le_of_ble_eq_true rfl, Nat.le_of_ble_eq_true rfl⟩ rfl (Nat.le_of_ble_eq_true rfl) ⟨Nat.le_of_ble_eq_true rfl, Nat.le_of_ble_eq_true rfl⟩ ?_
    rintro _ _ ⟨rfl, τ_15, hK_16, hS_17, hE_18, h8_19, hk_20, hF_21, rfl⟩
    show xV _ _ _ _ _ _ _ _ _ _ _ _ _ _ _ _ _ (xH D b τ_15) _ _ []
    refine xi_aload_n hC dX7_operate_60 (pc' := 61) rfl rfl rfl ?_
    refine xi_dup hC dX7_operate_61 (pc' := 62) rfl rfl ?_
    refine xg2_sent hC dX7_operate_62 (pc' := 65) rfl xw_f_X7_127 (kd_oMem (by omega)) ?_
    refine xi_aload_n hC dX7_operate_65 (pc' := 66) rfl rfl rfl ?_
    refine xg7_users hC dX7_operate_66 (pc' := 69) rfl xw_f_X7_28 kd_0 ?_
    refine xtop (y := (nI u)) ((by rw [hF_21 0 (by first | (simp only [oNum, oKno, oSig, oPro, oFst, oSnd, oBox, oLet, oLts, oMem, oVw, oEnt, oBef, oBk, oVs, oVec, oCon] <;> omega) | omega | decide) (by first | (simp only [oNum, oKno, oSig, oPro, oFst, oSnd, oBox, oLet, oLts, oMem, oVw, oEnt, oBef, oBk, oVs, oVec, oCon] <;> omega) | omega | decide) (by first | (simp only [oNum, oKno, oSig, oPro, oFst, oSnd, oBox, oLet, oLts, oMem, oVw, oEnt, oBef, oBk, oVs, oVec, oCon] <;> omega) | omega | decide) (by first | (simp only [oNum, oKno, oSig, oPro, oFst, oSnd, oBox, oLet, oLts, oMem, oVw, oEnt, oBef, oBk, oVs, oVec, oCon] <;> omega) | omega | decide), hF_14 0 (by first | (simp only [oNum, oKno, oSig, oPro, oFst, oSnd, oBox, oLet, oLts, oMem, oVw, oEnt, oBef, oBk, oVs, oVec, oCon] <;> omega) | omega | decide) (Or.inl (by first | (simp only [oNum, oKno, oSig, oPro, oFst, oSnd, oBox, oLet, oLts, oMem, oVw, oEnt, oBef, oBk, oVs, oVec, oCon] <;> omega) | omega | decide))]; exact hR1.1)) ?_
    refine xi_iadd hC dX7_operate_69 (pc' := 70) rfl ?_
    refine xp2_sent hC dX7_operate_70 (pc' := 73) rfl xw_f_X7_127 (kd_oMem (by omega)) ?_
    refine xi_iconst (v := nI 0) hC dX7_operate_73 (pc' := 74) rfl (by decide +kernel) ?_
    refine xi_ireturn hC dX7_operate_74 hr rfl ?_
    refine ⟨_, by rw [zc44], fun o ho => ?_, fun T hT => ?_, rfl⟩
    · rw [sw_n (by simp only [oNum, oKno, oSig, oPro, oFst, oSnd, oBox, oLet, oLts, oMem, oVw, oEnt, oBef, oBk, oVs, oVec, oCon] at * <;> omega), hF_21 o (by simp only [oNum, oKno, oSig, oPro, oFst, oSnd, oBox, oLet, oLts, oMem, oVw, oEnt, oBef, oBk, oVs, oVec, oCon] at * <;> omega) (by simp only [oNum, oKno, oSig, oPro, oFst, oSnd, oBox, oLet, oLts, oMem, oVw, oEnt, oBef, oBk, oVs, oVec, oCon] at * <;> omega) (by simp only [oNum, oKno, oSig, oPro, oFst, oSnd, oBox, oLet, oLts, oMem, oVw, oEnt, oBef, oBk, oVs, oVec, oCon] at * <;> omega) (by simp only [oNum, oKno, oSig, oPro, oFst, oSnd, oBox, oLet, oLts, oMem, oVw, oEnt, oBef, oBk, oVs, oVec, oCon] at * <;> omega), hF_14 o (by simp only [oNum, oKno, oSig, oPro, oFst, oSnd, oBox, oLet, oLts, oMem, oVw, oEnt, oBef, oBk, oVs, oVec, oCon] at * <;> omega) (Or.inr (by simp only [oNum, oKno, oSig, oPro, oFst, oSnd, oBox, oLet, oLts, oMem, oVw, oEnt, oBef, oBk, oVs, oVec, oCon] at * <;> omega)), f1 o (by simp only [oNum, oKno, oSig, oPro, oFst, oSnd, oBox, oLet, oLts, oMem, oVw, oEnt, oBef, oBk, oVs, oVec, oCon] at * <;> omega)]
    · rcases hT with ⟨q, -⟩ | ⟨-, -, q1, q2, q3, q4, q5, q6, -, q7, q8, q9, q10⟩
      · exact absurd zc44 q
      · have eU : oU S u v i = oU S1 u v i := by unfold oU; rw [hA2, hA4]
        rw [eU] at q2 q3 q4
        have q8' : mRem S1 v k (T m_keptRow) := by unfold mRem at q8 ⊢; rw [f2 m_row (by decide), f2 m_keptRow (by decide)]; exact q8
        exact R_ok hS1 hN hR1 hi hv hk5 hk1 hx5 hring hE_11 hr_12 hn_13 hF_14 hK_16 hS_17 hE_18 h8_19 hk_20 hF_21 (by rw [q1, eS, sw_o]) (by rw [q2, f2 _ (by decide)]) (by rw [q3, f2 _ (by decide)]) (by rw [q4, f2 _ (by decide)]) (by rw [q5, f2 _ (by decide)]) (by rw [q6, f2 _ (by decide)]) (by rw [q7, f2 _ (by decide)]) q8' (by rw [q9 23 (by decide) (by decide) (by decide), f2 oMod (by decide)]) (fun o o1 o2 o3 o4 o5 o6 o7 o8 => by
          by_cases hs : o = m_shownTo
          · subst hs; rw [q1, eS, sw_o]
          · rw [q10 o o1 hs o2 o3 o4 o5 o6 o7 o8, f2 o hs])
