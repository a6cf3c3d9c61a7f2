
theorem mRaise.alm {S T : XM} {u v i x : Nat} (h : mRaise S u v i x T) : x ≤ 3 ∧ T m_alarmOf = upd (S m_alarmOf) i (nI x) := by
  rcases h with ⟨rfl, rfl⟩ | ⟨rfl, a, c, -, q⟩ | ⟨rfl, T1, q, q2⟩
  · exact ⟨by decide, sw_o⟩
  · exact ⟨by decide, by rw [q.out (by decide) (by decide) (by decide), sw_o]⟩
  · refine ⟨by decide, ?_⟩
    have e : T1 m_alarmOf = upd (S m_alarmOf) i (nI 3) := (q.1 _ (by decide)).trans sw_o
    rcases q2 with ⟨-, q3⟩ | ⟨-, rfl⟩
    · rw [q3.out (by decide) (by decide) (by decide)]; exact e
    · exact e
theorem mOper.alm {S T : XM} {u v i k : Nat} (h : mOper S u v i k T) : T m_alarmOf = S m_alarmOf ∨ ∃ x, x ≤ 3 ∧ T m_alarmOf = upd (S m_alarmOf) i (nI x) := by
  rcases h with ⟨-, T1, q, q2⟩ | ⟨-, -, -, -, -, -, -, -, -, -, -, -, q⟩
  · have := q2.alm
    exact Or.inr ⟨_, this.1, by rw [this.2, q.1 m_alarmOf (by decide), sw_n (by decide)]⟩
  · exact Or.inl (q _ (by decide) (by decide) (by decide) (by decide) (by decide) (by decide) (by decide) (by decide) (by decide))
theorem mOper.kept {S T : XM} {u v i k : Nat} (h : mOper S u v i k T) : T m_keptOf = S m_keptOf ∨ T m_keptOf = upd (S m_keptOf) v (nI (min (k + 1) 5)) := by
  rcases h with ⟨-, T1, q, q2⟩ | ⟨-, -, -, -, -, -, -, -, -, q, -⟩
  · exact Or.inl (by rw [q2.out (by decide) (by decide) (by decide) (by decide) (by decide), q.1 m_keptOf (by decide), sw_n (by decide)])
  · exact Or.inr q
/-- what MW says is kept where its cells are -/
theorem MW.keep {S T : XM} {u w : Nat} (h : MW S u w) (h0 : ∀ k, k = 0 ∨ k = 1 ∨ k = 23 → T oMod k = S oMod k) (h1 : ∀ i, i < 5 → T m_viewOf i = S m_viewOf i ∨ ∃ v, v < w ∧ T m_viewOf i = nI v) (h2 : ∀ v, v < w → T m_keptOf v = S m_keptOf v ∨ ∃ k, k ≤ 5 ∧ T m_keptOf v = nI k) (h3 : ∀ i, i < 5 → T m_lettersOf i = S m_lettersOf i ∨ ∃ z, z ≤ 4 ∧ T m_lettersOf i = nI z) (h4 : ∀ i, i < 5 → T m_alarmOf i = S m_alarmOf i ∨ ∃ a, a ≤ 5 ∧ T m_alarmOf i = nI a) : MW T u w := by
  obtain ⟨hU, hN, hVw, hKp, hLt, hTx, hAl⟩ := h
  refine ⟨⟨by rw [h0 0 (Or.inl rfl)]; exact hU.1, hU.2⟩, ⟨by rw [h0 1 (Or.inr (Or.inl rfl))]; exact hN.1, hN.2⟩, fun i hi => ?_, fun v hv => ?_, fun i hi => ?_, by rw [h0 23 (Or.inr (Or.inr rfl))]; exact hTx, fun i hi => ?_⟩
  · rcases h1 i hi with q | q
    · rw [q]; exact hVw i hi
    · exact q
  · rcases h2 v hv with q | q
    · rw [q]; exact hKp v hv
    · exact q
  · rcases h3 i hi with q | q
    · rw [q]; exact hLt i hi
    · exact q
  · rcases h4 i hi with q | q
    · rw [q]; exact hAl i hi
    · exact q
theorem upd_or {f : Nat → Int32} {i a N : Nat} (ha : a ≤ N) (j : Nat) : upd f i (nI a) j = f j ∨ ∃ z, z ≤ N ∧ upd f i (nI a) j = nI z := by
  by_cases q : j = i
  · subst q; exact Or.inr ⟨a, ha, upd_s⟩
  · exact Or.inl (upd_n q)
def MT (S T : XM) (u w : Nat) : Prop := MW T u w ∧ T m_text = S m_text ∧ T oMod 23 = S oMod 23
theorem MT.rf {S : XM} {u w : Nat} (h : MW S u w) : MT S S u w := ⟨h, rfl, rfl⟩
theorem MT_oper {S T1 T : XM} {u w v i k : Nat} (h : MW S u w) (ho : mOper S u v i k T1) (hk : ∀ k, k = 0 ∨ k = 1 ∨ k = 23 → T oMod k = T1 oMod k) (ht : ∀ o, o = m_viewOf ∨ o = m_keptOf ∨ o = m_lettersOf ∨ o = m_alarmOf ∨ o = m_text → T o = T1 o) : MT S T u w := by
  refine ⟨h.keep (fun k q => ?_) (fun i hi => Or.inl ?_) (fun v hv => ?_) (fun i hi => Or.inl ?_) (fun i hi => ?_), ?_, ?_⟩
  · rw [hk k q]
    exact ho.m (by omega) (by omega) (by omega)
  · rw [ht _ (Or.inl rfl), ho.out (Or.inl rfl)]
  · rw [ht _ (Or.inr (Or.inl rfl))]
    rcases ho.kept with q | q <;> rw [q]
    · exact Or.inl rfl
    · exact upd_or (by omega) v
  · rw [ht _ (Or.inr (Or.inr (Or.inl rfl))), ho.out (Or.inr (Or.inr (Or.inr (Or.inl rfl))))]
  · rw [ht _ (Or.inr (Or.inr (Or.inr (Or.inl rfl))))]
    rcases ho.alm with q | ⟨x, hx, q⟩ <;> rw [q]
    · exact Or.inl rfl
    · exact upd_or (by omega) i
  · rw [ht _ (Or.inr (Or.inr (Or.inr (Or.inr rfl)))), ho.out (Or.inr (Or.inr (Or.inr (Or.inr (Or.inr rfl)))))]
  · rw [hk 23 (Or.inr (Or.inr rfl))]
    exact ho.m (by decide) (by decide) (by decide)
theorem MT_write {S T : XM} {u w : Nat} {x y r : Int32} (h : MW S u w) (hs : s_write S u x y r T) : MT S T u w := by
  by_cases h1 : isU u x
  · obtain ⟨i, hi, rfl⟩ := h1
    have hs := hs.2 i hi rfl
    by_cases h2 : inR y
    · have hs := hs.2 h2
      by_cases h3 : 0 < S m_alarmOf i
      · rw [(hs.1 h3).2]; exact MT.rf h
      · obtain ⟨v, hv, hV⟩ := h.2.2.1 i (by have := h.1.2; omega)
        obtain ⟨k, hk5, hk⟩ := h.2.2.2.1 v hv
        obtain ⟨T1, q, -, q1, q2⟩ := hs.2 h3 v k (by have := h.2.1.2; omega) hk5 hV hk
        by_cases h4 : al S u v i = 0
        · rw [q1 h4]
          exact MT_oper h q (fun k _ => by rw [sw_n (by decide)]) (fun o ho => sw_n (by rcases ho with rfl | rfl | rfl | rfl | rfl <;> decide))
        · rw [q2 h4]
          exact MT_oper h q (fun _ _ => rfl) (fun _ _ => rfl)
    · rw [(hs.1 h2).2]; exact MT.rf h
  · rw [(hs.1 h1).2]; exact MT.rf h
theorem MT_read {S T : XM} {u w : Nat} {x y r : Int32} (h : MW S u w) (hs : s_read S u x y r T) : MT S T u w := by
  by_cases h1 : isU u x ∧ isU u y
  · obtain ⟨⟨i, hi, rfl⟩, ⟨j, hj, rfl⟩⟩ := h1
    have hs := hs.2 i j hi hj rfl rfl
    by_cases h3 : 0 < S m_alarmOf i
    · rw [(hs.1 h3).2]; exact MT.rf h
    · obtain ⟨v, hv, hV⟩ := h.2.2.1 i (by have := h.1.2; omega)
      obtain ⟨k, hk5, hk⟩ := h.2.2.2.1 v hv
      obtain ⟨T1, q, -, q1, q2⟩ := hs.2 h3 v k (by have := h.2.1.2; omega) hk5 hV hk
      by_cases h4 : al S u v i = 0
      · rw [q1 h4]
        exact MT_oper h q (fun k _ => by rw [sw_n (by decide), sw_n (by decide)]) (fun o ho => by rw [sw_n (by rcases ho with rfl | rfl | rfl | rfl | rfl <;> decide), sw_n (by rcases ho with rfl | rfl | rfl | rfl | rfl <;> decide)])
      · rw [q2 h4]
        exact MT_oper h q (fun _ _ => rfl) (fun _ _ => rfl)
  · rw [(hs.1 h1).2]; exact MT.rf h
theorem MT_send {S T : XM} {u w : Nat} {x y r : Int32} (h : MW S u w) (hs : s_send S u x y r T) : MT S T u w := by
  by_cases h1 : isU u x ∧ isU u y
  · obtain ⟨⟨i, hi, rfl⟩, ⟨j, hj, rfl⟩⟩ := h1
    have hs := hs.2 i j hi hj rfl rfl
    by_cases h3 : i = j
    · rw [(hs.1 h3).2]; exact MT.rf h
    · obtain ⟨z, hz4, hz⟩ := h.2.2.2.2.1 j (by have := h.1.2; omega)
      have hs := hs.2 h3 z hz4 hz
      by_cases h4 : z = 4
      · rw [(hs.1 h4).2]; exact MT.rf h
      · obtain ⟨-, -, q1, -, q2⟩ := hs.2 h4
        refine ⟨h.keep (fun k _ => by rw [q2 oMod (by decide) (by decide) (by decide)]) (fun i _ => Or.inl (by rw [q2 m_viewOf (by decide) (by decide) (by decide)])) (fun v _ => Or.inl (by rw [q2 m_keptOf (by decide) (by decide) (by decide)])) (fun i _ => by rw [q1]; exact upd_or (by omega) i) (fun i _ => Or.inl (by rw [q2 m_alarmOf (by decide) (by decide) (by decide)])), q2 m_text (by decide) (by decide) (by decide), by rw [q2 oMod (by decide) (by decide) (by decide)]⟩
  · rw [(hs.1 h1).2]; exact MT.rf h
theorem MT_attach {S T : XM} {u w : Nat} {x y r : Int32} (h : MW S u w) (hs : s_attach S u w x y r T) : MT S T u w := by
  by_cases h1 : isU u x ∧ isU w y
  · obtain ⟨⟨i, hi, rfl⟩, ⟨v, hv, rfl⟩⟩ := h1
    obtain ⟨-, rfl⟩ := hs.2 i v hi hv rfl rfl
    refine ⟨h.keep (fun k _ => by rw [sw_n (by decide)]) (fun j _ => ?_) (fun v _ => Or.inl (by rw [sw_n (by decide)])) (fun i _ => Or.inl (by rw [sw_n (by decide)])) (fun i _ => Or.inl (by rw [sw_n (by decide)])), sw_n (by decide), by rw [sw_n (by decide)]⟩
    rw [sw_o]
    by_cases q : j = i
    · subst q; exact Or.inr ⟨v, hv, upd_s⟩
    · exact Or.inl (upd_n q)
  · rw [(hs.1 h1).2]; exact MT.rf h
theorem MT_take {S T : XM} {u w i z : Nat} (h : MW S u w) (hz : z ≤ 4) (q : mTake S i z T) : MT S T u w := by
  obtain ⟨-, q1, -, q2⟩ := q
  exact ⟨h.keep (fun k _ => by rw [q2 oMod (by decide) (by decide) (by decide)]) (fun i _ => Or.inl (by rw [q2 m_viewOf (by decide) (by decide) (by decide)])) (fun v _ => Or.inl (by rw [q2 m_keptOf (by decide) (by decide) (by decide)])) (fun i _ => by rw [q1]; exact upd_or (by omega) i) (fun i _ => Or.inl (by rw [q2 m_alarmOf (by decide) (by decide) (by decide)])), q2 m_text (by decide) (by decide) (by decide), by rw [q2 oMod (by decide) (by decide) (by decide)]⟩
theorem MT.same {S T1 T : XM} {u w : Nat} (h : MT S T1 u w) (q : ∀ o, o ≠ m_knownOf → o ≠ m_alarmOf → o ≠ m_hasProof → o ≠ m_depthOf → o ≠ m_proofOf → T o = T1 o) (qa : ∀ i, i < 5 → T m_alarmOf i = T1 m_alarmOf i ∨ ∃ a, a ≤ 5 ∧ T m_alarmOf i = nI a) : MT S T u w := by
  refine ⟨h.1.keep (fun k _ => ?_) (fun i _ => Or.inl ?_) (fun v _ => Or.inl ?_) (fun i _ => Or.inl ?_) qa, ?_, ?_⟩
  · rw [q oMod (by decide) (by decide) (by decide) (by decide) (by decide)]
  · rw [q m_viewOf (by decide) (by decide) (by decide) (by decide) (by decide)]
  · rw [q m_keptOf (by decide) (by decide) (by decide) (by decide) (by decide)]
  · rw [q m_lettersOf (by decide) (by decide) (by decide) (by decide) (by decide)]
  · rw [q m_text (by decide) (by decide) (by decide) (by decide) (by decide)]; exact h.2.1
  · rw [q oMod (by decide) (by decide) (by decide) (by decide) (by decide)]; exact h.2.2
theorem MT_readL {S T : XM} {u w : Nat} {x r : Int32} (h : MW S u w) (hs : s_readL S u x r T) : MT S T u w := by
  by_cases h1 : isU u x
  · obtain ⟨i, hi, rfl⟩ := h1
    obtain ⟨z, hz4, hz⟩ := h.2.2.2.2.1 i (by have := h.1.2; omega)
    obtain ⟨hs0, hs⟩ := hs.2 i hi rfl z hz4 hz
    by_cases h3 : z = 0
    · rw [(hs0 h3).2]; exact MT.rf h
    · obtain ⟨T1, q, q1, q2⟩ := hs h3
      have hm := MT_take h hz4 q
      by_cases h4 : vle u (sl (S m_letter) (20 * i)) (rK S i)
      · rw [(q1 h4).2]; exact hm
      · have q2 := q2 h4
        by_cases h5 : vle u (rK S i) (sl (S m_letter) (20 * i))
        · obtain ⟨-, -, q3⟩ := q2.1 h5
          exact hm.same (fun o o1 _ _ _ _ => q3 o o1) (fun i _ => Or.inl (by rw [q3 _ (by decide)]))
        · obtain ⟨-, T2, a1, a2, q3⟩ := q2.2 h5
          have e : ∀ o, o ≠ m_alarmOf → T2 o = T1 o := fun o o1 => by
            by_cases h6 : 0 < S m_alarmOf i
            · rw [a1 h6]; exact sw_n o1
            · rw [a2 h6]; exact sw_n o1
          refine hm.same (fun o _ o2 o3 o4 o5 => (q3.out o3 o4 o5).trans (e o o2)) (fun j hj => ?_)
          rw [q3.out (by decide) (by decide) (by decide)]
          have eA : T1 m_alarmOf = S m_alarmOf := q.2.2.2 _ (by decide) (by decide) (by decide)
          by_cases h6 : 0 < S m_alarmOf i
          · rw [a1 h6, sw_o, ← upd_self (by rw [eA])]; exact Or.inl rfl
          · rw [a2 h6, sw_o]; exact upd_or (by decide) j
  · rw [(hs.1 h1).2]; exact MT.rf h
theorem MT.tr {S T U : XM} {u w : Nat} (h : MT S T u w) (h2 : MT T U u w) : MT S U u w := ⟨h2.1, h2.2.1.trans h.2.1, h2.2.2.trans h.2.2⟩
theorem MT_reads {u w : Nat} {x : Int32} : ∀ (n : Nat) {S T : XM} {ok : Bool}, MW S u w → s_reads u x n S ok T → MT S T u w
  | 0, S, T, ok, h, hs => by rw [hs.2]; exact MT.rf h
  | n + 1, S, T, ok, h, hs => by
    obtain ⟨r, T1, q, ⟨-, -, q1⟩ | ⟨-, q1⟩⟩ := hs
    · rw [q1]; exact MT_readL h q
    · exact (MT_readL h q).tr (MT_reads n (MT_readL h q).1 q1)
theorem MT_cmd {S T : XM} {u w z : Nat} {ch x : Int32} {ok : Bool} (h : MW S u w) (hL : isL ch) (hz : z ≤ 9) (hs : s_cmd S u w ch x (nI z) ok T) : MT S T u w := by
  obtain ⟨q1, q2, q3, q4, q5⟩ := hs
  rcases hL with e | e | e | e | e
  · obtain ⟨r, q, -⟩ := q1 e; exact MT_write h q
  · obtain ⟨r, q, -⟩ := q2 e; exact MT_read h q
  · obtain ⟨r, q, -⟩ := q3 e; exact MT_send h q
  · obtain ⟨a, c⟩ := q5 e z hz rfl
    by_cases hx : isU u x
    · exact MT_reads z h (c hx)
    · rw [(a hx).2]; exact MT.rf h
  · obtain ⟨r, q, -⟩ := q4 e; exact MT_attach h q
theorem fb_le {ok : Nat → Prop} : ∀ n, fb ok n ≤ n
  | 0 => Nat.le_refl _
  | n + 1 => by
    rw [fb_s]
    by_cases h : fb ok n < n
    · rw [if_pos h]; omega
    · rw [if_neg h]
      by_cases h2 : ok n
      · rw [if_pos h2]; exact Nat.le_refl _
      · rw [if_neg h2]; omega
theorem fb_ok {ok : Nat → Prop} : ∀ {n : Nat}, fb ok n = n → ∀ i, i < n → ok i
  | 0, _, i, hi => absurd hi (Nat.not_lt_zero _)
  | n + 1, h, i, hi => by
    rw [fb_s] at h
    have hl := fb_le (ok := ok) n
    by_cases h1 : fb ok n < n
    · rw [if_pos h1] at h; omega
    · rw [if_neg h1] at h
      by_cases h2 : ok n
      · rcases Nat.lt_or_ge i n with q | q
        · exact fb_ok (by omega) i q
        · rw [show i = n by omega]; exact h2
      · rw [if_neg h2] at h; omega
theorem tf_t {a : Int32} {f : Nat → Int32} {z : Nat} (h : fb (okc f) z = z ∧ z % 3 = 0) : tfault a f z = a := if_pos h
theorem tf_f {a : Int32} {f : Nat → Int32} {z : Nat} (h : ¬ (fb (okc f) z = z ∧ z % 3 = 0)) : tfault a f z = nI (fb (okc f) z) := if_neg h
theorem isD_n {x : Int32} (h : isD x) : ∃ z, z ≤ 9 ∧ x - nI 48 = nI z := by
  obtain ⟨j, hj, rfl⟩ := nI_of (x := x) (fun q => absurd (Int32.lt_of_le_of_lt h.1 q) (by decide))
  have h1 := (nI_leI (by decide) hj).mp h.1
  have h2 := (nI_leI hj (by decide)).mp h.2
  exact ⟨j - 48, by omega, pk_sub (by omega)⟩
set_option maxRecDepth 100000 in
set_option maxHeartbeats 4000000 in
theorem c_X8_type (l : Launch) (D : XD) (b n : Nat) {C S : XM} {u w : Nat} (hW : MW S u w) {x : Int32} (hx : vp_nar .char x = x)  : xM l yX8_type cX8_type 2 (some .int) 0 0 0 0 D b n [.ref (b + oMod), .int x] (xH D b (jn C S)) n (fun y' h' => ∃ (r : Int32) (T : XM), y' = some (.int r) ∧ s_type S x r T ∧ h' = xH D b (jn C T)) := by
  refine xM.of (lv := [some (.ref (b + oMod)), some (.int x)]) (by decide +kernel) rfl (List.forall_mem_cons.mpr ⟨rfl, List.forall_mem_cons.mpr ⟨rfl, fun _ h => absurd h List.not_mem_nil⟩⟩) (Nat.le_of_ble_eq_true rfl) rfl ?_
  intro p e s m args below meth c hC hr hnm
  obtain ⟨hU, hN, hVw, hKp, hLt, hTx, hAl⟩ := id hW
  obtain ⟨hu, hu2, hu5⟩ := id hU
  obtain ⟨hn, hw1, hw6⟩ := id hN
  obtain ⟨t, ht60, ht⟩ := id hTx
  refine xi_aload_n hC dX8_type_0 (pc' := 1) rfl rfl rfl ?_
  refine xt_g_typed hC dX8_type_1 (pc' := 4) rfl xw_f_X8_146 ?_
  refine xtop (y := (nI t)) (ht) ?_
  refine xi_bipush (v := nI 60) hC dX8_type_4 (pc' := 6) rfl (by decide +kernel) ?_
  refine xn_icmpne (tgt := 13) hC dX8_type_6 (pc' := 9) rfl (by decide) (by omega) (by omega) (fun zc6 => ?_) (fun zc6 => ?_)
  · skip
    refine xi_aload_n hC dX8_type_13 (pc' := 14) rfl rfl rfl ?_
    refine xg8_text hC dX8_type_14 (pc' := 17) rfl xw_f_X8_65 kd_oMod ?_
    refine xi_aload_n hC dX8_type_17 (pc' := 18) rfl rfl rfl ?_
    refine xt_g_typed hC dX8_type_18 (pc' := 21) rfl xw_f_X8_146 ?_
    refine xtop (y := (nI t)) (ht) ?_
    refine xi_iload_n hC dX8_type_21 (pc' := 22) rfl rfl rfl ?_
    refine xt_s_c hC dX8_type_22 (pc' := 23) rfl (N := 60) kd_m_text (by decide) (by decide) rfl (by omega) (by assumption) ?_
    refine xi_aload_n hC dX8_type_23 (pc' := 24) rfl rfl rfl ?_
    refine xi_dup hC dX8_type_24 (pc' := 25) rfl rfl ?_
    refine xt_g_typed hC dX8_type_25 (pc' := 28) rfl xw_f_X8_146 ?_
    refine xtop (y := (S oMod 23)) (by rw [sw_n (q := oMod) (o := m_text) (by first | (simp only [oMs, oVws, oScr, oSgn, oMod, oMem, oSig, oKno, oPro, oBox, oFst, oSnd, oLts, oLet, oNum, oVw, oEnt, oBef, oBk, oVs, oCon, oVec, m_row, m_keptOf, m_keptRow, m_viewOf, m_alarmOf, m_hasProof, m_depthOf, m_proofOf, m_signedOf, m_knownOf, m_doneOf, m_shownTo, m_sentBy, m_hasRead, m_readOf, m_lettersOf, m_letter, m_hand, m_text] <;> omega) | decide | omega | (simp only [oMs, oVws, oScr, oSgn, oMod, oMem, oSig, oKno, oPro, oBox, oFst, oSnd, oLts, oLet, oNum, oVw, oEnt, oBef, oBk, oVs, oCon, oVec, m_row, m_keptOf, m_keptRow, m_viewOf, m_alarmOf, m_hasProof, m_depthOf, m_proofOf, m_signedOf, m_knownOf, m_doneOf, m_shownTo, m_sentBy, m_hasRead, m_readOf, m_lettersOf, m_letter, m_hand, m_text] at * <;> omega))]) ?_
    refine xtop (y := (nI t)) (ht) ?_
    refine xi_iconst (v := nI 1) hC dX8_type_28 (pc' := 29) rfl (by decide +kernel) ?_
    refine xn_iadd hC dX8_type_29 (pc' := 30) rfl ?_
    refine xt_p_typed hC dX8_type_30 (pc' := 33) rfl xw_f_X8_146 ?_
    refine xi_aload_n hC dX8_type_33 (pc' := 34) rfl rfl rfl ?_
    refine xt_g_typed hC dX8_type_34 (pc' := 37) rfl xw_f_X8_146 ?_
    refine xtop (y := (nI (t + 1))) (by rw [sw_s]) ?_
    refine xi_ireturn hC dX8_type_37 hr rfl ?_
    refine ⟨_, _, rfl, fun t' ht' e => ?_, rfl⟩
    obtain rfl := nI_inj (by omega) (by omega) (ht.symm.trans e)
    exact ⟨fun q => absurd q zc6, fun _ => ⟨rfl, rfl⟩⟩
  · skip
    refine xi_sipush (v := -10004) hC dX8_type_9 (pc' := 12) rfl (by decide +kernel) ?_
    refine xi_ireturn hC dX8_type_12 hr rfl ?_
    refine ⟨_, S, rfl, fun t' ht' e => ?_, rfl⟩
    obtain rfl := nI_inj (by omega) (by omega) (ht.symm.trans e)
    exact ⟨fun _ => ⟨rfl, rfl⟩, fun q => absurd zc6 q⟩

set_option maxRecDepth 100000 in
set_option maxHeartbeats 4000000 in
theorem c_X8_clearText (l : Launch) (D : XD) (b n : Nat) {C S : XM}  : xM l yX8_clearText cX8_clearText 2 (some .int) 0 0 0 0 D b n [.ref (b + oMod)] (xH D b (jn C S)) n (fun y' h' => ∃ (r : Int32) (T : XM), y' = some (.int r) ∧ s_clear S r T ∧ h' = xH D b (jn C T)) := by
  refine xM.of (lv := [some (.ref (b + oMod)), none]) (by decide +kernel) rfl (List.forall_mem_cons.mpr ⟨rfl, fun _ h => absurd h List.not_mem_nil⟩) (Nat.le_of_ble_eq_true rfl) rfl ?_
  intro p e s m args below meth c hC hr hnm
  refine xi_aload_n hC dX8_clearText_0 (pc' := 1) rfl rfl rfl ?_
  refine xt_g_typed hC dX8_clearText_1 (pc' := 4) rfl xw_f_X8_146 ?_
  refine xi_istore_n (lv' := [some (.ref (b + oMod)), some (.int (S oMod 23))]) hC dX8_clearText_4 (pc' := 5) rfl rfl (by decide) rfl ?_
  refine xi_aload_n hC dX8_clearText_5 (pc' := 6) rfl rfl rfl ?_
  refine xi_iconst (v := nI 0) hC dX8_clearText_6 (pc' := 7) rfl (by decide +kernel) ?_
  refine xt_p_typed hC dX8_clearText_7 (pc' := 10) rfl xw_f_X8_146 ?_
  refine xi_iload_n hC dX8_clearText_10 (pc' := 11) rfl rfl rfl ?_
  refine xi_ireturn hC dX8_clearText_11 hr rfl ?_
  exact ⟨_, _, rfl, ⟨rfl, rfl⟩, rfl⟩

set_option maxRecDepth 100000 in
set_option maxHeartbeats 4000000 in
theorem c_X8_isCommand (l : Launch) (D : XD) (b n : Nat) {C S : XM} {x : Int32} : xM l yX8_isCommand cX8_isCommand 1 (some .boolean) 0 0 0 0 D b n [.int x] (xH D b (jn C S)) n (fun v h' => v = some (.int (bI (isL x))) ∧ h' = xH D b (jn C S)) := by
  refine xM.of (lv := [some (.int x)]) (by decide +kernel) rfl (List.forall_mem_cons.mpr ⟨rfl, fun _ h => absurd h List.not_mem_nil⟩) (Nat.le_of_ble_eq_true rfl) rfl ?_
  intro p e s m args below meth c hC hr hnm
  refine xi_iload_n hC dX8_isCommand_0 (pc' := 1) rfl rfl rfl ?_
  refine xi_bipush (v := nI 119) hC dX8_isCommand_1 (pc' := 3) rfl (by decide +kernel) ?_
  refine xi_icmpeq (tgt := 30) hC dX8_isCommand_3 (pc' := 6) rfl (by decide) (fun zc3 => ?_) (fun zc3 => ?_)
  · skip
    refine xi_iconst (v := nI 1) hC dX8_isCommand_30 (pc' := 31) rfl (by decide +kernel) ?_
    refine xi_goto (tgt := 35) hC dX8_isCommand_31 (by decide) ?_
    refine xb_ireturn hC dX8_isCommand_35 hr (by decide) rfl ?_
    exact ⟨by rw [bI_t (show isL x from by first | exact Or.inl (by assumption) | exact Or.inr (Or.inl (by assumption)) | exact Or.inr (Or.inr (Or.inl (by assumption))) | exact Or.inr (Or.inr (Or.inr (Or.inl (by assumption)))) | exact Or.inr (Or.inr (Or.inr (Or.inr (by assumption)))))], rfl⟩
  · skip
    refine xi_iload_n hC dX8_isCommand_6 (pc' := 7) rfl rfl rfl ?_
    refine xi_bipush (v := nI 114) hC dX8_isCommand_7 (pc' := 9) rfl (by decide +kernel) ?_
    refine xi_icmpeq (tgt := 30) hC dX8_isCommand_9 (pc' := 12) rfl (by decide) (fun zc9 => ?_) (fun zc9 => ?_)
    · skip
      refine xi_iconst (v := nI 1) hC dX8_isCommand_30 (pc' := 31) rfl (by decide +kernel) ?_
      refine xi_goto (tgt := 35) hC dX8_isCommand_31 (by decide) ?_
      refine xb_ireturn hC dX8_isCommand_35 hr (by decide) rfl ?_
      exact ⟨by rw [bI_t (show isL x from by first | exact Or.inl (by assumption) | exact Or.inr (Or.inl (by assumption)) | exact Or.inr (Or.inr (Or.inl (by assumption))) | exact Or.inr (Or.inr (Or.inr (Or.inl (by assumption)))) | exact Or.inr (Or.inr (Or.inr (Or.inr (by assumption)))))], rfl⟩
    · skip
      refine xi_iload_n hC dX8_isCommand_12 (pc' := 13) rfl rfl rfl ?_
      refine xi_bipush (v := nI 115) hC dX8_isCommand_13 (pc' := 15) rfl (by decide +kernel) ?_
      refine xi_icmpeq (tgt := 30) hC dX8_isCommand_15 (pc' := 18) rfl (by decide) (fun zc15 => ?_) (fun zc15 => ?_)
      · skip
        refine xi_iconst (v := nI 1) hC dX8_isCommand_30 (pc' := 31) rfl (by decide +kernel) ?_
        refine xi_goto (tgt := 35) hC dX8_isCommand_31 (by decide) ?_
        refine xb_ireturn hC dX8_isCommand_35 hr (by decide) rfl ?_
        exact ⟨by rw [bI_t (show isL x from by first | exact Or.inl (by assumption) | exact Or.inr (Or.inl (by assumption)) | exact Or.inr (Or.inr (Or.inl (by assumption))) | exact Or.inr (Or.inr (Or.inr (Or.inl (by assumption)))) | exact Or.inr (Or.inr (Or.inr (Or.inr (by assumption)))))], rfl⟩
      · skip
        refine xi_iload_n hC dX8_isCommand_18 (pc' := 19) rfl rfl rfl ?_
        refine xi_bipush (v := nI 103) hC dX8_isCommand_19 (pc' := 21) rfl (by decide +kernel) ?_
        refine xi_icmpeq (tgt := 30) hC dX8_isCommand_21 (pc' := 24) rfl (by decide) (fun zc21 => ?_) (fun zc21 => ?_)
        · skip
          refine xi_iconst (v := nI 1) hC dX8_isCommand_30 (pc' := 31) rfl (by decide +kernel) ?_
          refine xi_goto (tgt := 35) hC dX8_isCommand_31 (by decide) ?_
          refine xb_ireturn hC dX8_isCommand_35 hr (by decide) rfl ?_
          exact ⟨by rw [bI_t (show isL x from by first | exact Or.inl (by assumption) | exact Or.inr (Or.inl (by assumption)) | exact Or.inr (Or.inr (Or.inl (by assumption))) | exact Or.inr (Or.inr (Or.inr (Or.inl (by assumption)))) | exact Or.inr (Or.inr (Or.inr (Or.inr (by assumption)))))], rfl⟩
        · skip
          refine xi_iload_n hC dX8_isCommand_24 (pc' := 25) rfl rfl rfl ?_
          refine xi_bipush (v := nI 109) hC dX8_isCommand_25 (pc' := 27) rfl (by decide +kernel) ?_
          refine xi_icmpne (tgt := 34) hC dX8_isCommand_27 (pc' := 30) rfl (by decide) (fun zc27 => ?_) (fun zc27 => ?_)
          · skip
            refine xi_iconst (v := nI 0) hC dX8_isCommand_34 (pc' := 35) rfl (by decide +kernel) ?_
            refine xb_ireturn hC dX8_isCommand_35 hr (by decide) rfl ?_
            exact ⟨by rw [bI_f (show ¬ isL x from fun z => by rcases z with z | z | z | z | z; exact zc3 z; exact zc9 z; exact zc15 z; exact zc21 z; exact zc27 z)], rfl⟩
          · skip
            refine xi_iconst (v := nI 1) hC dX8_isCommand_30 (pc' := 31) rfl (by decide +kernel) ?_
            refine xi_goto (tgt := 35) hC dX8_isCommand_31 (by decide) ?_
            refine xb_ireturn hC dX8_isCommand_35 hr (by decide) rfl ?_
            exact ⟨by rw [bI_t (show isL x from by first | exact Or.inl (by assumption) | exact Or.inr (Or.inl (by assumption)) | exact Or.inr (Or.inr (Or.inl (by assumption))) | exact Or.inr (Or.inr (Or.inr (Or.inl (by assumption)))) | exact Or.inr (Or.inr (Or.inr (Or.inr (by assumption)))))], rfl⟩

set_option maxRecDepth 100000 in
set_option maxHeartbeats 4000000 in
theorem c_X8_fault (l : Launch) (D : XD) (b n : Nat) {C S : XM} {t : Nat} (ht60 : t ≤ 60) (ht : S oMod 23 = nI t) : xM l yX8_fault cX8_fault 3 (some .int) 1 20 0 0 D b n [.ref (b + oMod)] (xH D b (jn C S)) n (fun v h' => v = some (.int (tfault (-10005) (S m_text) t)) ∧ h' = xH D b (jn C S)) := by
  refine xM.of (lv := [some (.ref (b + oMod)), none, none]) (by decide +kernel) rfl (List.forall_mem_cons.mpr ⟨rfl, fun _ h => absurd h List.not_mem_nil⟩) (Nat.le_of_ble_eq_true rfl) rfl ?_
  intro p e s m args below meth c hC hr hnm
  refine xi_iconst (v := nI 0) hC dX8_fault_0 (pc' := 1) rfl (by decide +kernel) ?_
  refine xi_istore_n (lv' := [some (.ref (b + oMod)), some (.int (nI 0)), none]) hC dX8_fault_1 (pc' := 2) rfl rfl (by decide) rfl ?_
  have L2 : ∀ (d : Nat) (i : Nat) (v2 : Option Value), t - i < d → (i ≤ t) → (∀ j, j < i → okc (S m_text) j) → xV p l e (xR 1 20 0 0) s m args below meth c D b 3 0 0 (MQ below (xQ D b n (fun v h' => v = some (.int (tfault (-10005) (S m_text) t)) ∧ h' = xH D b (jn C S))) args s 0 0 (fun q => b ≤ q)) n (xH D b (jn C S)) 2 [some (.ref (b + oMod)), some (.int (nI i)), v2] [] := by
    intro d
    induction d with
    | zero => intro i v2 h; exact absurd h (Nat.not_lt_zero _)
    | succ d ih2 =>
      intro i v2 hd2 hi hA
      refine xi_iload_n hC dX8_fault_2 (pc' := 3) rfl rfl rfl ?_
      refine xi_aload_n hC dX8_fault_3 (pc' := 4) rfl rfl rfl ?_
      refine xt_g_typed hC dX8_fault_4 (pc' := 7) rfl xw_f_X8_146 ?_
      refine xtop (y := (nI t)) (ht) ?_
      refine xn_icmpge (tgt := 68) hC dX8_fault_7 (pc' := 10) rfl (by decide) (by omega) (by omega) (fun zc7 => ?_) (fun zc7 => ?_)
      · skip
        refine xi_aload_n hC dX8_fault_68 (pc' := 69) rfl rfl rfl ?_
        refine xt_g_typed hC dX8_fault_69 (pc' := 72) rfl xw_f_X8_146 ?_
        refine xtop (y := (nI t)) (ht) ?_
        refine xi_iconst (v := nI 3) hC dX8_fault_72 (pc' := 73) rfl (by decide +kernel) ?_
        refine xi_irem hC dX8_fault_73 (pc' := 74) rfl (by decide) ?_
        refine xtop (y := nI (t % 3)) (pk_rem (by omega) (by decide) (by decide)) ?_
        refine xn_ifne (tgt := 83) hC dX8_fault_74 (pc' := 77) rfl (by decide) (by omega) (fun zc74 => ?_) (fun zc74 => ?_)
        · skip
          refine xi_aload_n hC dX8_fault_83 (pc' := 84) rfl rfl rfl ?_
          refine xt_g_typed hC dX8_fault_84 (pc' := 87) rfl xw_f_X8_146 ?_
          refine xtop (y := (nI t)) (ht) ?_
          refine xi_ireturn hC dX8_fault_87 hr rfl ?_
          obtain rfl : i = t := by omega
          first
            | exact ⟨by rw [tfault_ok hA zc74], rfl⟩
            | exact ⟨by rw [tfault_cut hA zc74], rfl⟩
        · skip
          refine xi_sipush (v := -10005) hC dX8_fault_77 (pc' := 80) rfl (by decide +kernel) ?_
          refine xi_goto (tgt := 87) hC dX8_fault_80 (by decide) ?_
          refine xi_ireturn hC dX8_fault_87 hr rfl ?_
          obtain rfl : i = t := by omega
          first
            | exact ⟨by rw [tfault_ok hA zc74], rfl⟩
            | exact ⟨by rw [tfault_cut hA zc74], rfl⟩
      · skip
        refine xi_iload_n hC dX8_fault_10 (pc' := 11) rfl rfl rfl ?_
        refine xi_iconst (v := nI 3) hC dX8_fault_11 (pc' := 12) rfl (by decide +kernel) ?_
        refine xi_irem hC dX8_fault_12 (pc' := 13) rfl (by decide) ?_
        refine xtop (y := nI (i % 3)) (pk_rem (by omega) (by decide) (by decide)) ?_
        refine xn_ifne (tgt := 28) hC dX8_fault_13 (pc' := 16) rfl (by decide) (by omega) (fun zc13 => ?_) (fun zc13 => ?_)
        · skip
          refine xi_aload_n hC dX8_fault_28 (pc' := 29) rfl rfl rfl ?_
          refine xg8_text hC dX8_fault_29 (pc' := 32) rfl xw_f_X8_65 kd_oMod ?_
          refine xi_iload_n hC dX8_fault_32 (pc' := 33) rfl rfl rfl ?_
          refine xt_l_c hC dX8_fault_33 (pc' := 34) rfl (N := 60) kd_m_text (by decide) (by decide) rfl (by omega) ?_
          refine xi_bipush (v := nI 48) hC dX8_fault_34 (pc' := 36) rfl (by decide +kernel) ?_
          refine xi_icmplt (tgt := 54) hC dX8_fault_36 (pc' := 39) rfl (by decide) (fun zc36 => ?_) (fun zc36 => ?_)
          · skip
            refine xi_iconst (v := nI 0) hC dX8_fault_54 (pc' := 55) rfl (by decide +kernel) ?_
            refine xi_istore_n (lv' := [some (.ref (b + oMod)), some (.int (nI i)), some (.int (nI 0))]) hC dX8_fault_55 (pc' := 56) rfl rfl (by decide) rfl ?_
            refine xi_iload_n hC dX8_fault_56 (pc' := 57) rfl rfl rfl ?_
            refine xn_ifne (tgt := 62) hC dX8_fault_57 (pc' := 60) rfl (by decide) (by omega) (fun zc57 => ?_) (fun zc57 => ?_)
            · exact absurd zc57 (by decide)
            · skip
              refine xi_iload_n hC dX8_fault_60 (pc' := 61) rfl rfl rfl ?_
              refine xi_ireturn hC dX8_fault_61 hr rfl ?_
              refine ⟨?_, rfl⟩
              rw [tfault_bad (i := i) (fun q => ?_) hA (by omega)]
              first
                | exact zc57 (q.1 zc13)
                | exact i_not_lt.mpr (q.2 zc13).1 zc36
                | exact i_not_lt.mpr (q.2 zc13).2 zc47
          · skip
            refine xi_aload_n hC dX8_fault_39 (pc' := 40) rfl rfl rfl ?_
            refine xg8_text hC dX8_fault_40 (pc' := 43) rfl xw_f_X8_65 kd_oMod ?_
            refine xi_iload_n hC dX8_fault_43 (pc' := 44) rfl rfl rfl ?_
            refine xt_l_c hC dX8_fault_44 (pc' := 45) rfl (N := 60) kd_m_text (by decide) (by decide) rfl (by omega) ?_
            refine xi_bipush (v := nI 57) hC dX8_fault_45 (pc' := 47) rfl (by decide +kernel) ?_
            refine xi_icmpgt (tgt := 54) hC dX8_fault_47 (pc' := 50) rfl (by decide) (fun zc47 => ?_) (fun zc47 => ?_)
            · skip
              refine xi_iconst (v := nI 0) hC dX8_fault_54 (pc' := 55) rfl (by decide +kernel) ?_
              refine xi_istore_n (lv' := [some (.ref (b + oMod)), some (.int (nI i)), some (.int (nI 0))]) hC dX8_fault_55 (pc' := 56) rfl rfl (by decide) rfl ?_
              refine xi_iload_n hC dX8_fault_56 (pc' := 57) rfl rfl rfl ?_
              refine xn_ifne (tgt := 62) hC dX8_fault_57 (pc' := 60) rfl (by decide) (by omega) (fun zc57 => ?_) (fun zc57 => ?_)
              · exact absurd zc57 (by decide)
              · skip
                refine xi_iload_n hC dX8_fault_60 (pc' := 61) rfl rfl rfl ?_
                refine xi_ireturn hC dX8_fault_61 hr rfl ?_
                refine ⟨?_, rfl⟩
                rw [tfault_bad (i := i) (fun q => ?_) hA (by omega)]
                first
                  | exact zc57 (q.1 zc13)
                  | exact i_not_lt.mpr (q.2 zc13).1 zc36
                  | exact i_not_lt.mpr (q.2 zc13).2 zc47
            · skip
              refine xi_iconst (v := nI 1) hC dX8_fault_50 (pc' := 51) rfl (by decide +kernel) ?_
              refine xi_goto (tgt := 55) hC dX8_fault_51 (by decide) ?_
              refine xi_istore_n (lv' := [some (.ref (b + oMod)), some (.int (nI i)), some (.int (nI 1))]) hC dX8_fault_55 (pc' := 56) rfl rfl (by decide) rfl ?_
              refine xi_iload_n hC dX8_fault_56 (pc' := 57) rfl rfl rfl ?_
              refine xn_ifne (tgt := 62) hC dX8_fault_57 (pc' := 60) rfl (by decide) (by omega) (fun zc57 => ?_) (fun zc57 => ?_)
              · skip
                refine xn_iinc (lv' := [some (.ref (b + oMod)), some (.int (nI (i + 1))), some (.int (nI 1))]) hC dX8_fault_62 (pc' := 65) rfl rfl (by decide) rfl ?_
                refine xi_goto (tgt := 2) hC dX8_fault_65 (by decide) ?_
                refine ih2 _ _ (by omega) ?_ ?_
                · omega
                · intro j hj
                  rcases Nat.lt_or_ge j i with q | q
                  · exact hA j q
                  · obtain rfl : j = i := by omega
                    first
                      | exact ⟨fun _ => zc57, fun q => absurd zc13 q⟩
                      | exact ⟨fun q => absurd q zc13, fun _ => ⟨i_not_lt.mp zc36, i_not_lt.mp (fun z => zc47 z)⟩⟩
              · exact absurd zc57 (by decide)
        · skip
          refine xi_aload_n hC dX8_fault_16 (pc' := 17) rfl rfl rfl ?_
          refine xg8_text hC dX8_fault_17 (pc' := 20) rfl xw_f_X8_65 kd_oMod ?_
          refine xi_iload_n hC dX8_fault_20 (pc' := 21) rfl rfl rfl ?_
          refine xt_l_c hC dX8_fault_21 (pc' := 22) rfl (N := 60) kd_m_text (by decide) (by decide) rfl (by omega) ?_
          refine xi_callS (As := [.int (S m_text i)]) (rest := []) (c_X8_isCommand l D b n (C := C) (S := S) (x := (S m_text i))) hC dX8_fault_22 (pc' := 25) rfl xw_m_X8_149 xw_c_X8_isCommand xw_sta_X8_isCommand xw_ini_X8 xd_X8_isCommand ⟨Nat.le_of_ble_eq_true rfl, Nat.le_of_ble_eq_true rfl⟩ rfl (Nat.le_of_ble_eq_true rfl) ⟨Nat.le_of_ble_eq_true rfl, Nat.le_of_ble_eq_true rfl⟩ ?_
          rintro _ _ ⟨rfl, rfl⟩
          show xV _ _ _ _ _ _ _ _ _ _ _ _ _ _ _ _ _ (xH D b (jn C S)) _ _ [.int (bI (isL (S m_text i)))]
          refine xi_goto (tgt := 55) hC dX8_fault_25 (by decide) ?_
          refine xi_istore_n (lv' := [some (.ref (b + oMod)), some (.int (nI i)), some (.int (bI (isL (S m_text i))))]) hC dX8_fault_55 (pc' := 56) rfl rfl (by decide) rfl ?_
          refine xi_iload_n hC dX8_fault_56 (pc' := 57) rfl rfl rfl ?_
          refine xb_ifne (tgt := 62) hC dX8_fault_57 (pc' := 60) rfl (by decide) (fun zc57 => ?_) (fun zc57 => ?_)
          · skip
            refine xn_iinc (lv' := [some (.ref (b + oMod)), some (.int (nI (i + 1))), some (.int (bI (isL (S m_text i))))]) hC dX8_fault_62 (pc' := 65) rfl rfl (by decide) rfl ?_
            refine xi_goto (tgt := 2) hC dX8_fault_65 (by decide) ?_
            refine ih2 _ _ (by omega) ?_ ?_
            · omega
            · intro j hj
              rcases Nat.lt_or_ge j i with q | q
              · exact hA j q
              · obtain rfl : j = i := by omega
                first
                  | exact ⟨fun _ => zc57, fun q => absurd zc13 q⟩
                  | exact ⟨fun q => absurd q zc13, fun _ => ⟨i_not_lt.mp zc36, i_not_lt.mp (fun z => zc47 z)⟩⟩
          · skip
            refine xi_iload_n hC dX8_fault_60 (pc' := 61) rfl rfl rfl ?_
            refine xi_ireturn hC dX8_fault_61 hr rfl ?_
            refine ⟨?_, rfl⟩
            rw [tfault_bad (i := i) (fun q => ?_) hA (by omega)]
            first
              | exact zc57 (q.1 zc13)
              | exact i_not_lt.mpr (q.2 zc13).1 zc36
              | exact i_not_lt.mpr (q.2 zc13).2 zc47
  refine L2 _ _ _ (Nat.lt_succ_self _) ?_ ?_
  · omega
  · intro j hj; omega

set_option maxRecDepth 100000 in
set_option maxHeartbeats 4000000 in
theorem c_X8_carries (l : Launch) (D : XD) (b n : Nat) {C S : XM} {u w z : Nat} {ch x : Int32} (hW : MW S u w) (hL : isL ch) (hz9 : z ≤ 9) : xM l yX8_carries cX8_carries 6 (some .boolean) 6 144 0 0 D b n [.ref (b + oMod), .int ch, .int x, .int (nI z)] (xH D b (jn C S)) n (fun y' h' => ∃ (ok : Bool) (T : XM), y' = some (.int (bI (ok = true))) ∧ s_cmd S u w ch x (nI z) ok T ∧ h' = xH D b (jn C T)) := by
  refine xM.of (lv := [some (.ref (b + oMod)), some (.int ch), some (.int x), some (.int (nI z)), none, none]) (by decide +kernel) rfl (List.forall_mem_cons.mpr ⟨rfl, List.forall_mem_cons.mpr ⟨rfl, List.forall_mem_cons.mpr ⟨rfl, List.forall_mem_cons.mpr ⟨rfl, fun _ h => absurd h List.not_mem_nil⟩⟩⟩⟩) (Nat.le_of_ble_eq_true rfl) rfl ?_
  intro p e s m args below meth c hC hr hnm
  obtain ⟨hU, hN, hVw, hKp, hLt, hTx, hAl⟩ := id hW
  obtain ⟨hu, hu2, hu5⟩ := id hU
  obtain ⟨hn, hw1, hw6⟩ := id hN
  rcases hL with rfl | rfl | rfl | rfl | rfl
  · skip
    refine xi_iload_n hC dX8_carries_0 (pc' := 1) rfl rfl rfl ?_
    refine xi_lookup (off := 43) (tgt := 44) hC dX8_carries_1 (by decide) (by decide +kernel) (by decide) ?_
    refine xi_aload_n hC dX8_carries_44 (pc' := 45) rfl rfl rfl ?_
    refine xi_iload_n hC dX8_carries_45 (pc' := 46) rfl rfl rfl ?_
    refine xi_iload_n hC dX8_carries_46 (pc' := 47) rfl rfl rfl ?_
    refine xi_callV (As := [.int x, .int (nI z)]) (rest := []) (c_X8_write l D b n (C := C) (S := S) (u := u) (w := w) (x := x) (y := (nI z)) hW) hC dX8_carries_47 (pc' := 50) rfl xw_m_X8_153 xw_c_X8_write xw_ins_X8_write xw_sel_X8_write xw_ini_X8 xd_X8_write (xH_at.trans (xsh_8 kd_oMod)) rfl ⟨Nat.le_of_ble_eq_true rfl, Nat.le_of_ble_eq_true rfl⟩ rfl (Nat.le_of_ble_eq_true rfl) ⟨Nat.le_of_ble_eq_true rfl, Nat.le_of_ble_eq_true rfl⟩ ?_
    rintro _ _ ⟨xr_2, T_1, rfl, hZ_3, rfl⟩
    show xV _ _ _ _ _ _ _ _ _ _ _ _ _ _ _ _ _ (xH D b (jn C T_1)) _ _ [.int xr_2]
    refine xi_iflt (tgt := 57) hC dX8_carries_50 (pc' := 53) rfl (by decide) (fun zc50 => ?_) (fun zc50 => ?_)
    · skip
      refine xi_iconst (v := nI 0) hC dX8_carries_57 (pc' := 58) rfl (by decide +kernel) ?_
      refine xb_ireturn hC dX8_carries_58 hr (by decide) rfl ?_
      exact ⟨false, _, by rw [bI_f (by decide)], ⟨fun _ => ⟨_, hZ_3, iff_of_false (by decide) (fun q => q zc50)⟩, fun q => absurd q (by decide), fun q => absurd q (by decide), fun q => absurd q (by decide), fun q => absurd q (by decide)⟩, rfl⟩
    · skip
      refine xi_iconst (v := nI 1) hC dX8_carries_53 (pc' := 54) rfl (by decide +kernel) ?_
      refine xi_goto (tgt := 58) hC dX8_carries_54 (by decide) ?_
      refine xb_ireturn hC dX8_carries_58 hr (by decide) rfl ?_
      exact ⟨true, _, by rw [bI_t rfl], ⟨fun _ => ⟨_, hZ_3, iff_of_true rfl zc50⟩, fun q => absurd q (by decide), fun q => absurd q (by decide), fun q => absurd q (by decide), fun q => absurd q (by decide)⟩, rfl⟩
  · skip
    refine xi_iload_n hC dX8_carries_0 (pc' := 1) rfl rfl rfl ?_
    refine xi_lookup (off := 58) (tgt := 59) hC dX8_carries_1 (by decide) (by decide +kernel) (by decide) ?_
    refine xi_aload_n hC dX8_carries_59 (pc' := 60) rfl rfl rfl ?_
    refine xi_iload_n hC dX8_carries_60 (pc' := 61) rfl rfl rfl ?_
    refine xi_iload_n hC dX8_carries_61 (pc' := 62) rfl rfl rfl ?_
    refine xi_callV (As := [.int x, .int (nI z)]) (rest := []) (c_X8_read l D b n (C := C) (S := S) (u := u) (w := w) (x := x) (y := (nI z)) hW) hC dX8_carries_62 (pc' := 65) rfl xw_m_X8_156 xw_c_X8_read xw_ins_X8_read xw_sel_X8_read xw_ini_X8 xd_X8_read (xH_at.trans (xsh_8 kd_oMod)) rfl ⟨Nat.le_of_ble_eq_true rfl, Nat.le_of_ble_eq_true rfl⟩ rfl (Nat.le_of_ble_eq_true rfl) ⟨Nat.le_of_ble_eq_true rfl, Nat.le_of_ble_eq_true rfl⟩ ?_
    rintro _ _ ⟨xr_5, T_4, rfl, hZ_6, rfl⟩
    show xV _ _ _ _ _ _ _ _ _ _ _ _ _ _ _ _ _ (xH D b (jn C T_4)) _ _ [.int xr_5]
    refine xi_iflt (tgt := 72) hC dX8_carries_65 (pc' := 68) rfl (by decide) (fun zc65 => ?_) (fun zc65 => ?_)
    · skip
      refine xi_iconst (v := nI 0) hC dX8_carries_72 (pc' := 73) rfl (by decide +kernel) ?_
      refine xb_ireturn hC dX8_carries_73 hr (by decide) rfl ?_
      exact ⟨false, _, by rw [bI_f (by decide)], ⟨fun q => absurd q (by decide), fun _ => ⟨_, hZ_6, iff_of_false (by decide) (fun q => q zc65)⟩, fun q => absurd q (by decide), fun q => absurd q (by decide), fun q => absurd q (by decide)⟩, rfl⟩
    · skip
      refine xi_iconst (v := nI 1) hC dX8_carries_68 (pc' := 69) rfl (by decide +kernel) ?_
      refine xi_goto (tgt := 73) hC dX8_carries_69 (by decide) ?_
      refine xb_ireturn hC dX8_carries_73 hr (by decide) rfl ?_
      exact ⟨true, _, by rw [bI_t rfl], ⟨fun q => absurd q (by decide), fun _ => ⟨_, hZ_6, iff_of_true rfl zc65⟩, fun q => absurd q (by decide), fun q => absurd q (by decide), fun q => absurd q (by decide)⟩, rfl⟩
  · skip
    refine xi_iload_n hC dX8_carries_0 (pc' := 1) rfl rfl rfl ?_
    refine xi_lookup (off := 73) (tgt := 74) hC dX8_carries_1 (by decide) (by decide +kernel) (by decide) ?_
    refine xi_aload_n hC dX8_carries_74 (pc' := 75) rfl rfl rfl ?_
    refine xi_iload_n hC dX8_carries_75 (pc' := 76) rfl rfl rfl ?_
    refine xi_iload_n hC dX8_carries_76 (pc' := 77) rfl rfl rfl ?_
    refine xi_callV (As := [.int x, .int (nI z)]) (rest := []) (c_X8_sendLetter l D b n (C := C) (S := S) (u := u) (w := w) (x := x) (y := (nI z)) hW) hC dX8_carries_77 (pc' := 80) rfl xw_m_X8_159 xw_c_X8_sendLetter xw_ins_X8_sendLetter xw_sel_X8_sendLetter xw_ini_X8 xd_X8_sendLetter (xH_at.trans (xsh_8 kd_oMod)) rfl ⟨Nat.le_of_ble_eq_true rfl, Nat.le_of_ble_eq_true rfl⟩ rfl (Nat.le_of_ble_eq_true rfl) ⟨Nat.le_of_ble_eq_true rfl, Nat.le_of_ble_eq_true rfl⟩ ?_
    rintro _ _ ⟨xr_8, T_7, rfl, hZ_9, rfl⟩
    show xV _ _ _ _ _ _ _ _ _ _ _ _ _ _ _ _ _ (xH D b (jn C T_7)) _ _ [.int xr_8]
    refine xi_iflt (tgt := 87) hC dX8_carries_80 (pc' := 83) rfl (by decide) (fun zc80 => ?_) (fun zc80 => ?_)
    · skip
      refine xi_iconst (v := nI 0) hC dX8_carries_87 (pc' := 88) rfl (by decide +kernel) ?_
      refine xb_ireturn hC dX8_carries_88 hr (by decide) rfl ?_
      exact ⟨false, _, by rw [bI_f (by decide)], ⟨fun q => absurd q (by decide), fun q => absurd q (by decide), fun _ => ⟨_, hZ_9, iff_of_false (by decide) (fun q => q zc80)⟩, fun q => absurd q (by decide), fun q => absurd q (by decide)⟩, rfl⟩
    · skip
      refine xi_iconst (v := nI 1) hC dX8_carries_83 (pc' := 84) rfl (by decide +kernel) ?_
      refine xi_goto (tgt := 88) hC dX8_carries_84 (by decide) ?_
      refine xb_ireturn hC dX8_carries_88 hr (by decide) rfl ?_
      exact ⟨true, _, by rw [bI_t rfl], ⟨fun q => absurd q (by decide), fun q => absurd q (by decide), fun _ => ⟨_, hZ_9, iff_of_true rfl zc80⟩, fun q => absurd q (by decide), fun q => absurd q (by decide)⟩, rfl⟩
  · skip
    refine xi_iload_n hC dX8_carries_0 (pc' := 1) rfl rfl rfl ?_
    refine xi_lookup (off := 103) (tgt := 104) hC dX8_carries_1 (by decide) (by decide +kernel) (by decide) ?_
    refine xi_aload_n hC dX8_carries_104 (pc' := 105) rfl rfl rfl ?_
    refine xi_iload_n hC dX8_carries_105 (pc' := 106) rfl rfl rfl ?_
    refine xi_callV (As := [.int x]) (rest := []) (c_X8_noUser l D b n (C := C) (S := S) (x := x) hU) hC dX8_carries_106 (pc' := 109) rfl xw_m_X8_126 xw_c_X8_noUser xw_ins_X8_noUser xw_sel_X8_noUser xw_ini_X8 xd_X8_noUser (xH_at.trans (xsh_8 kd_oMod)) rfl ⟨Nat.le_of_ble_eq_true rfl, Nat.le_of_ble_eq_true rfl⟩ rfl (Nat.le_of_ble_eq_true rfl) ⟨Nat.le_of_ble_eq_true rfl, Nat.le_of_ble_eq_true rfl⟩ ?_
    rintro _ _ ⟨rfl, rfl⟩
    show xV _ _ _ _ _ _ _ _ _ _ _ _ _ _ _ _ _ (xH D b (jn C S)) _ _ [.int (bI (¬ isU u x))]
    refine xb_ifne (tgt := 116) hC dX8_carries_109 (pc' := 112) rfl (by decide) (fun zc109 => ?_) (fun zc109 => ?_)
    · skip
      refine xi_iconst (v := nI 0) hC dX8_carries_116 (pc' := 117) rfl (by decide +kernel) ?_
      refine xi_istore (lv' := [some (.ref (b + oMod)), some (.int (nI 103)), some (.int x), some (.int (nI z)), some (.int (nI 0)), none]) hC dX8_carries_117 (pc' := 119) rfl (by decide) rfl ?_
      refine xi_iconst (v := nI 0) hC dX8_carries_119 (pc' := 120) rfl (by decide +kernel) ?_
      refine xi_istore (lv' := [some (.ref (b + oMod)), some (.int (nI 103)), some (.int x), some (.int (nI z)), some (.int (nI 0)), some (.int (nI 0))]) hC dX8_carries_120 (pc' := 122) rfl (by decide) rfl ?_
      refine xi_iload hC dX8_carries_122 (pc' := 124) rfl rfl ?_
      refine xi_iload_n hC dX8_carries_124 (pc' := 125) rfl rfl rfl ?_
      refine xn_icmpge (tgt := 154) hC dX8_carries_125 (pc' := 128) rfl (by decide) (by omega) (by omega) (fun zc125 => ?_) (fun zc125 => ?_)
      · skip
        refine xi_iload hC dX8_carries_154 (pc' := 156) rfl rfl ?_
        refine xb_ireturn hC dX8_carries_156 hr (by decide) rfl ?_
        exact ⟨false, _, by rw [bI_f (by decide)], ⟨fun q => absurd q (by decide), fun q => absurd q (by decide), fun q => absurd q (by decide), fun q => absurd q (by decide), fun _ z' hz' e => ⟨fun _ => ⟨rfl, rfl⟩, fun q => absurd q zc109⟩⟩, rfl⟩
      · skip
        refine xi_iload hC dX8_carries_128 (pc' := 130) rfl rfl ?_
        refine xn_ifeq (tgt := 154) hC dX8_carries_130 (pc' := 133) rfl (by decide) (by omega) (fun zc130 => ?_) (fun zc130 => ?_)
        · skip
          refine xi_iload hC dX8_carries_154 (pc' := 156) rfl rfl ?_
          refine xb_ireturn hC dX8_carries_156 hr (by decide) rfl ?_
          exact ⟨false, _, by rw [bI_f (by decide)], ⟨fun q => absurd q (by decide), fun q => absurd q (by decide), fun q => absurd q (by decide), fun q => absurd q (by decide), fun _ z' hz' e => ⟨fun _ => ⟨rfl, rfl⟩, fun q => absurd q zc109⟩⟩, rfl⟩
        · exact absurd zc130 (by decide)
    · skip
      refine xi_iconst (v := nI 1) hC dX8_carries_112 (pc' := 113) rfl (by decide +kernel) ?_
      refine xi_goto (tgt := 117) hC dX8_carries_113 (by decide) ?_
      refine xtop (y := (bI (true = true))) ((bI_t rfl).symm) ?_
      refine xi_istore (lv' := [some (.ref (b + oMod)), some (.int (nI 103)), some (.int x), some (.int (nI z)), some (.int (bI (true = true))), none]) hC dX8_carries_117 (pc' := 119) rfl (by decide) rfl ?_
      refine xi_iconst (v := nI 0) hC dX8_carries_119 (pc' := 120) rfl (by decide +kernel) ?_
      refine xi_istore (lv' := [some (.ref (b + oMod)), some (.int (nI 103)), some (.int x), some (.int (nI z)), some (.int (bI (true = true))), some (.int (nI 0))]) hC dX8_carries_120 (pc' := 122) rfl (by decide) rfl ?_
      have L122 : ∀ (d : Nat) (n1 : Nat) (ok : Bool) (T : XM), z - n1 < d → (n1 ≤ z) → ((ok = true → MW T u w ∧ ∀ ok' T', s_reads u x (z - n1) T ok' T' → s_reads u x z S ok' T') ∧ (ok = false → s_reads u x z S false T)) → xV p l e (xR 6 144 0 0) s m args below meth c D b 6 0 0 (MQ below (xQ D b n (fun y' h' => ∃ (ok : Bool) (T : XM), y' = some (.int (bI (ok = true))) ∧ s_cmd S u w (nI 103) x (nI z) ok T ∧ h' = xH D b (jn C T))) args s 0 0 (fun q => b ≤ q)) n (xH D b (jn C T)) 122 [some (.ref (b + oMod)), some (.int (nI 103)), some (.int x), some (.int (nI z)), some (.int (bI (ok = true))), some (.int (nI n1))] [] := by
        intro d
        induction d with
        | zero => intro n1 ok T h; exact absurd h (Nat.not_lt_zero _)
        | succ d ih122 =>
          intro n1 ok T hd122 hn hI
          refine xi_iload hC dX8_carries_122 (pc' := 124) rfl rfl ?_
          refine xi_iload_n hC dX8_carries_124 (pc' := 125) rfl rfl rfl ?_
          refine xn_icmpge (tgt := 154) hC dX8_carries_125 (pc' := 128) rfl (by decide) (by omega) (by omega) (fun zc125 => ?_) (fun zc125 => ?_)
          · skip
            refine xi_iload hC dX8_carries_154 (pc' := 156) rfl rfl ?_
            refine xb_ireturn hC dX8_carries_156 hr bI_01 rfl ?_
            refine ⟨ok, _, rfl, ⟨fun q => absurd q (by decide), fun q => absurd q (by decide), fun q => absurd q (by decide), fun q => absurd q (by decide), fun _ z' hz' e => ?_⟩, rfl⟩
            obtain rfl := nI_inj (by omega) (by omega) e
            refine ⟨fun q => absurd (Classical.not_not.mp zc109) q, fun _ => ?_⟩
            cases ok with
            | false => exact hI.2 rfl
            | true =>
              first
                | exact absurd rfl zc130
                | exact (hI.1 rfl).2 true T (by rw [show z - n1 = 0 by omega]; exact ⟨rfl, rfl⟩)
          · skip
            refine xi_iload hC dX8_carries_128 (pc' := 130) rfl rfl ?_
            refine xb_ifeq (tgt := 154) hC dX8_carries_130 (pc' := 133) rfl (by decide) (fun zc130 => ?_) (fun zc130 => ?_)
            · skip
              refine xi_iload hC dX8_carries_154 (pc' := 156) rfl rfl ?_
              refine xb_ireturn hC dX8_carries_156 hr bI_01 rfl ?_
              refine ⟨ok, _, rfl, ⟨fun q => absurd q (by decide), fun q => absurd q (by decide), fun q => absurd q (by decide), fun q => absurd q (by decide), fun _ z' hz' e => ?_⟩, rfl⟩
              obtain rfl := nI_inj (by omega) (by omega) e
              refine ⟨fun q => absurd (Classical.not_not.mp zc109) q, fun _ => ?_⟩
              cases ok with
              | false => exact hI.2 rfl
              | true =>
                first
                  | exact absurd rfl zc130
                  | exact (hI.1 rfl).2 true T (by rw [show z - n1 = 0 by omega]; exact ⟨rfl, rfl⟩)
            · skip
              refine xi_aload_n hC dX8_carries_133 (pc' := 134) rfl rfl rfl ?_
              refine xi_iload_n hC dX8_carries_134 (pc' := 135) rfl rfl rfl ?_
              refine xi_callV (As := [.int x]) (rest := []) (c_X8_readLetter l D b n (C := C) (S := T) (u := u) (w := w) (x := x) (hI.1 zc130).1) hC dX8_carries_135 (pc' := 138) rfl xw_m_X8_165 xw_c_X8_readLetter xw_ins_X8_readLetter xw_sel_X8_readLetter xw_ini_X8 xd_X8_readLetter (xH_at.trans (xsh_8 kd_oMod)) rfl ⟨Nat.le_of_ble_eq_true rfl, Nat.le_of_ble_eq_true rfl⟩ rfl (Nat.le_of_ble_eq_true rfl) ⟨Nat.le_of_ble_eq_true rfl, Nat.le_of_ble_eq_true rfl⟩ ?_
              rintro _ _ ⟨xr_11, T_10, rfl, hZ_12, rfl⟩
              show xV _ _ _ _ _ _ _ _ _ _ _ _ _ _ _ _ _ (xH D b (jn C T_10)) _ _ [.int xr_11]
              refine xi_iflt (tgt := 145) hC dX8_carries_138 (pc' := 141) rfl (by decide) (fun zc138 => ?_) (fun zc138 => ?_)
              · skip
                refine xi_iconst (v := nI 0) hC dX8_carries_145 (pc' := 146) rfl (by decide +kernel) ?_
                refine xtop (y := (bI (false = true))) (by first | exact (bI_t rfl).symm | exact (bI_f (by decide)).symm) ?_
                refine xi_istore (lv' := [some (.ref (b + oMod)), some (.int (nI 103)), some (.int x), some (.int (nI z)), some (.int (bI (false = true))), some (.int (nI n1))]) hC dX8_carries_146 (pc' := 148) rfl (by decide) rfl ?_
                refine xn_iinc (lv' := [some (.ref (b + oMod)), some (.int (nI 103)), some (.int x), some (.int (nI z)), some (.int (bI (false = true))), some (.int (nI (n1 + 1)))]) hC dX8_carries_148 (pc' := 151) rfl rfl (by decide) rfl ?_
                refine xi_goto (tgt := 122) hC dX8_carries_151 (by decide) ?_
                refine ih122 _ _ _ (by omega) ?_ ?_
                · omega
                · have ez : z - n1 = (z - (n1 + 1)) + 1 := by omega
                  first
                    | exact ⟨fun q => absurd q (by decide), fun _ => (hI.1 zc130).2 false _ (by rw [ez]; exact ⟨_, _, hZ_12, Or.inl ⟨zc138, rfl, rfl⟩⟩)⟩
                    | exact ⟨fun _ => ⟨(MT_readL (hI.1 zc130).1 hZ_12).1, fun ok' T' h => (hI.1 zc130).2 ok' T' (by rw [ez]; exact ⟨_, _, hZ_12, Or.inr ⟨zc138, h⟩⟩)⟩, fun q => absurd q (by decide)⟩
              · skip
                refine xi_iconst (v := nI 1) hC dX8_carries_141 (pc' := 142) rfl (by decide +kernel) ?_
                refine xi_goto (tgt := 146) hC dX8_carries_142 (by decide) ?_
                refine xtop (y := (bI (true = true))) (by first | exact (bI_t rfl).symm | exact (bI_f (by decide)).symm) ?_
                refine xi_istore (lv' := [some (.ref (b + oMod)), some (.int (nI 103)), some (.int x), some (.int (nI z)), some (.int (bI (true = true))), some (.int (nI n1))]) hC dX8_carries_146 (pc' := 148) rfl (by decide) rfl ?_
                refine xn_iinc (lv' := [some (.ref (b + oMod)), some (.int (nI 103)), some (.int x), some (.int (nI z)), some (.int (bI (true = true))), some (.int (nI (n1 + 1)))]) hC dX8_carries_148 (pc' := 151) rfl rfl (by decide) rfl ?_
                refine xi_goto (tgt := 122) hC dX8_carries_151 (by decide) ?_
                refine ih122 _ _ _ (by omega) ?_ ?_
                · omega
                · have ez : z - n1 = (z - (n1 + 1)) + 1 := by omega
                  first
                    | exact ⟨fun q => absurd q (by decide), fun _ => (hI.1 zc130).2 false _ (by rw [ez]; exact ⟨_, _, hZ_12, Or.inl ⟨zc138, rfl, rfl⟩⟩)⟩
                    | exact ⟨fun _ => ⟨(MT_readL (hI.1 zc130).1 hZ_12).1, fun ok' T' h => (hI.1 zc130).2 ok' T' (by rw [ez]; exact ⟨_, _, hZ_12, Or.inr ⟨zc138, h⟩⟩)⟩, fun q => absurd q (by decide)⟩
      refine L122 _ _ _ _ (Nat.lt_succ_self _) ?_ ?_
      · omega
      · exact ⟨fun _ => ⟨hW, fun _ _ h => h⟩, fun q => absurd q (by decide)⟩
  · skip
    refine xi_iload_n hC dX8_carries_0 (pc' := 1) rfl rfl rfl ?_
    refine xi_lookup (off := 88) (tgt := 89) hC dX8_carries_1 (by decide) (by decide +kernel) (by decide) ?_
    refine xi_aload_n hC dX8_carries_89 (pc' := 90) rfl rfl rfl ?_
    refine xi_iload_n hC dX8_carries_90 (pc' := 91) rfl rfl rfl ?_
    refine xi_iload_n hC dX8_carries_91 (pc' := 92) rfl rfl rfl ?_
    refine xi_callV (As := [.int x, .int (nI z)]) (rest := []) (c_X8_attach l D b n (C := C) (S := S) (u := u) (w := w) (x := x) (y := (nI z)) hW) hC dX8_carries_92 (pc' := 95) rfl xw_m_X8_162 xw_c_X8_attach xw_ins_X8_attach xw_sel_X8_attach xw_ini_X8 xd_X8_attach (xH_at.trans (xsh_8 kd_oMod)) rfl ⟨Nat.le_of_ble_eq_true rfl, Nat.le_of_ble_eq_true rfl⟩ rfl (Nat.le_of_ble_eq_true rfl) ⟨Nat.le_of_ble_eq_true rfl, Nat.le_of_ble_eq_true rfl⟩ ?_
    rintro _ _ ⟨xr_14, T_13, rfl, hZ_15, rfl⟩
    show xV _ _ _ _ _ _ _ _ _ _ _ _ _ _ _ _ _ (xH D b (jn C T_13)) _ _ [.int xr_14]
    refine xi_iflt (tgt := 102) hC dX8_carries_95 (pc' := 98) rfl (by decide) (fun zc95 => ?_) (fun zc95 => ?_)
    · skip
      refine xi_iconst (v := nI 0) hC dX8_carries_102 (pc' := 103) rfl (by decide +kernel) ?_
      refine xb_ireturn hC dX8_carries_103 hr (by decide) rfl ?_
      exact ⟨false, _, by rw [bI_f (by decide)], ⟨fun q => absurd q (by decide), fun q => absurd q (by decide), fun q => absurd q (by decide), fun _ => ⟨_, hZ_15, iff_of_false (by decide) (fun q => q zc95)⟩, fun q => absurd q (by decide)⟩, rfl⟩
    · skip
      refine xi_iconst (v := nI 1) hC dX8_carries_98 (pc' := 99) rfl (by decide +kernel) ?_
      refine xi_goto (tgt := 103) hC dX8_carries_99 (by decide) ?_
      refine xb_ireturn hC dX8_carries_103 hr (by decide) rfl ?_
      exact ⟨true, _, by rw [bI_t rfl], ⟨fun q => absurd q (by decide), fun q => absurd q (by decide), fun q => absurd q (by decide), fun _ => ⟨_, hZ_15, iff_of_true rfl zc95⟩, fun q => absurd q (by decide)⟩, rfl⟩

set_option maxRecDepth 100000 in
set_option maxHeartbeats 4000000 in
theorem c_X8_run (l : Launch) (D : XD) (b n : Nat) {C S : XM} {u w : Nat} (hW : MW S u w)  : xM l yX8_run cX8_run 2 (some .int) 7 169 0 0 D b n [.ref (b + oMod)] (xH D b (jn C S)) n (fun y' h' => ∃ (r : Int32) (T : XM), y' = some (.int r) ∧ s_run S u w r T ∧ h' = xH D b (jn C T)) := by
  refine xM.of (lv := [some (.ref (b + oMod)), none]) (by decide +kernel) rfl (List.forall_mem_cons.mpr ⟨rfl, fun _ h => absurd h List.not_mem_nil⟩) (Nat.le_of_ble_eq_true rfl) rfl ?_
  intro p e s m args below meth c hC hr hnm
  obtain ⟨hU, hN, hVw, hKp, hLt, hTx, hAl⟩ := id hW
  obtain ⟨hu, hu2, hu5⟩ := id hU
  obtain ⟨hn, hw1, hw6⟩ := id hN
  obtain ⟨t, ht60, ht⟩ := id hTx
  refine xi_aload_n hC dX8_run_0 (pc' := 1) rfl rfl rfl ?_
  refine xi_callV (As := []) (rest := []) (c_X8_fault l D b n (C := C) (S := S) (t := t) ht60 ht) hC dX8_run_1 (pc' := 4) rfl xw_m_X8_168 xw_c_X8_fault xw_ins_X8_fault xw_sel_X8_fault xw_ini_X8 xd_X8_fault (xH_at.trans (xsh_8 kd_oMod)) rfl ⟨Nat.le_of_ble_eq_true rfl, Nat.le_of_ble_eq_true rfl⟩ rfl (Nat.le_of_ble_eq_true rfl) ⟨Nat.le_of_ble_eq_true rfl, Nat.le_of_ble_eq_true rfl⟩ ?_
  rintro _ _ ⟨rfl, rfl⟩
  show xV _ _ _ _ _ _ _ _ _ _ _ _ _ _ _ _ _ (xH D b (jn C S)) _ _ [.int (tfault (-10005) (S m_text) t)]
  by_cases hf : fb (okc (S m_text)) t = t ∧ t % 3 = 0
  · skip
    refine xtop (y := (-10005)) (tf_t hf) ?_
    refine xi_iflt (tgt := 15) hC dX8_run_4 (pc' := 7) rfl (by decide) (fun zc4 => ?_) (fun zc4 => ?_)
    · skip
      refine xi_iconst (v := nI 0) hC dX8_run_15 (pc' := 16) rfl (by decide +kernel) ?_
      refine xi_istore_n (lv' := [some (.ref (b + oMod)), some (.int (nI 0))]) hC dX8_run_16 (pc' := 17) rfl rfl (by decide) rfl ?_
      have L17 : ∀ (d : Nat) (k1 : Nat) (T : XM), t - 3 * k1 < d → (3 * k1 ≤ t) → (MW T u w) → (T m_text = S m_text) → (T oMod 23 = nI t) → (∀ r T', s_cmds u w (S m_text) (t / 3 - k1) k1 T r T' → s_cmds u w (S m_text) (t / 3) 0 S r T') → xV p l e (xR 7 169 0 0) s m args below meth c D b 2 0 0 (MQ below (xQ D b n (fun y' h' => ∃ (r : Int32) (T : XM), y' = some (.int r) ∧ s_run S u w r T ∧ h' = xH D b (jn C T))) args s 0 0 (fun q => b ≤ q)) n (xH D b (jn C T)) 17 [some (.ref (b + oMod)), some (.int (nI k1))] [] := by
        intro d
        induction d with
        | zero => intro k1 T h; exact absurd h (Nat.not_lt_zero _)
        | succ d ih17 =>
          intro k1 T hd17 hk1 hM hx ht2 hI
          refine xi_iconst (v := nI 3) hC dX8_run_17 (pc' := 18) rfl (by decide +kernel) ?_
          refine xi_iload_n hC dX8_run_18 (pc' := 19) rfl rfl rfl ?_
          refine xn_imul hC dX8_run_19 (pc' := 20) rfl ?_
          refine xi_aload_n hC dX8_run_20 (pc' := 21) rfl rfl rfl ?_
          refine xt_g_typed hC dX8_run_21 (pc' := 24) rfl xw_f_X8_146 ?_
          refine xtop (y := (nI t)) (ht2) ?_
          refine xn_icmpge (tgt := 74) hC dX8_run_24 (pc' := 27) rfl (by decide) (by omega) (by omega) (fun zc24 => ?_) (fun zc24 => ?_)
          · skip
            refine xi_iload_n hC dX8_run_74 (pc' := 75) rfl rfl rfl ?_
            refine xi_ireturn hC dX8_run_75 hr rfl ?_
            refine ⟨_, _, rfl, fun t' ht' e => ?_, rfl⟩
            obtain rfl := nI_inj (by omega) (by omega) (ht.symm.trans e)
            refine ⟨fun q => absurd hf q, fun _ => ⟨k1, rfl, hI _ _ ?_⟩⟩
            rw [show t / 3 - k1 = 0 by omega]
            exact ⟨rfl, rfl⟩
          · skip
            refine xi_aload_n hC dX8_run_27 (pc' := 28) rfl rfl rfl ?_
            refine xi_aload_n hC dX8_run_28 (pc' := 29) rfl rfl rfl ?_
            refine xg8_text hC dX8_run_29 (pc' := 32) rfl xw_f_X8_65 kd_oMod ?_
            refine xi_iconst (v := nI 3) hC dX8_run_32 (pc' := 33) rfl (by decide +kernel) ?_
            refine xi_iload_n hC dX8_run_33 (pc' := 34) rfl rfl rfl ?_
            refine xn_imul hC dX8_run_34 (pc' := 35) rfl ?_
            refine xt_l_c hC dX8_run_35 (pc' := 36) rfl (N := 60) kd_m_text (by decide) (by decide) rfl (by omega) ?_
            refine xi_aload_n hC dX8_run_36 (pc' := 37) rfl rfl rfl ?_
            refine xg8_text hC dX8_run_37 (pc' := 40) rfl xw_f_X8_65 kd_oMod ?_
            refine xi_iconst (v := nI 3) hC dX8_run_40 (pc' := 41) rfl (by decide +kernel) ?_
            refine xi_iload_n hC dX8_run_41 (pc' := 42) rfl rfl rfl ?_
            refine xn_imul hC dX8_run_42 (pc' := 43) rfl ?_
            refine xi_iconst (v := nI 1) hC dX8_run_43 (pc' := 44) rfl (by decide +kernel) ?_
            refine xn_iadd hC dX8_run_44 (pc' := 45) rfl ?_
            refine xt_l_c hC dX8_run_45 (pc' := 46) rfl (N := 60) kd_m_text (by decide) (by decide) rfl (by omega) ?_
            refine xi_bipush (v := nI 48) hC dX8_run_46 (pc' := 48) rfl (by decide +kernel) ?_
            refine xi_isub hC dX8_run_48 (pc' := 49) rfl ?_
            refine xi_aload_n hC dX8_run_49 (pc' := 50) rfl rfl rfl ?_
            refine xg8_text hC dX8_run_50 (pc' := 53) rfl xw_f_X8_65 kd_oMod ?_
            refine xi_iconst (v := nI 3) hC dX8_run_53 (pc' := 54) rfl (by decide +kernel) ?_
            refine xi_iload_n hC dX8_run_54 (pc' := 55) rfl rfl rfl ?_
            refine xn_imul hC dX8_run_55 (pc' := 56) rfl ?_
            refine xi_iconst (v := nI 2) hC dX8_run_56 (pc' := 57) rfl (by decide +kernel) ?_
            refine xn_iadd hC dX8_run_57 (pc' := 58) rfl ?_
            refine xt_l_c hC dX8_run_58 (pc' := 59) rfl (N := 60) kd_m_text (by decide) (by decide) rfl (by omega) ?_
            refine xi_bipush (v := nI 48) hC dX8_run_59 (pc' := 61) rfl (by decide +kernel) ?_
            refine xi_isub hC dX8_run_61 (pc' := 62) rfl ?_
            have hm : t % 3 = 0 := hf.2
            have hok := fb_ok hf.1
            have hL : isL (T m_text (3 * k1)) := by rw [hx]; exact (hok (3 * k1) (by omega)).1 (by omega)
            obtain ⟨z, hz9, ez⟩ := isD_n ((hok (3 * k1 + 2) (by omega)).2 (by omega))
            rw [← hx] at ez
            refine xtop (y := nI z) ez ?_
            refine xi_callV (As := [.int (T m_text (3 * k1)), .int ((T m_text ((3 * k1) + 1)) - (nI 48)), .int (nI z)]) (rest := []) (c_X8_carries l D b n (C := C) (S := T) (ch := (T m_text (3 * k1))) (x := ((T m_text ((3 * k1) + 1)) - (nI 48))) (z := z) (u := u) (w := w) hM hL hz9) hC dX8_run_62 (pc' := 65) rfl xw_m_X8_172 xw_c_X8_carries xw_ins_X8_carries xw_sel_X8_carries xw_ini_X8 xd_X8_carries (xH_at.trans (xsh_8 kd_oMod)) rfl ⟨Nat.le_of_ble_eq_true rfl, Nat.le_of_ble_eq_true rfl⟩ rfl (Nat.le_of_ble_eq_true rfl) ⟨Nat.le_of_ble_eq_true rfl, Nat.le_of_ble_eq_true rfl⟩ ?_
            rintro _ _ ⟨ok_1, T_2, rfl, hC_3, rfl⟩
            show xV _ _ _ _ _ _ _ _ _ _ _ _ _ _ _ _ _ (xH D b (jn C T_2)) _ _ [.int (bI (ok_1 = true))]
            refine xb_ifeq (tgt := 74) hC dX8_run_65 (pc' := 68) rfl (by decide) (fun zc65 => ?_) (fun zc65 => ?_)
            · skip
              refine xi_iload_n hC dX8_run_74 (pc' := 75) rfl rfl rfl ?_
              refine xi_ireturn hC dX8_run_75 hr rfl ?_
              refine ⟨_, _, rfl, fun t' ht' e => ?_, rfl⟩
              obtain rfl := nI_inj (by omega) (by omega) (ht.symm.trans e)
              refine ⟨fun q => absurd hf q, fun _ => ⟨k1, rfl, hI _ _ ?_⟩⟩
              rw [show t / 3 - k1 = (t / 3 - (k1 + 1)) + 1 by have := hf.2; omega]
              refine ⟨ok_1, T_2, ?_, Or.inl ⟨?_, rfl, rfl⟩⟩
              · rw [← hx, ez]
                exact hC_3
              · cases ok_1 with
                | false => rfl
                | true => exact absurd rfl zc65
            · skip
              refine xn_iinc (lv' := [some (.ref (b + oMod)), some (.int (nI (k1 + 1)))]) hC dX8_run_68 (pc' := 71) rfl rfl (by decide) rfl ?_
              refine xi_goto (tgt := 17) hC dX8_run_71 (by decide) ?_
              refine ih17 _ _ (by have := hf.2; omega) ?_ ?_ ?_ ?_ ?_
              · have := hf.2; omega
              · exact (MT_cmd hM hL hz9 hC_3).1
              · exact (MT_cmd hM hL hz9 hC_3).2.1.trans hx
              · exact (MT_cmd hM hL hz9 hC_3).2.2.trans ht2
              · intro r T' h
                refine hI r T' ?_
                rw [show t / 3 - k1 = (t / 3 - (k1 + 1)) + 1 by omega]
                refine ⟨ok_1, T_2, ?_, Or.inr ⟨zc65, h⟩⟩
                rw [← hx, ez]
                exact hC_3
      refine L17 _ _ _ (Nat.lt_succ_self _) ?_ ?_ ?_ ?_ ?_
      · omega
      · exact hW
      · rfl
      · exact ht
      · exact fun r T' h => h
    · exact absurd zc4 (by decide)
  · skip
    refine xtop (y := nI (fb (okc (S m_text)) t)) (tf_f hf) ?_
    have hfl := fb_le (ok := okc (S m_text)) t
    refine xn_iflt (tgt := 15) hC dX8_run_4 (pc' := 7) rfl (by decide) (by omega) (fun zc4 => ?_) (fun zc4 => ?_)
    · exact zc4.elim
    · skip
      refine xi_bipush (v := -100) hC dX8_run_7 (pc' := 9) rfl (by decide +kernel) ?_
      refine xi_aload_n hC dX8_run_9 (pc' := 10) rfl rfl rfl ?_
      refine xi_callV (As := []) (rest := [.int (-100)]) (c_X8_fault l D b n (C := C) (S := S) (t := t) ht60 ht) hC dX8_run_10 (pc' := 13) rfl xw_m_X8_168 xw_c_X8_fault xw_ins_X8_fault xw_sel_X8_fault xw_ini_X8 xd_X8_fault (xH_at.trans (xsh_8 kd_oMod)) rfl ⟨Nat.le_of_ble_eq_true rfl, Nat.le_of_ble_eq_true rfl⟩ rfl (Nat.le_of_ble_eq_true rfl) ⟨Nat.le_of_ble_eq_true rfl, Nat.le_of_ble_eq_true rfl⟩ ?_
      rintro _ _ ⟨rfl, rfl⟩
      show xV _ _ _ _ _ _ _ _ _ _ _ _ _ _ _ _ _ (xH D b (jn C S)) _ _ [.int (tfault (-10005) (S m_text) t), .int (-100)]
      refine xtop (y := nI (fb (okc (S m_text)) t)) (tf_f hf) ?_
      refine xi_isub hC dX8_run_13 (pc' := 14) rfl ?_
      refine xi_ireturn hC dX8_run_14 hr rfl ?_
      refine ⟨_, _, rfl, fun t' ht' e => ?_, rfl⟩
      obtain rfl := nI_inj (by omega) (by omega) (ht.symm.trans e)
      exact ⟨fun _ => ⟨rfl, rfl⟩, fun q => absurd q hf⟩

set_option maxRecDepth 100000 in
set_option maxHeartbeats 4000000 in
theorem c_X8_begin (l : Launch) (D : XD) (b n : Nat) {C S : XM} {z : Nat} : xM l yX8_begin cX8_begin 3 none 0 0 0 0 D b n [.ref (b + oMod), .int (nI z)] (xH D b (jn C S)) n (fun y' h' => y' = none ∧ ∃ T : XM, mBegin S z T ∧ h' = xH D b (jn C T)) := by
  refine xM.of (lv := [some (.ref (b + oMod)), some (.int (nI z)), none]) (by decide +kernel) rfl (List.forall_mem_cons.mpr ⟨rfl, List.forall_mem_cons.mpr ⟨rfl, fun _ h => absurd h List.not_mem_nil⟩⟩) (Nat.le_of_ble_eq_true rfl) rfl ?_
  intro p e s m args below meth c hC hr hnm
  refine xi_aload_n hC dX8_begin_0 (pc' := 1) rfl rfl rfl ?_
  refine xi_iload_n hC dX8_begin_1 (pc' := 2) rfl rfl rfl ?_
  refine xt_p_users hC dX8_begin_2 (pc' := 5) rfl xw_f_X8_73 ?_
  refine xi_aload_n hC dX8_begin_5 (pc' := 6) rfl rfl rfl ?_
  refine xi_iconst (v := nI 1) hC dX8_begin_6 (pc' := 7) rfl (by decide +kernel) ?_
  refine xt_p_views hC dX8_begin_7 (pc' := 10) rfl xw_f_X8_77 ?_
  refine xi_aload_n hC dX8_begin_10 (pc' := 11) rfl rfl rfl ?_
  refine xi_iconst (v := nI 0) hC dX8_begin_11 (pc' := 12) rfl (by decide +kernel) ?_
  refine xt_p_operations hC dX8_begin_12 (pc' := 15) rfl xw_f_X8_80 ?_
  refine xi_iconst (v := nI 0) hC dX8_begin_15 (pc' := 16) rfl (by decide +kernel) ?_
  refine xi_istore_n (lv' := [some (.ref (b + oMod)), some (.int (nI z)), some (.int (nI 0))]) hC dX8_begin_16 (pc' := 17) rfl rfl (by decide) rfl ?_
  have L17 : ∀ (d : Nat) (j1 : Nat) (T1 : XM), 180 - j1 < d → (j1 ≤ 180) → (∀ q, q < j1 → T1 m_row q = nI 0) → (∀ o, o ≠ m_row → T1 o = (sw (sw (sw S oMod 0 (nI z)) oMod 1 (nI 1)) oMod 2 (nI 0)) o) → xV p l e (xR 0 0 0 0) s m args below meth c D b 3 0 0 (MQ below (xQ D b n (fun y' h' => y' = none ∧ ∃ T : XM, mBegin S z T ∧ h' = xH D b (jn C T))) args s 0 0 (fun q => b ≤ q)) n (xH D b (jn C T1)) 17 [some (.ref (b + oMod)), some (.int (nI z)), some (.int (nI j1))] [] := by
    intro d
    induction d with
    | zero => intro j1 T1 h; exact absurd h (Nat.not_lt_zero _)
    | succ d ih17 =>
      intro j1 T1 hd17 hj1 hj10 hFj1
      refine xi_iload_n hC dX8_begin_17 (pc' := 18) rfl rfl rfl ?_
      refine xi_sipush (v := nI 180) hC dX8_begin_18 (pc' := 21) rfl (by decide +kernel) ?_
      refine xn_icmpge (tgt := 37) hC dX8_begin_21 (pc' := 24) rfl (by decide) (by omega) (by omega) (fun zc21 => ?_) (fun zc21 => ?_)
      · skip
        obtain rfl : j1 = 180 := by omega
        refine xi_iconst (v := nI 0) hC dX8_begin_37 (pc' := 38) rfl (by decide +kernel) ?_
        refine xi_istore_n (lv' := [some (.ref (b + oMod)), some (.int (nI z)), some (.int (nI 0))]) hC dX8_begin_38 (pc' := 39) rfl rfl (by decide) rfl ?_
        have L39 : ∀ (d : Nat) (j2 : Nat) (T2 : XM), 6 - j2 < d → (j2 ≤ 6) → (∀ q, q < j2 → T2 m_keptOf q = nI 0) → (∀ o, o ≠ m_keptOf → T2 o = T1 o) → xV p l e (xR 0 0 0 0) s m args below meth c D b 3 0 0 (MQ below (xQ D b n (fun y' h' => y' = none ∧ ∃ T : XM, mBegin S z T ∧ h' = xH D b (jn C T))) args s 0 0 (fun q => b ≤ q)) n (xH D b (jn C T2)) 39 [some (.ref (b + oMod)), some (.int (nI z)), some (.int (nI j2))] [] := by
          intro d
          induction d with
          | zero => intro j2 T2 h; exact absurd h (Nat.not_lt_zero _)
          | succ d ih39 =>
            intro j2 T2 hd39 hj2 hj20 hFj2
            refine xi_iload_n hC dX8_begin_39 (pc' := 40) rfl rfl rfl ?_
            refine xi_bipush (v := nI 6) hC dX8_begin_40 (pc' := 42) rfl (by decide +kernel) ?_
            refine xn_icmpge (tgt := 58) hC dX8_begin_42 (pc' := 45) rfl (by decide) (by omega) (by omega) (fun zc42 => ?_) (fun zc42 => ?_)
            · skip
              obtain rfl : j2 = 6 := by omega
              refine xi_iconst (v := nI 0) hC dX8_begin_58 (pc' := 59) rfl (by decide +kernel) ?_
              refine xi_istore_n (lv' := [some (.ref (b + oMod)), some (.int (nI z)), some (.int (nI 0))]) hC dX8_begin_59 (pc' := 60) rfl rfl (by decide) rfl ?_
              have L60 : ∀ (d : Nat) (j3 : Nat) (T3 : XM), 25 - j3 < d → (j3 ≤ 25) → (∀ q, q < j3 → T3 m_signedOf q = nI 0) → (∀ q, q < j3 → T3 m_knownOf q = nI 0) → (∀ o, o ≠ m_signedOf → o ≠ m_knownOf → T3 o = T2 o) → xV p l e (xR 0 0 0 0) s m args below meth c D b 3 0 0 (MQ below (xQ D b n (fun y' h' => y' = none ∧ ∃ T : XM, mBegin S z T ∧ h' = xH D b (jn C T))) args s 0 0 (fun q => b ≤ q)) n (xH D b (jn C T3)) 60 [some (.ref (b + oMod)), some (.int (nI z)), some (.int (nI j3))] [] := by
                intro d
                induction d with
                | zero => intro j3 T3 h; exact absurd h (Nat.not_lt_zero _)
                | succ d ih60 =>
                  intro j3 T3 hd60 hj3 hj30 hj31 hFj3
                  refine xi_iload_n hC dX8_begin_60 (pc' := 61) rfl rfl rfl ?_
                  refine xi_bipush (v := nI 25) hC dX8_begin_61 (pc' := 63) rfl (by decide +kernel) ?_
                  refine xn_icmpge (tgt := 86) hC dX8_begin_63 (pc' := 66) rfl (by decide) (by omega) (by omega) (fun zc63 => ?_) (fun zc63 => ?_)
                  · skip
                    obtain rfl : j3 = 25 := by omega
                    refine xi_iconst (v := nI 0) hC dX8_begin_86 (pc' := 87) rfl (by decide +kernel) ?_
                    refine xi_istore_n (lv' := [some (.ref (b + oMod)), some (.int (nI z)), some (.int (nI 0))]) hC dX8_begin_87 (pc' := 88) rfl rfl (by decide) rfl ?_
                    have L88 : ∀ (d : Nat) (j4 : Nat) (T4 : XM), 5 - j4 < d → (j4 ≤ 5) → (∀ q, q < j4 → T4 m_viewOf q = nI 0) → (∀ q, q < j4 → T4 m_alarmOf q = nI 0) → (∀ q, q < j4 → T4 m_hasProof q = nI 0) → (∀ q, q < j4 → T4 m_depthOf q = nI 0) → (∀ q, q < j4 → T4 m_doneOf q = nI 0) → (∀ q, q < j4 → T4 m_shownTo q = nI 0) → (∀ q, q < j4 → T4 m_sentBy q = nI 0) → (∀ q, q < j4 → T4 m_hasRead q = nI 0) → (∀ q, q < j4 → T4 m_readOf q = nI 0) → (∀ q, q < j4 → T4 m_lettersOf q = nI 0) → (∀ o, o ≠ m_viewOf → o ≠ m_alarmOf → o ≠ m_hasProof → o ≠ m_depthOf → o ≠ m_doneOf → o ≠ m_shownTo → o ≠ m_sentBy → o ≠ m_hasRead → o ≠ m_readOf → o ≠ m_lettersOf → T4 o = T3 o) → xV p l e (xR 0 0 0 0) s m args below meth c D b 3 0 0 (MQ below (xQ D b n (fun y' h' => y' = none ∧ ∃ T : XM, mBegin S z T ∧ h' = xH D b (jn C T))) args s 0 0 (fun q => b ≤ q)) n (xH D b (jn C T4)) 88 [some (.ref (b + oMod)), some (.int (nI z)), some (.int (nI j4))] [] := by
                      intro d
                      induction d with
                      | zero => intro j4 T4 h; exact absurd h (Nat.not_lt_zero _)
                      | succ d ih88 =>
                        intro j4 T4 hd88 hj4 hj40 hj41 hj42 hj43 hj44 hj45 hj46 hj47 hj48 hj49 hFj4
                        refine xi_iload_n hC dX8_begin_88 (pc' := 89) rfl rfl rfl ?_
                        refine xi_iconst (v := nI 5) hC dX8_begin_89 (pc' := 90) rfl (by decide +kernel) ?_
                        refine xn_icmpge (tgt := 169) hC dX8_begin_90 (pc' := 93) rfl (by decide) (by omega) (by omega) (fun zc90 => ?_) (fun zc90 => ?_)
                        · skip
                          obtain rfl : j4 = 5 := by omega
                          refine xi_return hC dX8_begin_169 hr rfl ?_
                          have e4 : ∀ o, o ≠ m_viewOf → o ≠ m_alarmOf → o ≠ m_hasProof → o ≠ m_depthOf → o ≠ m_doneOf → o ≠ m_shownTo → o ≠ m_sentBy → o ≠ m_hasRead → o ≠ m_readOf → o ≠ m_lettersOf → T4 o = T3 o := hFj4
                          have eM : T4 oMod = (sw (sw (sw S oMod 0 (nI z)) oMod 1 (nI 1)) oMod 2 (nI 0)) oMod := by rw [hFj4 oMod (by decide) (by decide) (by decide) (by decide) (by decide) (by decide) (by decide) (by decide) (by decide) (by decide), hFj3 oMod (by decide) (by decide), hFj2 oMod (by decide), hFj1 oMod (by decide)]
                          have e3 : ∀ o, (o = m_row ∨ o = m_keptOf ∨ o = m_signedOf ∨ o = m_knownOf ∨ o = m_text) → T4 o = T3 o := fun o ho => by rcases ho with rfl | rfl | rfl | rfl | rfl <;> exact hFj4 _ (by decide) (by decide) (by decide) (by decide) (by decide) (by decide) (by decide) (by decide) (by decide) (by decide)
                          refine ⟨rfl, T4, ⟨?_, ?_, ?_, fun j q0 q1 q2 => ?_, fun q hq => ?_, fun q hq => ?_, fun q hq => ⟨?_, ?_⟩, fun q hq => ⟨hj40 q hq, hj41 q hq, hj42 q hq, hj43 q hq, hj44 q hq, hj45 q hq, hj46 q hq, hj47 q hq, hj48 q hq, hj49 q hq⟩, ?_⟩, rfl⟩
                          · rw [eM, sw_k (by decide), sw_k (by decide), sw_s]
                          · rw [eM, sw_k (by decide), sw_s]
                          · rw [eM, sw_s]
                          · rw [eM, sw_k q2, sw_k q1, sw_k q0]
                          · rw [e3 _ (Or.inl rfl), hFj3 _ (by decide) (by decide), hFj2 _ (by decide)]; exact hj10 q hq
                          · rw [e3 _ (Or.inr (Or.inl rfl)), hFj3 _ (by decide) (by decide)]; exact hj20 q hq
                          · rw [e3 _ (Or.inr (Or.inr (Or.inl rfl)))]; exact hj30 q hq
                          · rw [e3 _ (Or.inr (Or.inr (Or.inr (Or.inl rfl))))]; exact hj31 q hq
                          · rw [e3 _ (Or.inr (Or.inr (Or.inr (Or.inr rfl)))), hFj3 _ (by decide) (by decide), hFj2 _ (by decide), hFj1 _ (by decide), sw_n (by decide), sw_n (by decide), sw_n (by decide)]
                        · skip
                          refine xi_aload_n hC dX8_begin_93 (pc' := 94) rfl rfl rfl ?_
                          refine xg8_viewOf hC dX8_begin_94 (pc' := 97) rfl xw_f_X8_19 kd_oMod ?_
                          refine xi_iload_n hC dX8_begin_97 (pc' := 98) rfl rfl rfl ?_
                          refine xi_iconst (v := nI 0) hC dX8_begin_98 (pc' := 99) rfl (by decide +kernel) ?_
                          refine xt_s_i hC dX8_begin_99 (pc' := 100) rfl (N := 5) kd_m_viewOf (by decide) (by decide) rfl (by omega) ?_
                          refine xi_aload_n hC dX8_begin_100 (pc' := 101) rfl rfl rfl ?_
                          refine xg8_alarmOf hC dX8_begin_101 (pc' := 104) rfl xw_f_X8_22 kd_oMod ?_
                          refine xi_iload_n hC dX8_begin_104 (pc' := 105) rfl rfl rfl ?_
                          refine xi_iconst (v := nI 0) hC dX8_begin_105 (pc' := 106) rfl (by decide +kernel) ?_
                          refine xt_s_i hC dX8_begin_106 (pc' := 107) rfl (N := 5) kd_m_alarmOf (by decide) (by decide) rfl (by omega) ?_
                          refine xi_aload_n hC dX8_begin_107 (pc' := 108) rfl rfl rfl ?_
                          refine xg8_hasProof hC dX8_begin_108 (pc' := 111) rfl xw_f_X8_25 kd_oMod ?_
                          refine xi_iload_n hC dX8_begin_111 (pc' := 112) rfl rfl rfl ?_
                          refine xi_iconst (v := nI 0) hC dX8_begin_112 (pc' := 113) rfl (by decide +kernel) ?_
                          refine xt_s_b hC dX8_begin_113 (pc' := 114) rfl (N := 5) kd_m_hasProof (by decide) (by decide) rfl (by omega) (by decide) ?_
                          refine xi_aload_n hC dX8_begin_114 (pc' := 115) rfl rfl rfl ?_
                          refine xg8_depthOf hC dX8_begin_115 (pc' := 118) rfl xw_f_X8_29 kd_oMod ?_
                          refine xi_iload_n hC dX8_begin_118 (pc' := 119) rfl rfl rfl ?_
                          refine xi_iconst (v := nI 0) hC dX8_begin_119 (pc' := 120) rfl (by decide +kernel) ?_
                          refine xt_s_i hC dX8_begin_120 (pc' := 121) rfl (N := 5) kd_m_depthOf (by decide) (by decide) rfl (by omega) ?_
                          refine xi_aload_n hC dX8_begin_121 (pc' := 122) rfl rfl rfl ?_
                          refine xg8_doneOf hC dX8_begin_122 (pc' := 125) rfl xw_f_X8_41 kd_oMod ?_
                          refine xi_iload_n hC dX8_begin_125 (pc' := 126) rfl rfl rfl ?_
                          refine xi_iconst (v := nI 0) hC dX8_begin_126 (pc' := 127) rfl (by decide +kernel) ?_
                          refine xt_s_i hC dX8_begin_127 (pc' := 128) rfl (N := 5) kd_m_doneOf (by decide) (by decide) rfl (by omega) ?_
                          refine xi_aload_n hC dX8_begin_128 (pc' := 129) rfl rfl rfl ?_
                          refine xg8_shownTo hC dX8_begin_129 (pc' := 132) rfl xw_f_X8_44 kd_oMod ?_
                          refine xi_iload_n hC dX8_begin_132 (pc' := 133) rfl rfl rfl ?_
                          refine xi_iconst (v := nI 0) hC dX8_begin_133 (pc' := 134) rfl (by decide +kernel) ?_
                          refine xt_s_i hC dX8_begin_134 (pc' := 135) rfl (N := 5) kd_m_shownTo (by decide) (by decide) rfl (by omega) ?_
                          refine xi_aload_n hC dX8_begin_135 (pc' := 136) rfl rfl rfl ?_
                          refine xg8_sentBy hC dX8_begin_136 (pc' := 139) rfl xw_f_X8_47 kd_oMod ?_
                          refine xi_iload_n hC dX8_begin_139 (pc' := 140) rfl rfl rfl ?_
                          refine xi_iconst (v := nI 0) hC dX8_begin_140 (pc' := 141) rfl (by decide +kernel) ?_
                          refine xt_s_i hC dX8_begin_141 (pc' := 142) rfl (N := 5) kd_m_sentBy (by decide) (by decide) rfl (by omega) ?_
                          refine xi_aload_n hC dX8_begin_142 (pc' := 143) rfl rfl rfl ?_
                          refine xg8_hasRead hC dX8_begin_143 (pc' := 146) rfl xw_f_X8_50 kd_oMod ?_
                          refine xi_iload_n hC dX8_begin_146 (pc' := 147) rfl rfl rfl ?_
                          refine xi_iconst (v := nI 0) hC dX8_begin_147 (pc' := 148) rfl (by decide +kernel) ?_
                          refine xt_s_b hC dX8_begin_148 (pc' := 149) rfl (N := 5) kd_m_hasRead (by decide) (by decide) rfl (by omega) (by decide) ?_
                          refine xi_aload_n hC dX8_begin_149 (pc' := 150) rfl rfl rfl ?_
                          refine xg8_readOf hC dX8_begin_150 (pc' := 153) rfl xw_f_X8_53 kd_oMod ?_
                          refine xi_iload_n hC dX8_begin_153 (pc' := 154) rfl rfl rfl ?_
                          refine xi_iconst (v := nI 0) hC dX8_begin_154 (pc' := 155) rfl (by decide +kernel) ?_
                          refine xt_s_i hC dX8_begin_155 (pc' := 156) rfl (N := 5) kd_m_readOf (by decide) (by decide) rfl (by omega) ?_
                          refine xi_aload_n hC dX8_begin_156 (pc' := 157) rfl rfl rfl ?_
                          refine xg8_lettersOf hC dX8_begin_157 (pc' := 160) rfl xw_f_X8_56 kd_oMod ?_
                          refine xi_iload_n hC dX8_begin_160 (pc' := 161) rfl rfl rfl ?_
                          refine xi_iconst (v := nI 0) hC dX8_begin_161 (pc' := 162) rfl (by decide +kernel) ?_
                          refine xt_s_i hC dX8_begin_162 (pc' := 163) rfl (N := 5) kd_m_lettersOf (by decide) (by decide) rfl (by omega) ?_
                          refine xn_iinc (lv' := [some (.ref (b + oMod)), some (.int (nI z)), some (.int (nI (j4 + 1)))]) hC dX8_begin_163 (pc' := 166) rfl rfl (by decide) rfl ?_
                          refine xi_goto (tgt := 88) hC dX8_begin_166 (by decide) ?_
                          refine ih88 _ _ (by omega) ?_ ?_ ?_ ?_ ?_ ?_ ?_ ?_ ?_ ?_ ?_ ?_
                          · omega
                          · intro q hq
                            rw [sw_n (by decide), sw_n (by decide), sw_n (by decide), sw_n (by decide), sw_n (by decide), sw_n (by decide), sw_n (by decide), sw_n (by decide), sw_n (by decide), sw_o]
                            exact upd_all (P := fun _ z => z = nI 0) hj40 rfl q hq
                          · intro q hq
                            rw [sw_n (by decide), sw_n (by decide), sw_n (by decide), sw_n (by decide), sw_n (by decide), sw_n (by decide), sw_n (by decide), sw_n (by decide), sw_o, sw_n (by decide)]
                            exact upd_all (P := fun _ z => z = nI 0) hj41 rfl q hq
                          · intro q hq
                            rw [sw_n (by decide), sw_n (by decide), sw_n (by decide), sw_n (by decide), sw_n (by decide), sw_n (by decide), sw_n (by decide), sw_o, sw_n (by decide), sw_n (by decide)]
                            exact upd_all (P := fun _ z => z = nI 0) hj42 rfl q hq
                          · intro q hq
                            rw [sw_n (by decide), sw_n (by decide), sw_n (by decide), sw_n (by decide), sw_n (by decide), sw_n (by decide), sw_o, sw_n (by decide), sw_n (by decide), sw_n (by decide)]
                            exact upd_all (P := fun _ z => z = nI 0) hj43 rfl q hq
                          · intro q hq
                            rw [sw_n (by decide), sw_n (by decide), sw_n (by decide), sw_n (by decide), sw_n (by decide), sw_o, sw_n (by decide), sw_n (by decide), sw_n (by decide), sw_n (by decide)]
                            exact upd_all (P := fun _ z => z = nI 0) hj44 rfl q hq
                          · intro q hq
                            rw [sw_n (by decide), sw_n (by decide), sw_n (by decide), sw_n (by decide), sw_o, sw_n (by decide), sw_n (by decide), sw_n (by decide), sw_n (by decide), sw_n (by decide)]
                            exact upd_all (P := fun _ z => z = nI 0) hj45 rfl q hq
                          · intro q hq
                            rw [sw_n (by decide), sw_n (by decide), sw_n (by decide), sw_o, sw_n (by decide), sw_n (by decide), sw_n (by decide), sw_n (by decide), sw_n (by decide), sw_n (by decide)]
                            exact upd_all (P := fun _ z => z = nI 0) hj46 rfl q hq
                          · intro q hq
                            rw [sw_n (by decide), sw_n (by decide), sw_o, sw_n (by decide), sw_n (by decide), sw_n (by decide), sw_n (by decide), sw_n (by decide), sw_n (by decide), sw_n (by decide)]
                            exact upd_all (P := fun _ z => z = nI 0) hj47 rfl q hq
                          · intro q hq
                            rw [sw_n (by decide), sw_o, sw_n (by decide), sw_n (by decide), sw_n (by decide), sw_n (by decide), sw_n (by decide), sw_n (by decide), sw_n (by decide), sw_n (by decide)]
                            exact upd_all (P := fun _ z => z = nI 0) hj48 rfl q hq
                          · intro q hq
                            rw [sw_o, sw_n (by decide), sw_n (by decide), sw_n (by decide), sw_n (by decide), sw_n (by decide), sw_n (by decide), sw_n (by decide), sw_n (by decide), sw_n (by decide)]
                            exact upd_all (P := fun _ z => z = nI 0) hj49 rfl q hq
                          · intro o o0 o1 o2 o3 o4 o5 o6 o7 o8 o9
                            rw [sw_n o9, sw_n o8, sw_n o7, sw_n o6, sw_n o5, sw_n o4, sw_n o3, sw_n o2, sw_n o1, sw_n o0]
                            exact hFj4 o o0 o1 o2 o3 o4 o5 o6 o7 o8 o9
                    refine L88 _ _ _ (Nat.lt_succ_self _) ?_ ?_ ?_ ?_ ?_ ?_ ?_ ?_ ?_ ?_ ?_ ?_
                    · omega
                    · intro q hq; exact absurd hq (Nat.not_lt_zero _)
                    · intro q hq; exact absurd hq (Nat.not_lt_zero _)
                    · intro q hq; exact absurd hq (Nat.not_lt_zero _)
                    · intro q hq; exact absurd hq (Nat.not_lt_zero _)
                    · intro q hq; exact absurd hq (Nat.not_lt_zero _)
                    · intro q hq; exact absurd hq (Nat.not_lt_zero _)
                    · intro q hq; exact absurd hq (Nat.not_lt_zero _)
                    · intro q hq; exact absurd hq (Nat.not_lt_zero _)
                    · intro q hq; exact absurd hq (Nat.not_lt_zero _)
                    · intro q hq; exact absurd hq (Nat.not_lt_zero _)
                    · intro o _ _ _ _ _ _ _ _ _ _; rfl
                  · skip
                    refine xi_aload_n hC dX8_begin_66 (pc' := 67) rfl rfl rfl ?_
                    refine xg8_signedOf hC dX8_begin_67 (pc' := 70) rfl xw_f_X8_35 kd_oMod ?_
                    refine xi_iload_n hC dX8_begin_70 (pc' := 71) rfl rfl rfl ?_
                    refine xi_iconst (v := nI 0) hC dX8_begin_71 (pc' := 72) rfl (by decide +kernel) ?_
                    refine xt_s_i hC dX8_begin_72 (pc' := 73) rfl (N := 25) kd_m_signedOf (by decide) (by decide) rfl (by omega) ?_
                    refine xi_aload_n hC dX8_begin_73 (pc' := 74) rfl rfl rfl ?_
                    refine xg8_knownOf hC dX8_begin_74 (pc' := 77) rfl xw_f_X8_38 kd_oMod ?_
                    refine xi_iload_n hC dX8_begin_77 (pc' := 78) rfl rfl rfl ?_
                    refine xi_iconst (v := nI 0) hC dX8_begin_78 (pc' := 79) rfl (by decide +kernel) ?_
                    refine xt_s_i hC dX8_begin_79 (pc' := 80) rfl (N := 25) kd_m_knownOf (by decide) (by decide) rfl (by omega) ?_
                    refine xn_iinc (lv' := [some (.ref (b + oMod)), some (.int (nI z)), some (.int (nI (j3 + 1)))]) hC dX8_begin_80 (pc' := 83) rfl rfl (by decide) rfl ?_
                    refine xi_goto (tgt := 60) hC dX8_begin_83 (by decide) ?_
                    refine ih60 _ _ (by omega) ?_ ?_ ?_ ?_
                    · omega
                    · intro q hq
                      rw [sw_n (by decide), sw_o]
                      exact upd_all (P := fun _ z => z = nI 0) hj30 rfl q hq
                    · intro q hq
                      rw [sw_o, sw_n (by decide)]
                      exact upd_all (P := fun _ z => z = nI 0) hj31 rfl q hq
                    · intro o o0 o1
                      rw [sw_n o1, sw_n o0]
                      exact hFj3 o o0 o1
              refine L60 _ _ _ (Nat.lt_succ_self _) ?_ ?_ ?_ ?_
              · omega
              · intro q hq; exact absurd hq (Nat.not_lt_zero _)
              · intro q hq; exact absurd hq (Nat.not_lt_zero _)
              · intro o _ _; rfl
            · skip
              refine xi_aload_n hC dX8_begin_45 (pc' := 46) rfl rfl rfl ?_
              refine xg8_keptOf hC dX8_begin_46 (pc' := 49) rfl xw_f_X8_13 kd_oMod ?_
              refine xi_iload_n hC dX8_begin_49 (pc' := 50) rfl rfl rfl ?_
              refine xi_iconst (v := nI 0) hC dX8_begin_50 (pc' := 51) rfl (by decide +kernel) ?_
              refine xt_s_i hC dX8_begin_51 (pc' := 52) rfl (N := 6) kd_m_keptOf (by decide) (by decide) rfl (by omega) ?_
              refine xn_iinc (lv' := [some (.ref (b + oMod)), some (.int (nI z)), some (.int (nI (j2 + 1)))]) hC dX8_begin_52 (pc' := 55) rfl rfl (by decide) rfl ?_
              refine xi_goto (tgt := 39) hC dX8_begin_55 (by decide) ?_
              refine ih39 _ _ (by omega) ?_ ?_ ?_
              · omega
              · intro q hq
                rw [sw_o]
                exact upd_all (P := fun _ z => z = nI 0) hj20 rfl q hq
              · intro o o0
                rw [sw_n o0]
                exact hFj2 o o0
        refine L39 _ _ _ (Nat.lt_succ_self _) ?_ ?_ ?_
        · omega
        · intro q hq; exact absurd hq (Nat.not_lt_zero _)
        · intro o _; rfl
      · skip
        refine xi_aload_n hC dX8_begin_24 (pc' := 25) rfl rfl rfl ?_
        refine xg8_row hC dX8_begin_25 (pc' := 28) rfl xw_f_X8_7 kd_oMod ?_
        refine xi_iload_n hC dX8_begin_28 (pc' := 29) rfl rfl rfl ?_
        refine xi_iconst (v := nI 0) hC dX8_begin_29 (pc' := 30) rfl (by decide +kernel) ?_
        refine xt_s_i hC dX8_begin_30 (pc' := 31) rfl (N := 180) kd_m_row (by decide) (by decide) rfl (by omega) ?_
        refine xn_iinc (lv' := [some (.ref (b + oMod)), some (.int (nI z)), some (.int (nI (j1 + 1)))]) hC dX8_begin_31 (pc' := 34) rfl rfl (by decide) rfl ?_
        refine xi_goto (tgt := 17) hC dX8_begin_34 (by decide) ?_
        refine ih17 _ _ (by omega) ?_ ?_ ?_
        · omega
        · intro q hq
          rw [sw_o]
          exact upd_all (P := fun _ z => z = nI 0) hj10 rfl q hq
        · intro o o0
          rw [sw_n o0]
          exact hFj1 o o0
  refine L17 _ _ _ (Nat.lt_succ_self _) ?_ ?_ ?_
  · omega
  · intro q hq; exact absurd hq (Nat.not_lt_zero _)
  · intro o _; rfl

set_option maxRecDepth 100000 in
set_option maxHeartbeats 4000000 in
theorem c_X8_reset (l : Launch) (D : XD) (b n : Nat) {C S : XM} {u w : Nat} (hW : MW S u w) {x : Int32} : xM l yX8_reset cX8_reset 3 (some .int) 1 22 0 0 D b n [.ref (b + oMod), .int x] (xH D b (jn C S)) n (fun y' h' => ∃ (r : Int32) (T : XM), y' = some (.int r) ∧ s_reset S u x r T ∧ h' = xH D b (jn C T)) := by
  refine xM.of (lv := [some (.ref (b + oMod)), some (.int x), none]) (by decide +kernel) rfl (List.forall_mem_cons.mpr ⟨rfl, List.forall_mem_cons.mpr ⟨rfl, fun _ h => absurd h List.not_mem_nil⟩⟩) (Nat.le_of_ble_eq_true rfl) rfl ?_
  intro p e s m args below meth c hC hr hnm
  obtain ⟨hU, hN, hVw, hKp, hLt, hTx, hAl⟩ := id hW
  obtain ⟨hu, hu2, hu5⟩ := id hU
  obtain ⟨hn, hw1, hw6⟩ := id hN
  refine xi_iload_n hC dX8_reset_0 (pc' := 1) rfl rfl rfl ?_
  refine xi_iconst (v := nI 2) hC dX8_reset_1 (pc' := 2) rfl (by decide +kernel) ?_
  refine xi_iconst (v := nI 5) hC dX8_reset_2 (pc' := 3) rfl (by decide +kernel) ?_
  refine xi_callS (As := [.int x, .int (nI 2), .int (nI 5)]) (rest := []) (c_X8_in l D b n (C := C) (S := S) (x := x) (lo := (nI 2)) (hi := (nI 5))) hC dX8_reset_3 (pc' := 6) rfl xw_m_X8_83 xw_c_X8_in xw_sta_X8_in xw_ini_X8 xd_X8_in ⟨Nat.le_of_ble_eq_true rfl, Nat.le_of_ble_eq_true rfl⟩ rfl (Nat.le_of_ble_eq_true rfl) ⟨Nat.le_of_ble_eq_true rfl, Nat.le_of_ble_eq_true rfl⟩ ?_
  rintro _ _ ⟨rfl, rfl⟩
  show xV _ _ _ _ _ _ _ _ _ _ _ _ _ _ _ _ _ (xH D b (jn C S)) _ _ [.int (bI ((nI 2) ≤ x ∧ x ≤ (nI 5)))]
  refine xb_ifne (tgt := 13) hC dX8_reset_6 (pc' := 9) rfl (by decide) (fun zc6 => ?_) (fun zc6 => ?_)
  · skip
    obtain ⟨z, hz2, hz5, rfl⟩ := rng25 zc6
    refine xi_aload_n hC dX8_reset_13 (pc' := 14) rfl rfl rfl ?_
    refine xt_g_users hC dX8_reset_14 (pc' := 17) rfl xw_f_X8_73 ?_
    refine xtop (y := (nI u)) (hu) ?_
    refine xi_istore_n (lv' := [some (.ref (b + oMod)), some (.int (nI z)), some (.int (nI u))]) hC dX8_reset_17 (pc' := 18) rfl rfl (by decide) rfl ?_
    refine xi_aload_n hC dX8_reset_18 (pc' := 19) rfl rfl rfl ?_
    refine xi_iload_n hC dX8_reset_19 (pc' := 20) rfl rfl rfl ?_
    refine xi_callV (As := [.int (nI z)]) (rest := []) (c_X8_begin l D b n (C := C) (S := S) (z := z)) hC dX8_reset_20 (pc' := 23) rfl xw_m_X8_69 xw_c_X8_begin xw_ins_X8_begin xw_sel_X8_begin xw_ini_X8 xd_X8_begin (xH_at.trans (xsh_8 kd_oMod)) rfl ⟨Nat.le_of_ble_eq_true rfl, Nat.le_of_ble_eq_true rfl⟩ rfl (Nat.le_of_ble_eq_true rfl) ⟨Nat.le_of_ble_eq_true rfl, Nat.le_of_ble_eq_true rfl⟩ ?_
    rintro _ _ ⟨rfl, T_1, hB_2, rfl⟩
    show xV _ _ _ _ _ _ _ _ _ _ _ _ _ _ _ _ _ (xH D b (jn C T_1)) _ _ []
    refine xi_iload_n hC dX8_reset_23 (pc' := 24) rfl rfl rfl ?_
    refine xi_ireturn hC dX8_reset_24 hr rfl ?_
    refine ⟨_, _, rfl, ⟨fun q => absurd zc6 q, fun z' q1 q2 q3 => ?_⟩, rfl⟩
    obtain rfl := nI_inj (by omega) (by omega) q3
    exact ⟨rfl, hB_2⟩
  · skip
    refine xi_sipush (v := -10002) hC dX8_reset_9 (pc' := 12) rfl (by decide +kernel) ?_
    refine xi_ireturn hC dX8_reset_12 hr rfl ?_
    exact ⟨_, S, rfl, ⟨fun _ => ⟨rfl, rfl⟩, fun z q1 q2 q3 => absurd ⟨by rw [q3]; exact nI_le q1 (by omega), by rw [q3]; exact nI_le q2 (by omega)⟩ zc6⟩, rfl⟩
