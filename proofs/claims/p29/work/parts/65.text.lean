/-! ===== p29: the text and its run ===== -/
def LF (L : List Int32) : Nat → Int32 := fun j => L.getD j 0
def TX (S : XM) (L : List Int32) : Prop := S oMod 23 = nI L.length ∧ ∀ j, j < L.length → S m_text j = LF L j
theorem TX_type {S T : XM} {L : List Int32} {x r : Int32} (h : TX S L) (hl : L.length < 60) (hs : s_type S x r T) : TX T (L ++ [x]) ∧ ∀ o, o ≠ m_text → o ≠ oMod → T o = S o := by
  obtain ⟨-, e⟩ := (hs L.length (by omega) h.1).2 (by omega)
  subst e
  refine ⟨⟨?_, fun j hj => ?_⟩, fun o o1 o2 => by rw [sw_n o2, sw_n o1]⟩
  · rw [sw_s, List.length_append]; rfl
  · rw [List.length_append] at hj
    rw [sw_n (by decide)]
    rcases Nat.lt_or_ge j L.length with z | z
    · rw [sw_k (by omega), h.2 j z]
      unfold LF
      rw [List.getD_eq_getElem?_getD, List.getD_eq_getElem?_getD, List.getElem?_append_left z]
    · have ej : j = L.length := by
        have : j < L.length + 1 := hj
        omega
      rw [ej, sw_s]
      unfold LF
      rw [List.getD_eq_getElem?_getD, List.getElem?_append_right (Nat.le_refl _), Nat.sub_self]
      rfl
theorem TX_clear {S T : XM} {r : Int32} (hs : s_clear S r T) : TX T [] ∧ ∀ o, o ≠ oMod → T o = S o := by
  obtain ⟨-, e⟩ := hs
  subst e
  exact ⟨⟨sw_s, fun j hj => absurd hj (Nat.not_lt_zero _)⟩, fun o ho => sw_n ho⟩
theorem TX_fb {S : XM} {L : List Int32} (h : TX S L) : fb (okc (S m_text)) L.length = fb (okc (LF L)) L.length := fb_congr (fun i hi => by unfold okc; rw [h.2 i hi])
theorem run_0 {S T : XM} {u w : Nat} {r : Int32} (h : TX S []) (hs : s_run S u w r T) : r = nI 0 ∧ T = S := by
  obtain ⟨n, rfl, q⟩ := (hs 0 (by decide) h.1).2 ⟨rfl, rfl⟩
  obtain ⟨rfl, rfl⟩ := q
  exact ⟨rfl, rfl⟩
theorem run_bad {S T : XM} {u w i : Nat} {r : Int32} {L : List Int32} (h : TX S L) (hl : L.length ≤ 60) (hi : fb (okc (LF L)) L.length = i) (hn : ¬ (i = L.length ∧ L.length % 3 = 0)) (hs : s_run S u w r T) : r = (-100) - nI i ∧ T = S := by
  have q := (hs L.length hl h.1).1
  rw [TX_fb h, hi] at q
  exact q hn
theorem okc_L {f : Nat → Int32} {i : Nat} (h : i % 3 = 0) (q : isL (f i)) : okc f i := ⟨fun _ => q, fun z => absurd h z⟩
theorem okc_D {f : Nat → Int32} {i : Nat} (h : i % 3 ≠ 0) (q : isD (f i)) : okc f i := ⟨fun z => absurd z h, fun _ => q⟩
theorem run_1 {S T : XM} {u w : Nat} {r : Int32} (h : TX S [nI 109]) (hs : s_run S u w r T) : r = (-101) ∧ T = S := by
  have hi : fb (okc (LF [nI 109])) 1 = 1 := fb_all (fun i hi => by
    obtain rfl : i = 0 := by omega
    exact okc_L rfl (by show isL (nI 109); unfold isL; decide))
  obtain ⟨e, e2⟩ := run_bad h (by decide) hi (by decide) hs
  exact ⟨e.trans (by decide), e2⟩
theorem run_2 {S T : XM} {u w : Nat} {r : Int32} (h : TX S [nI 109, nI 48, nI 120]) (hs : s_run S u w r T) : r = (-102) ∧ T = S := by
  have hi : fb (okc (LF [nI 109, nI 48, nI 120])) 3 = 2 := fb_bad (fun q => absurd (q.2 (by decide)) (by show ¬ isD (nI 120); unfold isD; decide)) (fun j hj => by
    match j, hj with
    | 0, _ => exact okc_L rfl (by show isL (nI 109); unfold isL; decide)
    | 1, _ => exact okc_D (by decide) (by show isD (nI 48); unfold isD; decide)) (by decide)
  obtain ⟨e, e2⟩ := run_bad h (by decide) hi (by decide) hs
  exact ⟨e.trans (by decide), e2⟩
def L12 (v : Nat) : List Int32 := [nI 109, nI 48, nI (48 + v), nI 103, nI 49, nI 48, nI 115, nI 49, nI 49, nI 109, nI 48, nI 48]
theorem ok12 {v : Nat} (hv : v < 6) (X : List Int32) : ∀ i, i < 12 → okc (LF (L12 v ++ X)) i := by
  intro i hi
  match i, hi with
  | 0, _ => exact okc_L rfl (by show isL (nI 109); unfold isL; decide)
  | 1, _ => exact okc_D (by decide) (by show isD (nI 48); unfold isD; decide)
  | 2, _ => exact okc_D (by decide) ⟨nI_le (by omega) (by omega), nI_le (by omega) (by decide)⟩
  | 3, _ => exact okc_L rfl (by show isL (nI 103); unfold isL; decide)
  | 4, _ => exact okc_D (by decide) (by show isD (nI 49); unfold isD; decide)
  | 5, _ => exact okc_D (by decide) (by show isD (nI 48); unfold isD; decide)
  | 6, _ => exact okc_L rfl (by show isL (nI 115); unfold isL; decide)
  | 7, _ => exact okc_D (by decide) (by show isD (nI 49); unfold isD; decide)
  | 8, _ => exact okc_D (by decide) (by show isD (nI 49); unfold isD; decide)
  | 9, _ => exact okc_L rfl (by show isL (nI 109); unfold isL; decide)
  | 10, _ => exact okc_D (by decide) (by show isD (nI 48); unfold isD; decide)
  | 11, _ => exact okc_D (by decide) (by show isD (nI 48); unfold isD; decide)
theorem run_q {S T : XM} {u w v : Nat} {r : Int32} (hv : v < 6) (h : TX S (L12 v ++ [nI 113])) (hs : s_run S u w r T) : r = (-112) ∧ T = S := by
  have hi : fb (okc (LF (L12 v ++ [nI 113]))) 13 = 12 := fb_bad (fun q => absurd (q.1 (by decide)) (by show ¬ isL (nI 113); unfold isL; decide)) (ok12 hv _) (by decide)
  obtain ⟨e, e2⟩ := run_bad h (show 13 ≤ 60 by decide) hi (show ¬ (12 = 13 ∧ 13 % 3 = 0) by decide) hs
  exact ⟨e.trans (by decide), e2⟩
theorem run_4 {S T : XM} {u w v : Nat} {r : Int32} (hu2 : 2 ≤ u) (hu : u ≤ 5) (hv : v < w) (hw : w ≤ 6) (hV : S m_viewOf 0 = nI v) (h : TX S (L12 v)) (hs : s_run S u w r T) : r = nI 2 ∧ T = sw S m_viewOf 0 (nI v) := by
  have hf : ∀ j, j < 12 → S m_text j = LF (L12 v) j := h.2
  have hfb : fb (okc (S m_text)) 12 = 12 := (TX_fb h).trans (fb_all (fun i hi => by
    have := ok12 (v := v) (by omega) [] i hi
    rw [List.append_nil] at this
    exact this))
  obtain ⟨n, rfl, q⟩ := (hs 12 (by decide) h.1).2 ⟨hfb, by decide⟩
  obtain ⟨ok1, T1, c1, d1⟩ := (show s_cmds u w (S m_text) 4 0 S n T from q)
  have c1 : s_cmd S u w (S m_text 0) (S m_text 1 - nI 48) (S m_text 2 - nI 48) ok1 T1 := c1
  rw [hf 0 (by decide), hf 1 (by decide), hf 2 (by decide), show LF (L12 v) 1 - nI 48 = nI 0 from (by decide : nI 48 - nI 48 = nI 0), show LF (L12 v) 2 - nI 48 = nI v by
    show nI (48 + v) - nI 48 = nI v
    rw [← nI_add, Int32.add_comm, Int32.add_sub_cancel]] at c1
  obtain ⟨r1, a1, b1⟩ := c1.2.2.2.1 rfl
  obtain ⟨e1, e2⟩ := a1.2 0 v (by omega) hv rfl rfl
  have k1 : ok1 = true := b1.mpr (by rw [e1, hV]; exact nI_pos (by omega))
  rcases d1 with ⟨z, -⟩ | ⟨-, d1⟩
  · rw [k1] at z; cases z
  obtain ⟨ok2, T2, c2, d2⟩ := (show s_cmds u w (S m_text) 3 1 T1 n T from d1)
  have c2 : s_cmd T1 u w (S m_text 3) (S m_text 4 - nI 48) (S m_text 5 - nI 48) ok2 T2 := c2
  rw [hf 3 (by decide), hf 4 (by decide), hf 5 (by decide), show LF (L12 v) 4 - nI 48 = nI 1 from (by decide : nI 49 - nI 48 = nI 1), show LF (L12 v) 5 - nI 48 = nI 0 from (by decide : nI 48 - nI 48 = nI 0)] at c2
  obtain ⟨k2, e3⟩ := (c2.2.2.2.2 rfl 0 (by decide) rfl).2 ⟨1, by omega, rfl⟩
  rcases d2 with ⟨z, -⟩ | ⟨-, d2⟩
  · rw [k2] at z; cases z
  obtain ⟨ok3, T3, c3, d3⟩ := (show s_cmds u w (S m_text) 2 2 T2 n T from d2)
  have c3 : s_cmd T2 u w (S m_text 6) (S m_text 7 - nI 48) (S m_text 8 - nI 48) ok3 T3 := c3
  rw [hf 6 (by decide), hf 7 (by decide), hf 8 (by decide), show LF (L12 v) 7 - nI 48 = nI 1 from (by decide : nI 49 - nI 48 = nI 1), show LF (L12 v) 8 - nI 48 = nI 1 from (by decide : nI 49 - nI 48 = nI 1)] at c3
  obtain ⟨r3, a3, b3⟩ := c3.2.2.1 rfl
  obtain ⟨e5, e6⟩ := d_eq a3 (by omega) (by omega) rfl
  have k3 : ok3 = false := by
    cases ok3 with
    | false => rfl
    | true => exact absurd (show r3 < 0 by rw [e5]; decide) (b3.mp rfl)
  rcases d3 with ⟨-, e7, e8⟩ | ⟨z, -⟩
  · exact ⟨by rw [e7], by rw [e8, e6, e3, e2]⟩
  · rw [k3] at z; cases z
theorem ch_i2c {v : Nat} (h : v < 6) : ((nI (48 + v)).toUInt32 % 65536).toInt32 = nI (48 + v) := (show ∀ v, v < 6 → ((nI (48 + v)).toUInt32 % 65536).toInt32 = nI (48 + v) by decide +kernel) v h
theorem ch_nar {v : Nat} (h : v < 6) : vp_nar .char (nI (48 + v)) = nI (48 + v) := (show ∀ v, v < 6 → vp_nar .char (nI (48 + v)) = nI (48 + v) by decide +kernel) v h
