/-! ===== p29: what is told beside what is told ===== -/
/-- the pairs (i, j) with i below j, row by row -/
noncomputable def apc (P : Nat → Nat → Prop) (n : Nat) : Nat → Nat
  | 0 => 0
  | m + 1 => apc P n m + xcnt (fun j => m < j ∧ P m j) n
theorem apc_s {P : Nat → Nat → Prop} {n m : Nat} : apc P n (m + 1) = apc P n m + xcnt (fun j => m < j ∧ P m j) n := rfl
theorem xcnt_none {P : Nat → Prop} : ∀ {n : Nat}, (∀ k, k < n → ¬ P k) → xcnt P n = 0
  | 0, _ => rfl
  | n + 1, h => by rw [xcnt_f (h n (by omega))]; exact xcnt_none (fun k hk => h k (by omega))
theorem apc_col {P : Nat → Nat → Prop} {n : Nat} : ∀ m, apc P (n + 1) m = apc P n m + xcnt (fun i => i < n ∧ P i n) m
  | 0 => rfl
  | m + 1 => by
    rw [apc_s, apc_s, apc_col m]
    by_cases h : m < n ∧ P m n
    · rw [xcnt_t (P := fun j => m < j ∧ P m j) h, xcnt_t (P := fun i => i < n ∧ P i n) h]; omega
    · rw [xcnt_f (P := fun j => m < j ∧ P m j) h, xcnt_f (P := fun i => i < n ∧ P i n) h]; omega
theorem apc_pcnt {P : Nat → Nat → Prop} (hs : ∀ i j, P i j → P j i) : ∀ n, pcnt P n = apc P n n
  | 0 => rfl
  | n + 1 => by
    rw [apc_s, apc_col n, xcnt_none (P := fun j => n < j ∧ P n j) (fun k hk q => by omega), ← apc_pcnt hs n]
    show pcnt P n + xcnt (fun j => P n j) n = _
    rw [xcnt_congr (P := fun j => P n j) (Q := fun i => i < n ∧ P i n) (fun k hk => ⟨fun q => ⟨hk, hs _ _ q⟩, fun q => hs _ _ q.2⟩), Nat.add_zero]
theorem fkQ_sym {S : XM} {u : Nat} : ∀ i j, fkQ S u i j → fkQ S u j i := fun i j h => by
  have := rel_2.mp h
  exact rel_2.mpr ⟨this.2, this.1⟩
theorem sg_1 {S : XM} {u : Nat} : s_pairs S u (nI (apc (fkQ S u) u u)) := by
  show nI (apc (fkQ S u) u u) = nI (pcnt (fkQ S u) u)
  rw [apc_pcnt fkQ_sym]
/-- what is known of the least telling letter when the pairs ahead of (i, j) have been looked at -/
def TL (S : XM) (u i j : Nat) (t : Int32) : Prop := (t = (-10005) ∧ ∀ a c, a < u → c < u → (a < i ∨ (a = i ∧ c < j)) → ¬ tlQ S u a c) ∨ (∃ a c, t = nI (10 * a + c) ∧ a < u ∧ c < u ∧ (a < i ∨ (a = i ∧ c < j)) ∧ tlQ S u a c ∧ ∀ a' c', a' < u → c' < u → tlQ S u a' c' → a < a' ∨ (a = a' ∧ c ≤ c'))
theorem TL_0 {S : XM} {u : Nat} : TL S u 0 0 (-10005) := Or.inl ⟨rfl, fun a c _ _ h => by omega⟩
theorem TL_skip {S : XM} {u i j : Nat} {t : Int32} (h : TL S u i j t) (q : ¬ tlQ S u i j) : TL S u i (j + 1) t := by
  rcases h with ⟨h1, h2⟩ | ⟨a, c, h1, h2, h3, h4, h5⟩
  · refine Or.inl ⟨h1, fun a c ha hc hac => ?_⟩
    rcases (show (a < i ∨ (a = i ∧ c < j)) ∨ (a = i ∧ c = j) by omega) with z | ⟨rfl, rfl⟩
    · exact h2 a c ha hc z
    · exact q
  · exact Or.inr ⟨a, c, h1, h2, h3, by omega, h5⟩
theorem TL_new {S : XM} {u i j : Nat} {t : Int32} (hu : u ≤ 5) (h : TL S u i j t) (ht : ¬ 0 ≤ t) (hi : i < u) (hj : j < u) (q : tlQ S u i j) : TL S u i (j + 1) (nI (10 * i + j)) := by
  rcases h with ⟨h1, h2⟩ | ⟨a, c, h1, h2, h3, -⟩
  · refine Or.inr ⟨i, j, rfl, hi, hj, by omega, q, fun a c ha hc z => ?_⟩
    rcases (show (a < i ∨ (a = i ∧ c < j)) ∨ (i < a ∨ (i = a ∧ j ≤ c)) by omega) with y | y
    · exact absurd z (h2 a c ha hc y)
    · exact y
  · exact absurd (by rw [h1]; exact nI_pos' (by omega)) ht
theorem TL_old {S : XM} {u i j : Nat} {t : Int32} (h : TL S u i j t) (ht : 0 ≤ t) : TL S u i (j + 1) t := by
  rcases h with ⟨h1, -⟩ | ⟨a, c, h1, h2, h3, h4, h5⟩
  · rw [h1] at ht; exact absurd ht (by decide)
  · exact Or.inr ⟨a, c, h1, h2, h3, by omega, h5⟩
theorem TL_row {S : XM} {u i : Nat} {t : Int32} (h : TL S u i u t) : TL S u (i + 1) 0 t := by
  rcases h with ⟨h1, h2⟩ | ⟨a, c, h1, h2, h3, h4, h5⟩
  · exact Or.inl ⟨h1, fun a c ha hc hac => h2 a c ha hc (by omega)⟩
  · exact Or.inr ⟨a, c, h1, h2, h3, by omega, h5⟩
theorem TL_end {S : XM} {u : Nat} {t : Int32} (h : TL S u u 0 t) : s_tell S u t := by
  rcases h with ⟨h1, h2⟩ | ⟨a, c, h1, h2, h3, -, h5, h6⟩
  · exact ⟨fun i j q => absurd q.2.2.1 (h2 i j q.1 q.2.1 (Or.inl q.1)), fun _ => h1⟩
  · refine ⟨fun i j q => ?_, fun q => absurd h5 (q a c h2 h3)⟩
    have q1 := h6 i j q.1 q.2.1 q.2.2.1
    have q2 := q.2.2.2 a c h2 h3 h5
    rw [h1, show a = i by omega, show c = j by omega]
def knP (S : XM) (u i n : Nat) : Prop := S m_alarmOf i = 0 ∧ (∀ v, v < 6 → S m_viewOf i = nI v → al S u v i = 0) ∧ ∀ j, j < n → rel u (rK S i) (rK S j) ≠ 2
theorem knP_s {S : XM} {u i n : Nat} : knP S u i (n + 1) ↔ knP S u i n ∧ rel u (rK S i) (rK S n) ≠ 2 := by
  constructor
  · rintro ⟨h1, h2, h3⟩
    exact ⟨⟨h1, h2, fun j hj => h3 j (by omega)⟩, h3 n (by omega)⟩
  · rintro ⟨⟨h1, h2, h3⟩, h4⟩
    refine ⟨h1, h2, fun j hj => ?_⟩
    rcases Nat.lt_or_ge j n with z | z
    · exact h3 j z
    · rw [show j = n by omega]; exact h4
theorem rel_lt2 {n : Nat} {f g : Nat → Int32} : nI 2 ≤ rel n f g ↔ rel n f g = 2 := by
  by_cases h : vle n f g <;> by_cases h2 : vle n g f
  · rw [rel_00 h h2]; decide
  · rw [rel_01 h h2]; decide
  · rw [rel_10 h h2]; decide
  · rw [rel_11 h h2]; decide
theorem knP_0 {S : XM} {u i v : Nat} (hv : v < 6) (hA : S m_alarmOf i = nI 0) (hV : S m_viewOf i = nI v) (hx : al S u v i = 0) : knP S u i 0 := ⟨hA.trans nI_0, fun v' hv' e => by
  obtain rfl := nI_inj (by omega) (by omega) (hV.symm.trans e)
  exact hx, fun j hj => absurd hj (Nat.not_lt_zero _)⟩
theorem knP_x {S : XM} {u i n v : Nat} (hv : v < 6) (hV : S m_viewOf i = nI v) (hx : al S u v i ≠ 0) : ¬ knP S u i n := fun h => hx (h.2.1 v hv hV)
theorem knP_a {S : XM} {u i n a : Nat} (hA : S m_alarmOf i = nI a) (h0 : 0 < a) (h5 : a ≤ 5) : ¬ knP S u i n := fun h => absurd ((alm_pos hA (by omega)).mpr h0) (by rw [h.1]; decide)
theorem nI_ne {d : Nat} (h : d < 2 ^ 31) : ¬ nI d = (-10005) := fun q => absurd (nI_pos' h) (by rw [q]; decide)
theorem tlQ_iff {S : XM} {u i j a : Nat} (hA : S m_alarmOf j = nI a) (ha5 : a ≤ 5) : tlQ S u i j ↔ a = 0 ∧ rel u (rK S i) (rK S j) = 2 := by
  unfold tlQ
  rw [hA, ← nI_0, nI_eq (by omega) (by decide)]
section XLV
variable {p : Program} {l : Launch} {e : Env} {R : Room} {s : State} {m : MethodId} {args : Array Value} {below : List Frame} {meth : Method} {c : Code} {D : XD} {b nL cells slots : Nat} {Q : State → Prop} {n : Nat} {h : XH} {pc : Nat} {lv lv' : List (Option Value)} {rest : List Value}
/-- another name for the locals -/
theorem xlv (he : lv = lv') (k : xV p l e R s m args below meth c D b nL cells slots Q n h pc lv' rest) : xV p l e R s m args below meth c D b nL cells slots Q n h pc lv rest := he ▸ k
end XLV
