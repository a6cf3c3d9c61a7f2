theorem xtab_0_5 {x : Int32} (h : ¬ (x.toInt < 0 ∨ 5 < x.toInt)) : x = 0 ∨ x = 1 ∨ x = 2 ∨ x = 3 ∨ x = 4 ∨ x = 5 := by
  have h1 : x.toInt = 0 ∨ x.toInt = 1 ∨ x.toInt = 2 ∨ x.toInt = 3 ∨ x.toInt = 4 ∨ x.toInt = 5 := by omega
  rcases h1 with q | q | q | q | q | q
  · exact Or.inl (Int32.toInt_inj.mp (q.trans (by decide)))
  · exact Or.inr (Or.inl (Int32.toInt_inj.mp (q.trans (by decide))))
  · exact Or.inr (Or.inr (Or.inl (Int32.toInt_inj.mp (q.trans (by decide)))))
  · exact Or.inr (Or.inr (Or.inr (Or.inl (Int32.toInt_inj.mp (q.trans (by decide))))))
  · exact Or.inr (Or.inr (Or.inr (Or.inr (Or.inl (Int32.toInt_inj.mp (q.trans (by decide)))))))
  · exact Or.inr (Or.inr (Or.inr (Or.inr (Or.inr (Int32.toInt_inj.mp (q.trans (by decide)))))))
theorem xtab_0_7 {x : Int32} (h : ¬ (x.toInt < 0 ∨ 7 < x.toInt)) : x = 0 ∨ x = 1 ∨ x = 2 ∨ x = 3 ∨ x = 4 ∨ x = 5 ∨ x = 6 ∨ x = 7 := by
  have h1 : x.toInt = 0 ∨ x.toInt = 1 ∨ x.toInt = 2 ∨ x.toInt = 3 ∨ x.toInt = 4 ∨ x.toInt = 5 ∨ x.toInt = 6 ∨ x.toInt = 7 := by omega
  rcases h1 with q | q | q | q | q | q | q | q
  · exact Or.inl (Int32.toInt_inj.mp (q.trans (by decide)))
  · exact Or.inr (Or.inl (Int32.toInt_inj.mp (q.trans (by decide))))
  · exact Or.inr (Or.inr (Or.inl (Int32.toInt_inj.mp (q.trans (by decide)))))
  · exact Or.inr (Or.inr (Or.inr (Or.inl (Int32.toInt_inj.mp (q.trans (by decide))))))
  · exact Or.inr (Or.inr (Or.inr (Or.inr (Or.inl (Int32.toInt_inj.mp (q.trans (by decide)))))))
  · exact Or.inr (Or.inr (Or.inr (Or.inr (Or.inr (Or.inl (Int32.toInt_inj.mp (q.trans (by decide))))))))
  · exact Or.inr (Or.inr (Or.inr (Or.inr (Or.inr (Or.inr (Or.inl (Int32.toInt_inj.mp (q.trans (by decide)))))))))
  · exact Or.inr (Or.inr (Or.inr (Or.inr (Or.inr (Or.inr (Or.inr (Int32.toInt_inj.mp (q.trans (by decide)))))))))
theorem xtab_0_3 {x : Int32} (h : ¬ (x.toInt < 0 ∨ 3 < x.toInt)) : x = 0 ∨ x = 1 ∨ x = 2 ∨ x = 3 := by
  have h1 : x.toInt = 0 ∨ x.toInt = 1 ∨ x.toInt = 2 ∨ x.toInt = 3 := by omega
  rcases h1 with q | q | q | q
  · exact Or.inl (Int32.toInt_inj.mp (q.trans (by decide)))
  · exact Or.inr (Or.inl (Int32.toInt_inj.mp (q.trans (by decide))))
  · exact Or.inr (Or.inr (Or.inl (Int32.toInt_inj.mp (q.trans (by decide)))))
  · exact Or.inr (Or.inr (Or.inr (Int32.toInt_inj.mp (q.trans (by decide)))))
theorem xtab_0_25 {x : Int32} (h : ¬ (x.toInt < 0 ∨ 25 < x.toInt)) : x = 0 ∨ x = 1 ∨ x = 2 ∨ x = 3 ∨ x = 4 ∨ x = 5 ∨ x = 6 ∨ x = 7 ∨ x = 8 ∨ x = 9 ∨ x = 10 ∨ x = 11 ∨ x = 12 ∨ x = 13 ∨ x = 14 ∨ x = 15 ∨ x = 16 ∨ x = 17 ∨ x = 18 ∨ x = 19 ∨ x = 20 ∨ x = 21 ∨ x = 22 ∨ x = 23 ∨ x = 24 ∨ x = 25 := by
  have h1 : x.toInt = 0 ∨ x.toInt = 1 ∨ x.toInt = 2 ∨ x.toInt = 3 ∨ x.toInt = 4 ∨ x.toInt = 5 ∨ x.toInt = 6 ∨ x.toInt = 7 ∨ x.toInt = 8 ∨ x.toInt = 9 ∨ x.toInt = 10 ∨ x.toInt = 11 ∨ x.toInt = 12 ∨ x.toInt = 13 ∨ x.toInt = 14 ∨ x.toInt = 15 ∨ x.toInt = 16 ∨ x.toInt = 17 ∨ x.toInt = 18 ∨ x.toInt = 19 ∨ x.toInt = 20 ∨ x.toInt = 21 ∨ x.toInt = 22 ∨ x.toInt = 23 ∨ x.toInt = 24 ∨ x.toInt = 25 := by omega
  rcases h1 with q | q | q | q | q | q | q | q | q | q | q | q | q | q | q | q | q | q | q | q | q | q | q | q | q | q
  · exact Or.inl (Int32.toInt_inj.mp (q.trans (by decide)))
  · exact Or.inr (Or.inl (Int32.toInt_inj.mp (q.trans (by decide))))
  · exact Or.inr (Or.inr (Or.inl (Int32.toInt_inj.mp (q.trans (by decide)))))
  · exact Or.inr (Or.inr (Or.inr (Or.inl (Int32.toInt_inj.mp (q.trans (by decide))))))
  · exact Or.inr (Or.inr (Or.inr (Or.inr (Or.inl (Int32.toInt_inj.mp (q.trans (by decide)))))))
  · exact Or.inr (Or.inr (Or.inr (Or.inr (Or.inr (Or.inl (Int32.toInt_inj.mp (q.trans (by decide))))))))
  · exact Or.inr (Or.inr (Or.inr (Or.inr (Or.inr (Or.inr (Or.inl (Int32.toInt_inj.mp (q.trans (by decide)))))))))
  · exact Or.inr (Or.inr (Or.inr (Or.inr (Or.inr (Or.inr (Or.inr (Or.inl (Int32.toInt_inj.mp (q.trans (by decide))))))))))
  · exact Or.inr (Or.inr (Or.inr (Or.inr (Or.inr (Or.inr (Or.inr (Or.inr (Or.inl (Int32.toInt_inj.mp (q.trans (by decide)))))))))))
  · exact Or.inr (Or.inr (Or.inr (Or.inr (Or.inr (Or.inr (Or.inr (Or.inr (Or.inr (Or.inl (Int32.toInt_inj.mp (q.trans (by decide))))))))))))
  · exact Or.inr (Or.inr (Or.inr (Or.inr (Or.inr (Or.inr (Or.inr (Or.inr (Or.inr (Or.inr (Or.inl (Int32.toInt_inj.mp (q.trans (by decide)))))))))))))
  · exact Or.inr (Or.inr (Or.inr (Or.inr (Or.inr (Or.inr (Or.inr (Or.inr (Or.inr (Or.inr (Or.inr (Or.inl (Int32.toInt_inj.mp (q.trans (by decide))))))))))))))
  · exact Or.inr (Or.inr (Or.inr (Or.inr (Or.inr (Or.inr (Or.inr (Or.inr (Or.inr (Or.inr (Or.inr (Or.inr (Or.inl (Int32.toInt_inj.mp (q.trans (by decide)))))))))))))))
  · exact Or.inr (Or.inr (Or.inr (Or.inr (Or.inr (Or.inr (Or.inr (Or.inr (Or.inr (Or.inr (Or.inr (Or.inr (Or.inr (Or.inl (Int32.toInt_inj.mp (q.trans (by decide))))))))))))))))
  · exact Or.inr (Or.inr (Or.inr (Or.inr (Or.inr (Or.inr (Or.inr (Or.inr (Or.inr (Or.inr (Or.inr (Or.inr (Or.inr (Or.inr (Or.inl (Int32.toInt_inj.mp (q.trans (by decide)))))))))))))))))
  · exact Or.inr (Or.inr (Or.inr (Or.inr (Or.inr (Or.inr (Or.inr (Or.inr (Or.inr (Or.inr (Or.inr (Or.inr (Or.inr (Or.inr (Or.inr (Or.inl (Int32.toInt_inj.mp (q.trans (by decide))))))))))))))))))
  · exact Or.inr (Or.inr (Or.inr (Or.inr (Or.inr (Or.inr (Or.inr (Or.inr (Or.inr (Or.inr (Or.inr (Or.inr (Or.inr (Or.inr (Or.inr (Or.inr (Or.inl (Int32.toInt_inj.mp (q.trans (by decide)))))))))))))))))))
  · exact Or.inr (Or.inr (Or.inr (Or.inr (Or.inr (Or.inr (Or.inr (Or.inr (Or.inr (Or.inr (Or.inr (Or.inr (Or.inr (Or.inr (Or.inr (Or.inr (Or.inr (Or.inl (Int32.toInt_inj.mp (q.trans (by decide))))))))))))))))))))
  · exact Or.inr (Or.inr (Or.inr (Or.inr (Or.inr (Or.inr (Or.inr (Or.inr (Or.inr (Or.inr (Or.inr (Or.inr (Or.inr (Or.inr (Or.inr (Or.inr (Or.inr (Or.inr (Or.inl (Int32.toInt_inj.mp (q.trans (by decide)))))))))))))))))))))
  · exact Or.inr (Or.inr (Or.inr (Or.inr (Or.inr (Or.inr (Or.inr (Or.inr (Or.inr (Or.inr (Or.inr (Or.inr (Or.inr (Or.inr (Or.inr (Or.inr (Or.inr (Or.inr (Or.inr (Or.inl (Int32.toInt_inj.mp (q.trans (by decide))))))))))))))))))))))
  · exact Or.inr (Or.inr (Or.inr (Or.inr (Or.inr (Or.inr (Or.inr (Or.inr (Or.inr (Or.inr (Or.inr (Or.inr (Or.inr (Or.inr (Or.inr (Or.inr (Or.inr (Or.inr (Or.inr (Or.inr (Or.inl (Int32.toInt_inj.mp (q.trans (by decide)))))))))))))))))))))))
  · exact Or.inr (Or.inr (Or.inr (Or.inr (Or.inr (Or.inr (Or.inr (Or.inr (Or.inr (Or.inr (Or.inr (Or.inr (Or.inr (Or.inr (Or.inr (Or.inr (Or.inr (Or.inr (Or.inr (Or.inr (Or.inr (Or.inl (Int32.toInt_inj.mp (q.trans (by decide))))))))))))))))))))))))
  · exact Or.inr (Or.inr (Or.inr (Or.inr (Or.inr (Or.inr (Or.inr (Or.inr (Or.inr (Or.inr (Or.inr (Or.inr (Or.inr (Or.inr (Or.inr (Or.inr (Or.inr (Or.inr (Or.inr (Or.inr (Or.inr (Or.inr (Or.inl (Int32.toInt_inj.mp (q.trans (by decide)))))))))))))))))))))))))
  · exact Or.inr (Or.inr (Or.inr (Or.inr (Or.inr (Or.inr (Or.inr (Or.inr (Or.inr (Or.inr (Or.inr (Or.inr (Or.inr (Or.inr (Or.inr (Or.inr (Or.inr (Or.inr (Or.inr (Or.inr (Or.inr (Or.inr (Or.inr (Or.inl (Int32.toInt_inj.mp (q.trans (by decide))))))))))))))))))))))))))
  · exact Or.inr (Or.inr (Or.inr (Or.inr (Or.inr (Or.inr (Or.inr (Or.inr (Or.inr (Or.inr (Or.inr (Or.inr (Or.inr (Or.inr (Or.inr (Or.inr (Or.inr (Or.inr (Or.inr (Or.inr (Or.inr (Or.inr (Or.inr (Or.inr (Or.inl (Int32.toInt_inj.mp (q.trans (by decide)))))))))))))))))))))))))))
  · exact Or.inr (Or.inr (Or.inr (Or.inr (Or.inr (Or.inr (Or.inr (Or.inr (Or.inr (Or.inr (Or.inr (Or.inr (Or.inr (Or.inr (Or.inr (Or.inr (Or.inr (Or.inr (Or.inr (Or.inr (Or.inr (Or.inr (Or.inr (Or.inr (Or.inr (Int32.toInt_inj.mp (q.trans (by decide)))))))))))))))))))))))))))
theorem xn_irem0 : ¬ (nI 5 : Int32) = 0 := by decide
theorem su_self {σ : XM} {o : Nat} : σ = su σ o (σ o) := by
  funext q
  by_cases h : q = o
  · subst h; rw [su_s]
  · rw [su_n h]
theorem sw_su {σ : XM} {o k : Nat} {g : Nat → Int32} {x : Int32} : sw (su σ o g) o k x = su σ o (upd g k x) := by
  funext q
  by_cases h : q = o
  · subst h; rw [su_s]; unfold sw; rw [su_s, su_s]
  · rw [su_n h, sw_n h, su_n h]
theorem su_of {σ τ : XM} {o : Nat} (h : ∀ q, q ≠ o → τ q = σ q) : τ = su σ o (τ o) := by
  funext q
  by_cases hq : q = o
  · subst hq; rw [su_s]
  · rw [su_n hq]; exact h q hq
theorem upd_s {f : Nat → Int32} {k : Nat} {x : Int32} : upd f k x k = x := if_pos rfl
theorem upd_n {f : Nat → Int32} {k j : Nat} {x : Int32} (h : j ≠ k) : upd f k x j = f j := if_neg h
theorem upd_all {P : Nat → Int32 → Prop} {g : Nat → Int32} {j : Nat} {x : Int32} (h : ∀ k, k < j → P k (g k)) (hx : P j x) : ∀ k, k < j + 1 → P k (upd g j x k) := by
  intro k hk
  by_cases q : k = j
  · subst q; rw [upd_s]; exact hx
  · rw [upd_n q]; exact h k (by omega)
/-- each number is at most the other's, in the first n places -/
def vle (n : Nat) (f g : Nat → Int32) : Prop := ∀ k, k < n → f k ≤ g k
theorem vle_s {n : Nat} {f g : Nat → Int32} : vle (n + 1) f g ↔ vle n f g ∧ f n ≤ g n := by
  constructor
  · intro h; exact ⟨fun k hk => h k (by omega), h n (by omega)⟩
  · rintro ⟨h, h2⟩ k hk
    rcases Nat.lt_or_ge k n with q | q
    · exact h k q
    · rw [show k = n by omega]; exact h2
theorem vle_congr {n : Nat} {f g f' g' : Nat → Int32} (hf : ∀ k, k < n → f k = f' k) (hg : ∀ k, k < n → g k = g' k) : vle n f g ↔ vle n f' g' :=
  ⟨fun h k hk => by rw [← hf k hk, ← hg k hk]; exact h k hk, fun h k hk => by rw [hf k hk, hg k hk]; exact h k hk⟩
theorem i_le_refl (x : Int32) : x ≤ x := Int32.le_refl x
theorem i_not_lt {x y : Int32} : ¬ x < y ↔ y ≤ x := Int32.not_lt
theorem i_not_le {x y : Int32} : ¬ x ≤ y ↔ y < x := Int32.not_le
theorem vle_refl {n : Nat} {f : Nat → Int32} : vle n f f := fun k _ => Int32.le_refl _
theorem vle_trans {n : Nat} {f g h : Nat → Int32} (h1 : vle n f g) (h2 : vle n g h) : vle n f h := fun k hk => Int32.le_trans (h1 k hk) (h2 k hk)
/-- 0: equal, -1: at most, 1: at least, 2: incomparable -/
noncomputable def rel (n : Nat) (f g : Nat → Int32) : Int32 := @ite _ (vle n f g) (Classical.propDecidable _) (@ite _ (vle n g f) (Classical.propDecidable _) 0 (-1)) (@ite _ (vle n g f) (Classical.propDecidable _) 1 2)
theorem rel_00 {n : Nat} {f g : Nat → Int32} (h : vle n f g) (h2 : vle n g f) : rel n f g = 0 := by unfold rel; rw [if_pos h, if_pos h2]
theorem rel_01 {n : Nat} {f g : Nat → Int32} (h : vle n f g) (h2 : ¬ vle n g f) : rel n f g = -1 := by unfold rel; rw [if_pos h, if_neg h2]
theorem rel_10 {n : Nat} {f g : Nat → Int32} (h : ¬ vle n f g) (h2 : vle n g f) : rel n f g = 1 := by unfold rel; rw [if_neg h, if_pos h2]
theorem rel_11 {n : Nat} {f g : Nat → Int32} (h : ¬ vle n f g) (h2 : ¬ vle n g f) : rel n f g = 2 := by unfold rel; rw [if_neg h, if_neg h2]
theorem rel_2 {n : Nat} {f g : Nat → Int32} : rel n f g = 2 ↔ ¬ vle n f g ∧ ¬ vle n g f := by
  by_cases h : vle n f g <;> by_cases h2 : vle n g f
  · rw [rel_00 h h2]; exact ⟨fun q => absurd q (by decide), fun q => absurd h q.1⟩
  · rw [rel_01 h h2]; exact ⟨fun q => absurd q (by decide), fun q => absurd h q.1⟩
  · rw [rel_10 h h2]; exact ⟨fun q => absurd q (by decide), fun q => absurd h2 q.2⟩
  · rw [rel_11 h h2]; exact ⟨fun _ => ⟨h, h2⟩, fun _ => rfl⟩
theorem rel_0 {n : Nat} {f g : Nat → Int32} : rel n f g = 0 ↔ vle n f g ∧ vle n g f := by
  by_cases h : vle n f g <;> by_cases h2 : vle n g f
  · rw [rel_00 h h2]; exact ⟨fun _ => ⟨h, h2⟩, fun _ => rfl⟩
  · rw [rel_01 h h2]; exact ⟨fun q => absurd q (by decide), fun q => absurd q.2 h2⟩
  · rw [rel_10 h h2]; exact ⟨fun q => absurd q (by decide), fun q => absurd q.1 h⟩
  · rw [rel_11 h h2]; exact ⟨fun q => absurd q (by decide), fun q => absurd q.1 h⟩
theorem rel_congr {n : Nat} {f g f' g' : Nat → Int32} (hf : ∀ k, k < n → f k = f' k) (hg : ∀ k, k < n → g k = g' k) : rel n f g = rel n f' g' := by
  unfold rel
  rw [propext (vle_congr hf hg), propext (vle_congr hg hf)]
theorem bI_ex1 {P : Nat → Prop} {j : Nat} (h : P j) : nI 1 = bI (∃ k, k < j + 1 ∧ P k) := (bI_t ⟨j, by omega, h⟩).symm
theorem bI_ex0 {P : Nat → Prop} {j : Nat} (h : ¬ P j) : bI (∃ k, k < j ∧ P k) = bI (∃ k, k < j + 1 ∧ P k) := bI_congr ⟨fun ⟨k, q, r⟩ => ⟨k, by omega, r⟩, fun ⟨k, q, r⟩ => ⟨k, by rcases Nat.lt_or_ge k j with z | z; exact z; exact absurd (show k = j by omega) (fun e => h (e ▸ r)), r⟩⟩
def xsum (f : Nat → Int32) : Nat → Int32
  | 0 => 0
  | k + 1 => xsum f k + f k
theorem xsum_congr {f g : Nat → Int32} : ∀ {n : Nat}, (∀ k, k < n → f k = g k) → xsum f n = xsum g n
  | 0, _ => rfl
  | n + 1, h => by
    show xsum f n + f n = xsum g n + g n
    rw [xsum_congr (fun k hk => h k (by omega)), h n (by omega)]
noncomputable def xcnt (P : Nat → Prop) : Nat → Nat
  | 0 => 0
  | k + 1 => xcnt P k + @ite _ (P k) (Classical.propDecidable _) 1 0
theorem xcnt_t {P : Nat → Prop} {k : Nat} (h : P k) : xcnt P (k + 1) = xcnt P k + 1 := by show xcnt P k + _ = _; rw [if_pos h]
theorem xcnt_f {P : Nat → Prop} {k : Nat} (h : ¬ P k) : xcnt P (k + 1) = xcnt P k := by show xcnt P k + _ = _; rw [if_neg h]; rfl
theorem xcnt_le (P : Nat → Prop) : ∀ n, xcnt P n ≤ n
  | 0 => Nat.le_refl _
  | n + 1 => by
    have := xcnt_le P n
    by_cases h : P n
    · rw [xcnt_t h]; omega
    · rw [xcnt_f h]; omega
theorem xcnt_congr {P Q : Nat → Prop} : ∀ {n : Nat}, (∀ k, k < n → (P k ↔ Q k)) → xcnt P n = xcnt Q n
  | 0, _ => rfl
  | n + 1, h => by
    have h1 := xcnt_congr (n := n) (fun k hk => h k (by omega))
    by_cases q : P n
    · rw [xcnt_t q, xcnt_t ((h n (by omega)).mp q), h1]
    · rw [xcnt_f q, xcnt_f (fun z => q ((h n (by omega)).mpr z)), h1]
/-- the place of the greatest: each next one that is at least the one so far takes its place -/
noncomputable def gix (le : Nat → Nat → Prop) : Nat → Nat
  | 0 => 0
  | k + 1 => @ite _ (le (gix le k) (k + 1)) (Classical.propDecidable _) (k + 1) (gix le k)
theorem gix_t {le : Nat → Nat → Prop} {k : Nat} (h : le (gix le k) (k + 1)) : gix le (k + 1) = k + 1 := if_pos h
theorem gix_f {le : Nat → Nat → Prop} {k : Nat} (h : ¬ le (gix le k) (k + 1)) : gix le (k + 1) = gix le k := if_neg h
theorem gix_le (le : Nat → Nat → Prop) : ∀ n, gix le n ≤ n
  | 0 => Nat.le_refl _
  | n + 1 => by
    have := gix_le le n
    by_cases h : le (gix le n) (n + 1)
    · rw [gix_t h]; exact Nat.le_refl _
    · rw [gix_f h]; omega
/-- what becomes of a proof that may be kept -/
def xKeep (σ : XM) (o : Nat) (d : Int32) (f1 f2 : Nat → Int32) (τ : XM) : Prop :=
  (σ o 2 ≠ 0 ∧ τ = σ) ∨ (σ o 2 = 0 ∧ ∃ g1 g2 : Nat → Int32, (∀ k, k < 5 → g1 k = f1 k) ∧ (∀ k, k < 5 → g2 k = f2 k) ∧ τ = sw (sw (su (su σ (oNum (oFst o)) g1) (oNum (oSnd o)) g2) o 3 d) o 2 (nI 1))
