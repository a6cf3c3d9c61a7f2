/-! ===== the words that both sides are held to: S the twin's memory, T behind the call, r the answer ===== -/
/-- u users, w views, and the small numbers in their ranges -/
def MW (S : XM) (u w : Nat) : Prop := MU S u ∧ MN S w ∧ (∀ i, i < 5 → ∃ v, v < w ∧ S m_viewOf i = nI v) ∧ (∀ v, v < w → ∃ k, k ≤ 5 ∧ S m_keptOf v = nI k) ∧ (∀ i, i < 5 → ∃ z, z ≤ 4 ∧ S m_lettersOf i = nI z) ∧ (∃ t, t ≤ 60 ∧ S oMod 23 = nI t) ∧ (∀ i, i < 5 → ∃ a, a ≤ 5 ∧ S m_alarmOf i = nI a)
def inR (x : Int32) : Prop := (-1000) ≤ x ∧ x ≤ nI 1000
theorem nI_inj {a b : Nat} (ha : a < 2 ^ 31) (hb : b < 2 ^ 31) (h : nI a = nI b) : a = b := (nI_eq ha hb).mp h
def s_oper (S : XM) (u i : Nat) (r : Int32) (T1 : XM) : Prop := ∀ v k, v < 6 → k ≤ 5 → S m_viewOf i = nI v → S m_keptOf v = nI k → mOper S u v i k T1 ∧ r = nI (al S u v i)
def s_write (S : XM) (u : Nat) (x y r : Int32) (T : XM) : Prop :=
  (¬ isU u x → r = (-10001) ∧ T = S) ∧ ∀ i, i < u → x = nI i → (¬ inR y → r = (-10002) ∧ T = S) ∧ (inR y → (0 < S m_alarmOf i → r = (-10003) ∧ T = S) ∧ (¬ 0 < S m_alarmOf i → ∀ v k, v < 6 → k ≤ 5 → S m_viewOf i = nI v → S m_keptOf v = nI k → ∃ T1, mOper S u v i k T1 ∧ r = nI (al S u v i) ∧ (al S u v i = 0 → T = sw T1 m_row (30 * v + 25 + i) y) ∧ (al S u v i ≠ 0 → T = T1)))
def s_read (S : XM) (u : Nat) (x y r : Int32) (T : XM) : Prop :=
  (¬ (isU u x ∧ isU u y) → r = (-10001) ∧ T = S) ∧ ∀ i j, i < u → j < u → x = nI i → y = nI j → (0 < S m_alarmOf i → r = (-10003) ∧ T = S) ∧ (¬ 0 < S m_alarmOf i → ∀ v k, v < 6 → k ≤ 5 → S m_viewOf i = nI v → S m_keptOf v = nI k → ∃ T1, mOper S u v i k T1 ∧ r = nI (al S u v i) ∧ (al S u v i = 0 → T = sw (sw T1 m_hasRead i (nI 1)) m_readOf i (T1 m_row (30 * v + 25 + j))) ∧ (al S u v i ≠ 0 → T = T1))
def s_last (S : XM) (u : Nat) (x r : Int32) : Prop := (¬ isU u x → r = (-10001)) ∧ ∀ i, i < u → x = nI i → (S m_hasRead i = 0 → r = (-10005)) ∧ (S m_hasRead i ≠ 0 → r = S m_readOf i)
def s_check (S : XM) (u : Nat) (x r : Int32) (T : XM) : Prop := Sp S T ∧ (¬ isU u x → r = (-10001)) ∧ ∀ i, i < u → x = nI i → (0 < S m_alarmOf i → r = (-10003)) ∧ (¬ 0 < S m_alarmOf i → ∀ v, v < 6 → S m_viewOf i = nI v → r = nI (al S u v i))
/-- a set as bits -/
noncomputable def bitM (Q : Nat → Prop) : Nat → Int32
  | 0 => nI 0
  | k + 1 => @ite _ (Q k) (Classical.propDecidable _) (bitM Q k ||| (nI 1 <<< (nI k &&& 31))) (bitM Q k)
theorem bitM_t {Q : Nat → Prop} {k : Nat} (h : Q k) : bitM Q (k + 1) = bitM Q k ||| (nI 1 <<< (nI k &&& 31)) := if_pos h
theorem bitM_f {Q : Nat → Prop} {k : Nat} (h : ¬ Q k) : bitM Q (k + 1) = bitM Q k := if_neg h
theorem bitM_congr {P Q : Nat → Prop} : ∀ {n : Nat}, (∀ k, k < n → (P k ↔ Q k)) → bitM P n = bitM Q n
  | 0, _ => rfl
  | n + 1, h => by
    have h1 := bitM_congr (n := n) (fun k hk => h k (by omega))
    by_cases q : P n
    · rw [bitM_t q, bitM_t ((h n (by omega)).mp q), h1]
    · rw [bitM_f q, bitM_f (fun z => q ((h n (by omega)).mpr z)), h1]
theorem or_0 (x : Int32) : x ||| nI 0 = x := by rw [nI_0]; exact Int32.or_zero
noncomputable def attM (S : XM) (v : Int32) (u : Nat) : Int32 := bitM (fun i => S m_viewOf i = v) u
def hasB (y : Int32) (i : Nat) : Prop := (y >>> (nI i &&& 31)) &&& nI 1 = nI 1
noncomputable def badS (S : XM) (u v : Nat) (y : Int32) : Prop := y = 0 ∨ ¬ (y &&& (attM S (nI v) u ^^^ (-1))) = 0
def s_fork (S : XM) (u w : Nat) (x y r : Int32) (T : XM) : Prop :=
  (¬ isU w x → r = (-10001) ∧ T = S) ∧ ∀ v, v < w → x = nI v → (badS S u v y → r = (-10002) ∧ T = S) ∧ (¬ badS S u v y → (w = 6 → r = (-10004) ∧ T = S) ∧ (w ≠ 6 → r = nI w ∧ T m_row = cpy 30 (S m_row) (30 * w) (sl (S m_row) (30 * v)) ∧ T m_keptRow = cpy 150 (S m_keptRow) (150 * w) (sl (S m_keptRow) (150 * v)) ∧ T m_keptOf = upd (S m_keptOf) w (S m_keptOf v) ∧ (∀ i, i < u → (hasB y i → T m_viewOf i = nI w) ∧ (¬ hasB y i → T m_viewOf i = S m_viewOf i)) ∧ (∀ i, u ≤ i → T m_viewOf i = S m_viewOf i) ∧ T oMod 1 = nI (w + 1) ∧ (∀ j, j ≠ 1 → T oMod j = S oMod j) ∧ ∀ o, o ≠ oMod → o ≠ m_row → o ≠ m_keptRow → o ≠ m_keptOf → o ≠ m_viewOf → T o = S o))
def s_attach (S : XM) (u w : Nat) (x y r : Int32) (T : XM) : Prop := (¬ (isU u x ∧ isU w y) → r = (-10001) ∧ T = S) ∧ ∀ i v, i < u → v < w → x = nI i → y = nI v → r = S m_viewOf i ∧ T = sw S m_viewOf i (nI v)
def s_roll (S : XM) (w : Nat) (x y r : Int32) (T : XM) : Prop :=
  (¬ isU w x → r = (-10001) ∧ T = S) ∧ ∀ v, v < w → x = nI v → (¬ (nI 1 ≤ y ∧ y ≤ nI 5) → r = (-10002) ∧ T = S) ∧ ∀ z k, 1 ≤ z → z ≤ 5 → y = nI z → k ≤ 5 → S m_keptOf v = nI k → (k < z → r = (-10005) ∧ T = S) ∧ (z ≤ k → r = nI (k - z) ∧ T m_keptOf = upd (S m_keptOf) v (nI (k - z)) ∧ T m_row = cpy 30 (S m_row) (30 * v) (sl (S m_keptRow) (150 * v + 30 * (k - z))) ∧ ∀ o, o ≠ m_keptOf → o ≠ m_row → T o = S o)
def mixC (S : XM) (v o i : Nat) : Prop := S m_row (30 * v + 5 * i + i) < S m_row (30 * o + 5 * i + i)
def s_mix (S : XM) (u w : Nat) (x y r : Int32) (T : XM) : Prop :=
  (¬ (isU w x ∧ isU w y) → r = (-10001) ∧ T = S) ∧ ∀ v o, v < w → o < w → x = nI v → y = nI o → (v = o → r = (-10002) ∧ T = S) ∧ (v ≠ o → r = nI (xcnt (mixC S v o) u) ∧
    (∀ i, i < u → (mixC S v o i → (∀ k, k < 5 → T m_row (30 * v + 5 * i + k) = S m_row (30 * o + 5 * i + k)) ∧ T m_row (30 * v + 25 + i) = S m_row (30 * o + 25 + i)) ∧ (¬ mixC S v o i → (∀ k, k < 5 → T m_row (30 * v + 5 * i + k) = S m_row (30 * v + 5 * i + k)) ∧ T m_row (30 * v + 25 + i) = S m_row (30 * v + 25 + i))) ∧
    (∀ i, u ≤ i → i < 5 → (∀ k, k < 5 → T m_row (30 * v + 5 * i + k) = S m_row (30 * v + 5 * i + k)) ∧ T m_row (30 * v + 25 + i) = S m_row (30 * v + 25 + i)) ∧ (∀ q, (q < 30 * v ∨ 30 * v + 30 ≤ q) → T m_row q = S m_row q) ∧
    (∀ i, i < u → (S m_viewOf i = nI o → T m_viewOf i = nI v) ∧ (S m_viewOf i ≠ nI o → T m_viewOf i = S m_viewOf i)) ∧ (∀ i, u ≤ i → T m_viewOf i = S m_viewOf i) ∧ T m_keptOf = upd (S m_keptOf) v (nI 0) ∧ ∀ q, q ≠ m_row → q ≠ m_viewOf → q ≠ m_keptOf → T q = S q)
def s_send (S : XM) (u : Nat) (x y r : Int32) (T : XM) : Prop :=
  (¬ (isU u x ∧ isU u y) → r = (-10001) ∧ T = S) ∧ ∀ i j, i < u → j < u → x = nI i → y = nI j → (i = j → r = (-10002) ∧ T = S) ∧ (i ≠ j → ∀ z, z ≤ 4 → S m_lettersOf j = nI z → (z = 4 → r = (-10004) ∧ T = S) ∧ (z ≠ 4 → r = nI (z + 1) ∧ T m_letter = cpy 5 (S m_letter) (20 * j + 5 * z) (rK S i) ∧ T m_lettersOf = upd (S m_lettersOf) j (nI (z + 1)) ∧ T m_sentBy = upd (S m_sentBy) i (S m_sentBy i + nI u) ∧ ∀ o, o ≠ m_letter → o ≠ m_lettersOf → o ≠ m_sentBy → T o = S o))
/-- the first letter is taken out, into the hand -/
def mTake (S : XM) (i z : Nat) (T : XM) : Prop := T m_hand = cpy 5 (S m_hand) 0 (sl (S m_letter) (20 * i)) ∧ T m_lettersOf = upd (S m_lettersOf) i (nI (z - 1)) ∧ T m_letter = cpy (5 * (z - 1)) (S m_letter) (20 * i) (sl (S m_letter) (20 * i + 5)) ∧ ∀ o, o ≠ m_hand → o ≠ m_lettersOf → o ≠ m_letter → T o = S o
def s_readL (S : XM) (u : Nat) (x r : Int32) (T : XM) : Prop :=
  (¬ isU u x → r = (-10001) ∧ T = S) ∧ ∀ i, i < u → x = nI i → ∀ z, z ≤ 4 → S m_lettersOf i = nI z → (z = 0 → r = (-10005) ∧ T = S) ∧ (z ≠ 0 → ∃ T1, mTake S i z T1 ∧
    (vle u (sl (S m_letter) (20 * i)) (rK S i) → r = nI 0 ∧ T = T1) ∧ (¬ vle u (sl (S m_letter) (20 * i)) (rK S i) →
      (vle u (rK S i) (sl (S m_letter) (20 * i)) → r = nI 1 ∧ T m_knownOf = cpy 5 (S m_knownOf) (5 * i) (sl (S m_letter) (20 * i)) ∧ ∀ o, o ≠ m_knownOf → T o = T1 o) ∧
      (¬ vle u (rK S i) (sl (S m_letter) (20 * i)) → r = nI 2 ∧ ∃ T2, (0 < S m_alarmOf i → T2 = sw T1 m_alarmOf i (S m_alarmOf i)) ∧ (¬ 0 < S m_alarmOf i → T2 = sw T1 m_alarmOf i (nI 4)) ∧ mKeep T2 i (nI 0) (rK S i) (sl (T1 m_hand) 0) T)))
def s_lose (S : XM) (u : Nat) (x r : Int32) (T : XM) : Prop :=
  (¬ isU u x → r = (-10001) ∧ T = S) ∧ ∀ i, i < u → x = nI i → ∀ z, z ≤ 4 → S m_lettersOf i = nI z → (z = 0 → r = (-10005) ∧ T = S) ∧ (z ≠ 0 → r = nI (z - 1) ∧ mTake S i z T)
def s_pass (S : XM) (u : Nat) (x y r : Int32) (T : XM) : Prop :=
  (¬ (isU u x ∧ isU u y) → r = (-10001) ∧ T = S) ∧ ∀ i j, i < u → j < u → x = nI i → y = nI j → (i = j → r = (-10002) ∧ T = S) ∧ (i ≠ j → (S m_hasProof i = 0 → r = (-10003) ∧ T = S) ∧ (S m_hasProof i ≠ 0 → ∃ T1, mKeep (sw S m_sentBy i (S m_sentBy i + nI (2 * u))) j (S m_depthOf i + nI 1) (sl (S m_proofOf) (10 * i)) (sl (S m_proofOf) (10 * i + 5)) T1 ∧ (0 < S m_alarmOf j → r = nI 0 ∧ T = T1) ∧ (¬ 0 < S m_alarmOf j → r = nI 1 ∧ T = sw T1 m_alarmOf j (nI 5))))
def s_count (S : XM) (u w : Nat) (x r : Int32) : Prop := (x = 0 → r = nI u) ∧ (x = 1 → r = nI w) ∧ (x = 2 → r = nI (xcnt (fun i => 0 < S m_alarmOf i) u)) ∧ (x = 3 → r = nI (xcnt (fun i => S m_hasProof i ≠ 0) u)) ∧ (x = 4 → r = S oMod 2) ∧ (x = 5 → r = xsum (S m_lettersOf) u) ∧ ((x.toInt < 0 ∨ 5 < x.toInt) → r = (-10002))
def s_user (S : XM) (u : Nat) (x y r : Int32) : Prop := (¬ isU u x → r = (-10001)) ∧ ∀ i, i < u → x = nI i → (y = 0 → r = S m_viewOf i) ∧ (y = 1 → r = S m_alarmOf i) ∧ (y = 2 → (S m_hasProof i = 0 → r = nI 0) ∧ (S m_hasProof i ≠ 0 → r = nI 1)) ∧ (y = 3 → r = S m_lettersOf i) ∧ (y = 4 → r = S m_doneOf i) ∧ (y = 5 → r = S m_shownTo i) ∧ (y = 6 → r = S m_sentBy i) ∧ (y = 7 → (S m_hasProof i = 0 → r = (-10005)) ∧ (S m_hasProof i ≠ 0 → r = S m_depthOf i)) ∧ ((y.toInt < 0 ∨ 7 < y.toInt) → r = (-10002))
def s_vector (S : XM) (u : Nat) (x y z r : Int32) : Prop := (¬ (isU u x ∧ isU u z) → r = (-10001)) ∧ ∀ i p, i < u → p < u → x = nI i → z = nI p → (¬ (nI 0 ≤ y ∧ y ≤ nI 3) → r = (-10002)) ∧ (y = nI 0 → r = S m_signedOf (5 * i + p)) ∧ (y = nI 1 → r = S m_knownOf (5 * i + p)) ∧ (y = nI 2 → (S m_hasProof i = 0 → r = (-10005)) ∧ (S m_hasProof i ≠ 0 → r = S m_proofOf (10 * i + p))) ∧ (y = nI 3 → (S m_hasProof i = 0 → r = (-10005)) ∧ (S m_hasProof i ≠ 0 → r = S m_proofOf (10 * i + 5 + p)))
def s_entry (S : XM) (u w : Nat) (x y z r : Int32) : Prop := (¬ (isU w x ∧ isU u y ∧ isU u z) → r = (-10001)) ∧ ∀ v i p, v < w → i < u → p < u → x = nI v → y = nI i → z = nI p → r = S m_row (30 * v + 5 * i + p)
def s_content (S : XM) (u w : Nat) (x y r : Int32) : Prop := (¬ (isU w x ∧ isU u y) → r = (-10001)) ∧ ∀ v i, v < w → i < u → x = nI v → y = nI i → r = S m_row (30 * v + 25 + i)
def s_view (S : XM) (u w : Nat) (x y r : Int32) (T : XM) : Prop := Sp S T ∧ (¬ isU w x → r = (-10001)) ∧ ∀ v, v < w → x = nI v → (y = 0 → r = attM S (nI v) u) ∧ (y = 1 → r = S m_keptOf v) ∧ (y = 2 → (fkd u u (rV S v) → r = nI 0) ∧ (¬ fkd u u (rV S v) → r = nI 1)) ∧ (y = 3 → (fkd u u (rV S v) → r = (-10005)) ∧ (¬ fkd u u (rV S v) → r = xsum (rV S v (bst S u v)) u)) ∧ ((y.toInt < 0 ∨ 3 < y.toInt) → r = (-10002))
def s_compare (S : XM) (u : Nat) (x y k r : Int32) : Prop := (¬ (isU u x ∧ isU u y) → r = (-10001)) ∧ ∀ i j, i < u → j < u → x = nI i → y = nI j → (k = 0 → r = rel u (rG S i) (rG S j)) ∧ (k ≠ 0 → r = rel u (rK S i) (rK S j))
/-- the pairs below n of which P holds, each counted with its higher one -/
noncomputable def pcnt (P : Nat → Nat → Prop) : Nat → Nat
  | 0 => 0
  | n + 1 => pcnt P n + xcnt (fun j => P n j) n
def s_pairs (S : XM) (u : Nat) (r : Int32) : Prop := r = nI (pcnt (fun i j => rel u (rK S i) (rK S j) = 2) u)
/-- the first two of which Q holds, row by row -/
def fst2 (u : Nat) (Q : Nat → Nat → Prop) (i j : Nat) : Prop := i < u ∧ j < u ∧ Q i j ∧ ∀ a c, a < u → c < u → Q a c → i < a ∨ (i = a ∧ j ≤ c)
def tlQ (S : XM) (u i j : Nat) : Prop := S m_alarmOf j = 0 ∧ rel u (rK S i) (rK S j) = 2
def s_tell (S : XM) (u : Nat) (r : Int32) : Prop := (∀ i j, fst2 u (tlQ S u) i j → r = nI (10 * i + j)) ∧ ((∀ i j, i < u → j < u → ¬ tlQ S u i j) → r = (-10005))
def unQ (S : XM) (u i : Nat) : Prop := S m_alarmOf i = 0 ∧ (∀ v, v < 6 → S m_viewOf i = nI v → al S u v i = 0) ∧ ∀ j, j < u → rel u (rK S i) (rK S j) ≠ 2
def s_unaware (S : XM) (u : Nat) (r : Int32) (T : XM) : Prop := Sp S T ∧ r = bitM (unQ S u) u
def s_type (S : XM) (x r : Int32) (T : XM) : Prop := ∀ t, t ≤ 60 → S oMod 23 = nI t → (t = 60 → r = (-10004) ∧ T = S) ∧ (t ≠ 60 → r = nI (t + 1) ∧ T = sw (sw S m_text t x) oMod 23 (nI (t + 1)))
def s_clear (S : XM) (r : Int32) (T : XM) : Prop := r = S oMod 23 ∧ T = sw S oMod 23 (nI 0)
/-- a new beginning with u users; the text stays -/
def mBegin (S : XM) (u : Nat) (T : XM) : Prop := T oMod 0 = nI u ∧ T oMod 1 = nI 1 ∧ T oMod 2 = nI 0 ∧ (∀ j, j ≠ 0 → j ≠ 1 → j ≠ 2 → T oMod j = S oMod j) ∧ (∀ q, q < 180 → T m_row q = nI 0) ∧ (∀ q, q < 6 → T m_keptOf q = nI 0) ∧ (∀ q, q < 25 → T m_signedOf q = nI 0 ∧ T m_knownOf q = nI 0) ∧
  (∀ q, q < 5 → T m_viewOf q = nI 0 ∧ T m_alarmOf q = nI 0 ∧ T m_hasProof q = nI 0 ∧ T m_depthOf q = nI 0 ∧ T m_doneOf q = nI 0 ∧ T m_shownTo q = nI 0 ∧ T m_sentBy q = nI 0 ∧ T m_hasRead q = nI 0 ∧ T m_readOf q = nI 0 ∧ T m_lettersOf q = nI 0) ∧ T m_text = S m_text
def s_reset (S : XM) (u : Nat) (x r : Int32) (T : XM) : Prop := (¬ (nI 2 ≤ x ∧ x ≤ nI 5) → r = (-10002) ∧ T = S) ∧ ∀ z, 2 ≤ z → z ≤ 5 → x = nI z → r = nI u ∧ mBegin S z T
/-! scripts -/
/-- g: up to y letters are read, one after the other; whether all were -/
def s_reads (u : Nat) (x : Int32) : Nat → XM → Bool → XM → Prop
  | 0, S, ok, T => ok = true ∧ T = S
  | n + 1, S, ok, T => ∃ r T1, s_readL S u x r T1 ∧ ((r < 0 ∧ ok = false ∧ T = T1) ∨ (¬ r < 0 ∧ s_reads u x n T1 ok T))
/-- one command: whether it is carried out -/
def s_cmd (S : XM) (u w : Nat) (c x y : Int32) (ok : Bool) (T : XM) : Prop :=
  (c = nI 119 → ∃ r, s_write S u x y r T ∧ (ok = true ↔ ¬ r < 0)) ∧ (c = nI 114 → ∃ r, s_read S u x y r T ∧ (ok = true ↔ ¬ r < 0)) ∧ (c = nI 115 → ∃ r, s_send S u x y r T ∧ (ok = true ↔ ¬ r < 0)) ∧ (c = nI 109 → ∃ r, s_attach S u w x y r T ∧ (ok = true ↔ ¬ r < 0)) ∧
  (c = nI 103 → ∀ z, z ≤ 9 → y = nI z → (¬ isU u x → ok = false ∧ T = S) ∧ (isU u x → s_reads u x z S ok T))
/-- the commands from the n-th of k on -/
def s_cmds (u w : Nat) (f : Nat → Int32) : Nat → Nat → XM → Nat → XM → Prop
  | 0, n, S, r, T => r = n ∧ T = S
  | k + 1, n, S, r, T => ∃ ok T1, s_cmd S u w (f (3 * n)) (f (3 * n + 1) - nI 48) (f (3 * n + 2) - nI 48) ok T1 ∧ ((ok = false ∧ r = n ∧ T = T1) ∨ (ok = true ∧ s_cmds u w f k (n + 1) T1 r T))
def s_run (S : XM) (u w : Nat) (r : Int32) (T : XM) : Prop := ∀ t, t ≤ 60 → S oMod 23 = nI t →
  (¬ (fb (okc (S m_text)) t = t ∧ t % 3 = 0) → r = (-100) - nI (fb (okc (S m_text)) t) ∧ T = S) ∧ ((fb (okc (S m_text)) t = t ∧ t % 3 = 0) → ∃ n, r = nI n ∧ s_cmds u w (S m_text) (t / 3) 0 S n T)
