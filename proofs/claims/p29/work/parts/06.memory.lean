/-! ===== where things lie, counted from b ===== -/
abbrev XM : Type := Nat → Nat → Int32
def kMem (r : Nat) : Nat := [2, 5, 1005, 5, 1005, 3, 5, 1005, 5, 1005, 0, 27, 5, 1005, 5, 1005, 5, 1005, 5, 1005].getD r 9
def kEnt (r : Nat) : Nat := [1, 26, 1005, 5, 1005, 5, 1005, 5, 1005, 5, 1005, 5, 1005].getD r 9
def kVw (r : Nat) : Nat := if r = 0 then 6 else if r < 14 then kEnt (r - 1) else if r = 14 then 25 else kEnt ((r - 15) % 13)
/-- what kind of thing lies at an offset: 0 to 8 an object of that class, 23 to 27 an array of references, 1000 + n, 2000 + n, 3000 + n an array of n ints, booleans, chars -/
def kd (o : Nat) : Nat := if o < 5 then [7, 23, 24, 4, 1060].getD o 9 else if o < 105 then kMem ((o - 5) % 20) else if o < 585 then kVw ((o - 105) % 80) else 9
def oMs : Nat := 1
def oVws : Nat := 2
def oScr : Nat := 3
def oSgn : Nat := 4
def oMod : Nat := 585
def oMem (i : Nat) : Nat := 5 + 20 * i
def oSig (o : Nat) : Nat := o + 1
def oKno (o : Nat) : Nat := o + 3
def oPro (o : Nat) : Nat := o + 5
def oBox (o : Nat) : Nat := o + 10
def oFst (o : Nat) : Nat := o + 1
def oSnd (o : Nat) : Nat := o + 3
def oLts (o : Nat) : Nat := o + 1
def oLet (x j : Nat) : Nat := x + 1 + 2 * j
def oNum (o : Nat) : Nat := o + 1
def oVw (v : Nat) : Nat := 105 + 80 * v
def oEnt (o : Nat) : Nat := o + 1
def oBef (o : Nat) : Nat := o + 14
def oBk (x j : Nat) : Nat := x + 1 + 13 * j
def oVs (o : Nat) : Nat := o + 1
def oCon (o : Nat) : Nat := o + 2
def oVec (x j : Nat) : Nat := x + 2 + 2 * j
def m_row : Nat := 586
def m_keptOf : Nat := 587
def m_keptRow : Nat := 588
def m_viewOf : Nat := 589
def m_alarmOf : Nat := 590
def m_hasProof : Nat := 591
def m_depthOf : Nat := 592
def m_proofOf : Nat := 593
def m_signedOf : Nat := 594
def m_knownOf : Nat := 595
def m_doneOf : Nat := 596
def m_shownTo : Nat := 597
def m_sentBy : Nat := 598
def m_hasRead : Nat := 599
def m_readOf : Nat := 600
def m_lettersOf : Nat := 601
def m_letter : Nat := 602
def m_hand : Nat := 603
def m_text : Nat := 604
theorem kd_l5 {o : Nat} (h : kd o ≠ 9) : o < 585 := by
  rcases Nat.lt_or_ge o 585 with q | q
  · exact q
  · exact absurd (by simp only [kd]; rw [if_neg (by omega), if_neg (by omega), if_neg (by omega)]) h
theorem kd_lt {o : Nat} (h : kd o ≠ 9) : o < 605 := Nat.lt_trans (kd_l5 h) (by decide)
theorem kd_no {o : Nat} (h : kd o ≠ 9) : ¬ 585 ≤ o := Nat.not_le.mpr (kd_l5 h)
theorem kd_oSig {o : Nat} (h : kd o = 2) : kd (oSig o) = 5 := (show ∀ o, o < 605 → kd o = 2 → kd (oSig o) = 5 by decide +kernel) o (kd_lt (by rw [h]; decide)) h
theorem kd_oKno {o : Nat} (h : kd o = 2) : kd (oKno o) = 5 := (show ∀ o, o < 605 → kd o = 2 → kd (oKno o) = 5 by decide +kernel) o (kd_lt (by rw [h]; decide)) h
theorem kd_oPro {o : Nat} (h : kd o = 2) : kd (oPro o) = 3 := (show ∀ o, o < 605 → kd o = 2 → kd (oPro o) = 3 by decide +kernel) o (kd_lt (by rw [h]; decide)) h
theorem kd_oBox {o : Nat} (h : kd o = 2) : kd (oBox o) = 0 := (show ∀ o, o < 605 → kd o = 2 → kd (oBox o) = 0 by decide +kernel) o (kd_lt (by rw [h]; decide)) h
theorem kd_oFst {o : Nat} (h : kd o = 3) : kd (oFst o) = 5 := (show ∀ o, o < 605 → kd o = 3 → kd (oFst o) = 5 by decide +kernel) o (kd_lt (by rw [h]; decide)) h
theorem kd_oSnd {o : Nat} (h : kd o = 3) : kd (oSnd o) = 5 := (show ∀ o, o < 605 → kd o = 3 → kd (oSnd o) = 5 by decide +kernel) o (kd_lt (by rw [h]; decide)) h
theorem kd_oLts {o : Nat} (h : kd o = 0) : kd (oLts o) = 27 := (show ∀ o, o < 605 → kd o = 0 → kd (oLts o) = 27 by decide +kernel) o (kd_lt (by rw [h]; decide)) h
theorem kd_oNum {o : Nat} (h : kd o = 5) : kd (oNum o) = 1005 := (show ∀ o, o < 605 → kd o = 5 → kd (oNum o) = 1005 by decide +kernel) o (kd_lt (by rw [h]; decide)) h
theorem kd_oEnt {o : Nat} (h : kd o = 6) : kd (oEnt o) = 1 := (show ∀ o, o < 605 → kd o = 6 → kd (oEnt o) = 1 by decide +kernel) o (kd_lt (by rw [h]; decide)) h
theorem kd_oBef {o : Nat} (h : kd o = 6) : kd (oBef o) = 25 := (show ∀ o, o < 605 → kd o = 6 → kd (oBef o) = 25 by decide +kernel) o (kd_lt (by rw [h]; decide)) h
theorem kd_oVs {o : Nat} (h : kd o = 1) : kd (oVs o) = 26 := (show ∀ o, o < 605 → kd o = 1 → kd (oVs o) = 26 by decide +kernel) o (kd_lt (by rw [h]; decide)) h
theorem kd_oCon {o : Nat} (h : kd o = 1) : kd (oCon o) = 1005 := (show ∀ o, o < 605 → kd o = 1 → kd (oCon o) = 1005 by decide +kernel) o (kd_lt (by rw [h]; decide)) h
theorem kd_oLet {o j : Nat} (h : kd o = 27) (hj : j < 4) : kd (oLet o j) = 5 := (show ∀ o, o < 605 → kd o = 27 → ∀ j, j < 4 → kd (oLet o j) = 5 by decide +kernel) o (kd_lt (by rw [h]; decide)) h j hj
theorem kd_oBk {o j : Nat} (h : kd o = 25) (hj : j < 5) : kd (oBk o j) = 1 := (show ∀ o, o < 605 → kd o = 25 → ∀ j, j < 5 → kd (oBk o j) = 1 by decide +kernel) o (kd_lt (by rw [h]; decide)) h j hj
theorem kd_oVec {o j : Nat} (h : kd o = 26) (hj : j < 5) : kd (oVec o j) = 5 := (show ∀ o, o < 605 → kd o = 26 → ∀ j, j < 5 → kd (oVec o j) = 5 by decide +kernel) o (kd_lt (by rw [h]; decide)) h j hj
theorem kd_oMem {i : Nat} (h : i < 5) : kd (oMem i) = 2 := (show ∀ i, i < 5 → kd (oMem i) = 2 by decide +kernel) i h
theorem kd_oVw {i : Nat} (h : i < 6) : kd (oVw i) = 6 := (show ∀ i, i < 6 → kd (oVw i) = 6 by decide +kernel) i h
theorem kd_0 : kd 0 = 7 := by decide +kernel
theorem kd_oMs : kd oMs = 23 := by decide +kernel
theorem kd_oVws : kd oVws = 24 := by decide +kernel
theorem kd_oScr : kd oScr = 4 := by decide +kernel
theorem kd_oSgn : kd oSgn = 1060 := by decide +kernel
def xF0 (b o : Nat) (f : Nat → Int32) : List Value := [.ref (b + (oLts o)), .int (f 1)]
def xF1 (b o : Nat) (f : Nat → Int32) : List Value := [.ref (b + (oVs o)), .ref (b + (oCon o))]
def xF2 (b o : Nat) (f : Nat → Int32) : List Value := [.ref (b + (oSig o)), .ref (b + (oKno o)), .ref (b + (oPro o)), .ref (b + (oBox o)), .int (f 4), .int (f 5), .int (f 6), .int (f 7), .int (f 8), .int (f 9), .int (f 10)]
def xF3 (b o : Nat) (f : Nat → Int32) : List Value := [.ref (b + (oFst o)), .ref (b + (oSnd o)), .int (f 2), .int (f 3)]
def xF4 (b o : Nat) (f : Nat → Int32) : List Value := [.ref (b + oSgn), .int (f 1)]
def xF5 (b o : Nat) (f : Nat → Int32) : List Value := [.ref (b + (oNum o))]
def xF6 (b o : Nat) (f : Nat → Int32) : List Value := [.ref (b + (oEnt o)), .ref (b + (oBef o)), .int (f 2), .int (f 3)]
def xF7 (b o : Nat) (f : Nat → Int32) : List Value := [.ref (b + oMs), .ref (b + oVws), .ref (b + oScr), .int (f 3), .int (f 4)]
def xRf (cA : ClassId) (N : Nat) (f : Nat → Nat) : va_E := .inl (cA, N, .inr (.inr (.inr (.inr (fun j => if j < N then some (f j) else none)))))
/-- what lies behind the class's cells: arrays of the law, of 8 or 36 ints; the length stands at place 4096 -/
def xlaw (D : XD) (f : Nat → Int32) : Option va_E := if f 4096 = nI 8 then some (.inl (D.2 0, 8, .inl f)) else if f 4096 = nI 36 then some (.inl (D.2 0, 36, .inl f)) else none
def xsh (D : XD) (b o : Nat) (f : Nat → Int32) : Option va_E :=
  if 585 ≤ o then xlaw D f
  else if kd o = 9 then none
  else if kd o = 0 then some (.inr (0, xF0 b o f))
  else if kd o = 1 then some (.inr (1, xF1 b o f))
  else if kd o = 2 then some (.inr (2, xF2 b o f))
  else if kd o = 3 then some (.inr (3, xF3 b o f))
  else if kd o = 4 then some (.inr (4, xF4 b o f))
  else if kd o = 5 then some (.inr (5, xF5 b o f))
  else if kd o = 6 then some (.inr (6, xF6 b o f))
  else if kd o = 7 then some (.inr (7, xF7 b o f))
  else if kd o = 23 then some (xRf (D.2 3) 5 (fun j => b + oMem j))
  else if kd o = 24 then some (xRf (D.2 4) 6 (fun j => b + oVw j))
  else if kd o = 25 then some (xRf (D.2 5) 5 (fun j => b + oBk o j))
  else if kd o = 26 then some (xRf (D.2 6) 5 (fun j => b + oVec o j))
  else if kd o = 27 then some (xRf (D.2 6) 4 (fun j => b + oLet o j))
  else if kd o < 2000 then some (.inl (D.2 0, kd o - 1000, .inl f))
  else if kd o < 3000 then some (.inl (D.2 1, kd o - 2000, .inl f))
  else some (.inl (D.2 2, kd o - 3000, .inl f))
/-- the heap that an int memory says -/
def xH (D : XD) (b : Nat) (σ : XM) : XH := fun q => if b ≤ q then xsh D b (q - b) (σ (q - b)) else none
def su (σ : XM) (o : Nat) (g : Nat → Int32) : XM := fun k => if k = o then g else σ k
def sw (σ : XM) (o k : Nat) (x : Int32) : XM := su σ o (upd (σ o) k x)
theorem su_s {σ : XM} {o : Nat} {g : Nat → Int32} : su σ o g o = g := if_pos rfl
theorem su_n {σ : XM} {o q : Nat} {g : Nat → Int32} (h : q ≠ o) : su σ o g q = σ q := if_neg h
theorem sw_s {σ : XM} {o k : Nat} {x : Int32} : sw σ o k x o k = x := by simp [sw, su, upd]
theorem sw_k {σ : XM} {o k j : Nat} {x : Int32} (h : j ≠ k) : sw σ o k x o j = σ o j := by simp [sw, su, upd, h]
theorem sw_n {σ : XM} {o q k : Nat} {x : Int32} (h : q ≠ o) : sw σ o k x q = σ q := su_n h
theorem xH_at {D : XD} {b o : Nat} {σ : XM} : xH D b σ (b + o) = xsh D b o (σ o) := by simp [xH]
theorem xH_up {D : XD} {b o : Nat} {σ : XM} {g : Nat → Int32} {e : va_E} (h : xsh D b o g = some e) : xup (xH D b σ) (b + o) e = xH D b (su σ o g) := by
  funext q
  by_cases hq : q = b + o
  · subst hq
    rw [xup_s, xH_at, su_s, h]
  · rw [xup_n hq]
    unfold xH
    by_cases hb : b ≤ q
    · rw [if_pos hb, if_pos hb, su_n (by omega)]
    · rw [if_neg hb, if_neg hb]
theorem xsh_0 {D : XD} {b o : Nat} {f : Nat → Int32} (h : kd o = 0) : xsh D b o f = some (.inr (0, xF0 b o f)) := by simp [xsh, h, kd_no (show kd o ≠ 9 by rw [h]; decide)]
theorem xsh_1 {D : XD} {b o : Nat} {f : Nat → Int32} (h : kd o = 1) : xsh D b o f = some (.inr (1, xF1 b o f)) := by simp [xsh, h, kd_no (show kd o ≠ 9 by rw [h]; decide)]
theorem xsh_2 {D : XD} {b o : Nat} {f : Nat → Int32} (h : kd o = 2) : xsh D b o f = some (.inr (2, xF2 b o f)) := by simp [xsh, h, kd_no (show kd o ≠ 9 by rw [h]; decide)]
theorem xsh_3 {D : XD} {b o : Nat} {f : Nat → Int32} (h : kd o = 3) : xsh D b o f = some (.inr (3, xF3 b o f)) := by simp [xsh, h, kd_no (show kd o ≠ 9 by rw [h]; decide)]
theorem xsh_4 {D : XD} {b o : Nat} {f : Nat → Int32} (h : kd o = 4) : xsh D b o f = some (.inr (4, xF4 b o f)) := by simp [xsh, h, kd_no (show kd o ≠ 9 by rw [h]; decide)]
theorem xsh_5 {D : XD} {b o : Nat} {f : Nat → Int32} (h : kd o = 5) : xsh D b o f = some (.inr (5, xF5 b o f)) := by simp [xsh, h, kd_no (show kd o ≠ 9 by rw [h]; decide)]
theorem xsh_6 {D : XD} {b o : Nat} {f : Nat → Int32} (h : kd o = 6) : xsh D b o f = some (.inr (6, xF6 b o f)) := by simp [xsh, h, kd_no (show kd o ≠ 9 by rw [h]; decide)]
theorem xsh_7 {D : XD} {b o : Nat} {f : Nat → Int32} (h : kd o = 7) : xsh D b o f = some (.inr (7, xF7 b o f)) := by simp [xsh, h, kd_no (show kd o ≠ 9 by rw [h]; decide)]
theorem xsh_23 {D : XD} {b o : Nat} {f : Nat → Int32} (h : kd o = 23) : xsh D b o f = some (xRf (D.2 3) 5 (fun j => b + oMem j)) := by simp [xsh, h, kd_no (show kd o ≠ 9 by rw [h]; decide)]
theorem xsh_24 {D : XD} {b o : Nat} {f : Nat → Int32} (h : kd o = 24) : xsh D b o f = some (xRf (D.2 4) 6 (fun j => b + oVw j)) := by simp [xsh, h, kd_no (show kd o ≠ 9 by rw [h]; decide)]
theorem xsh_25 {D : XD} {b o : Nat} {f : Nat → Int32} (h : kd o = 25) : xsh D b o f = some (xRf (D.2 5) 5 (fun j => b + oBk o j)) := by simp [xsh, h, kd_no (show kd o ≠ 9 by rw [h]; decide)]
theorem xsh_26 {D : XD} {b o : Nat} {f : Nat → Int32} (h : kd o = 26) : xsh D b o f = some (xRf (D.2 6) 5 (fun j => b + oVec o j)) := by simp [xsh, h, kd_no (show kd o ≠ 9 by rw [h]; decide)]
theorem xsh_27 {D : XD} {b o : Nat} {f : Nat → Int32} (h : kd o = 27) : xsh D b o f = some (xRf (D.2 6) 4 (fun j => b + oLet o j)) := by simp [xsh, h, kd_no (show kd o ≠ 9 by rw [h]; decide)]
theorem xsh_a0 {D : XD} {b o N : Nat} {f : Nat → Int32} (hN : N < 1000) (h : kd o = 1000 + N) : xsh D b o f = some (.inl (D.2 0, N, .inl f)) := by
  unfold xsh
  rw [if_neg (kd_no (show kd o ≠ 9 by omega))]
  rw [if_neg (by omega)]
  rw [if_neg (by omega)]
  rw [if_neg (by omega)]
  rw [if_neg (by omega)]
  rw [if_neg (by omega)]
  rw [if_neg (by omega)]
  rw [if_neg (by omega)]
  rw [if_neg (by omega)]
  rw [if_neg (by omega)]
  rw [if_neg (by omega)]
  rw [if_neg (by omega)]
  rw [if_neg (by omega)]
  rw [if_neg (by omega)]
  rw [if_neg (by omega)]
  rw [if_pos (by omega), show kd o - 1000 = N by omega]
section XR
variable {p : Program} {l : Launch} {e : Env} {R : Room} {s : State} {m : MethodId} {args : Array Value} {below : List Frame} {meth : Method} {c : Code} {D : XD} {b nL cells slots : Nat} {Q : State → Prop} {n : Nat} {σ : XM} {pc : Nat} {lv : List (Option Value)} {rest : List Value} {cc : ByteArray} {own : String}
theorem xg0_letters {o index : Nat} (hC : xC p s m args meth c D cc nL own) (hdg : decode cc pc = .ok (.getfield index, 3)) {pc' : Nat} (hp : pc + 3 = pc') (hlink : Cond.fieldLink own index (TX0 0).1 (TX0 0).2.1 (TX0 0).2.2.1 ∈ xtbl) (hk : kd o = 0) (k : xV p l e R s m args below meth c D b nL cells slots Q n (xH D b σ) pc' lv (.ref (b + (oLts o)) :: rest)) : xV p l e R s m args below meth c D b nL cells slots Q n (xH D b σ) pc lv (.ref (b + o) :: rest) :=
  xi_getfield hC hdg hp hlink xw_lay_X0 rfl (by decide) (xH_at.trans (xsh_0 hk)) rfl k
theorem xg0_size {o index : Nat} (hC : xC p s m args meth c D cc nL own) (hdg : decode cc pc = .ok (.getfield index, 3)) {pc' : Nat} (hp : pc + 3 = pc') (hlink : Cond.fieldLink own index (TX0 1).1 (TX0 1).2.1 (TX0 1).2.2.1 ∈ xtbl) (hk : kd o = 0) (k : xV p l e R s m args below meth c D b nL cells slots Q n (xH D b σ) pc' lv (.int (σ o 1) :: rest)) : xV p l e R s m args below meth c D b nL cells slots Q n (xH D b σ) pc lv (.ref (b + o) :: rest) :=
  xi_getfield hC hdg hp hlink xw_lay_X0 rfl (by decide) (xH_at.trans (xsh_0 hk)) rfl k
theorem xp0_size {o index : Nat} {x : Int32} (hC : xC p s m args meth c D cc nL own) (hdg : decode cc pc = .ok (.putfield index, 3)) {pc' : Nat} (hp : pc + 3 = pc') (hlink : Cond.fieldLink own index (TX0 1).1 (TX0 1).2.1 (TX0 1).2.2.1 ∈ xtbl) (hk : kd o = 0) (k : xV p l e R s m args below meth c D b nL cells slots Q n (xH D b (sw σ o 1 x)) pc' lv rest) : xV p l e R s m args below meth c D b nL cells slots Q n (xH D b σ) pc lv (.int x :: .ref (b + o) :: rest) := by
  refine xi_putfield (ty := .int) tyX0 hC hdg hp hlink xw_lay_X0 tyX0_ok nmX0 rfl (by decide) (xH_at.trans (xsh_0 hk)) rfl (by decide +kernel) rfl rfl (Nat.le_of_ble_eq_true rfl) ?_
  rw [xH_up (g := upd (σ o) 1 x) (by rw [xsh_0 hk]; rfl)]
  exact k
theorem xg1_vectors {o index : Nat} (hC : xC p s m args meth c D cc nL own) (hdg : decode cc pc = .ok (.getfield index, 3)) {pc' : Nat} (hp : pc + 3 = pc') (hlink : Cond.fieldLink own index (TX1 0).1 (TX1 0).2.1 (TX1 0).2.2.1 ∈ xtbl) (hk : kd o = 1) (k : xV p l e R s m args below meth c D b nL cells slots Q n (xH D b σ) pc' lv (.ref (b + (oVs o)) :: rest)) : xV p l e R s m args below meth c D b nL cells slots Q n (xH D b σ) pc lv (.ref (b + o) :: rest) :=
  xi_getfield hC hdg hp hlink xw_lay_X1 rfl (by decide) (xH_at.trans (xsh_1 hk)) rfl k
theorem xg1_contents {o index : Nat} (hC : xC p s m args meth c D cc nL own) (hdg : decode cc pc = .ok (.getfield index, 3)) {pc' : Nat} (hp : pc + 3 = pc') (hlink : Cond.fieldLink own index (TX1 1).1 (TX1 1).2.1 (TX1 1).2.2.1 ∈ xtbl) (hk : kd o = 1) (k : xV p l e R s m args below meth c D b nL cells slots Q n (xH D b σ) pc' lv (.ref (b + (oCon o)) :: rest)) : xV p l e R s m args below meth c D b nL cells slots Q n (xH D b σ) pc lv (.ref (b + o) :: rest) :=
  xi_getfield hC hdg hp hlink xw_lay_X1 rfl (by decide) (xH_at.trans (xsh_1 hk)) rfl k
theorem xg2_signed {o index : Nat} (hC : xC p s m args meth c D cc nL own) (hdg : decode cc pc = .ok (.getfield index, 3)) {pc' : Nat} (hp : pc + 3 = pc') (hlink : Cond.fieldLink own index (TX2 0).1 (TX2 0).2.1 (TX2 0).2.2.1 ∈ xtbl) (hk : kd o = 2) (k : xV p l e R s m args below meth c D b nL cells slots Q n (xH D b σ) pc' lv (.ref (b + (oSig o)) :: rest)) : xV p l e R s m args below meth c D b nL cells slots Q n (xH D b σ) pc lv (.ref (b + o) :: rest) :=
  xi_getfield hC hdg hp hlink xw_lay_X2 rfl (by decide) (xH_at.trans (xsh_2 hk)) rfl k
theorem xg2_known {o index : Nat} (hC : xC p s m args meth c D cc nL own) (hdg : decode cc pc = .ok (.getfield index, 3)) {pc' : Nat} (hp : pc + 3 = pc') (hlink : Cond.fieldLink own index (TX2 1).1 (TX2 1).2.1 (TX2 1).2.2.1 ∈ xtbl) (hk : kd o = 2) (k : xV p l e R s m args below meth c D b nL cells slots Q n (xH D b σ) pc' lv (.ref (b + (oKno o)) :: rest)) : xV p l e R s m args below meth c D b nL cells slots Q n (xH D b σ) pc lv (.ref (b + o) :: rest) :=
  xi_getfield hC hdg hp hlink xw_lay_X2 rfl (by decide) (xH_at.trans (xsh_2 hk)) rfl k
theorem xg2_proof {o index : Nat} (hC : xC p s m args meth c D cc nL own) (hdg : decode cc pc = .ok (.getfield index, 3)) {pc' : Nat} (hp : pc + 3 = pc') (hlink : Cond.fieldLink own index (TX2 2).1 (TX2 2).2.1 (TX2 2).2.2.1 ∈ xtbl) (hk : kd o = 2) (k : xV p l e R s m args below meth c D b nL cells slots Q n (xH D b σ) pc' lv (.ref (b + (oPro o)) :: rest)) : xV p l e R s m args below meth c D b nL cells slots Q n (xH D b σ) pc lv (.ref (b + o) :: rest) :=
  xi_getfield hC hdg hp hlink xw_lay_X2 rfl (by decide) (xH_at.trans (xsh_2 hk)) rfl k
theorem xg2_box {o index : Nat} (hC : xC p s m args meth c D cc nL own) (hdg : decode cc pc = .ok (.getfield index, 3)) {pc' : Nat} (hp : pc + 3 = pc') (hlink : Cond.fieldLink own index (TX2 3).1 (TX2 3).2.1 (TX2 3).2.2.1 ∈ xtbl) (hk : kd o = 2) (k : xV p l e R s m args below meth c D b nL cells slots Q n (xH D b σ) pc' lv (.ref (b + (oBox o)) :: rest)) : xV p l e R s m args below meth c D b nL cells slots Q n (xH D b σ) pc lv (.ref (b + o) :: rest) :=
  xi_getfield hC hdg hp hlink xw_lay_X2 rfl (by decide) (xH_at.trans (xsh_2 hk)) rfl k
theorem xg2_view {o index : Nat} (hC : xC p s m args meth c D cc nL own) (hdg : decode cc pc = .ok (.getfield index, 3)) {pc' : Nat} (hp : pc + 3 = pc') (hlink : Cond.fieldLink own index (TX2 4).1 (TX2 4).2.1 (TX2 4).2.2.1 ∈ xtbl) (hk : kd o = 2) (k : xV p l e R s m args below meth c D b nL cells slots Q n (xH D b σ) pc' lv (.int (σ o 4) :: rest)) : xV p l e R s m args below meth c D b nL cells slots Q n (xH D b σ) pc lv (.ref (b + o) :: rest) :=
  xi_getfield hC hdg hp hlink xw_lay_X2 rfl (by decide) (xH_at.trans (xsh_2 hk)) rfl k
theorem xp2_view {o index : Nat} {x : Int32} (hC : xC p s m args meth c D cc nL own) (hdg : decode cc pc = .ok (.putfield index, 3)) {pc' : Nat} (hp : pc + 3 = pc') (hlink : Cond.fieldLink own index (TX2 4).1 (TX2 4).2.1 (TX2 4).2.2.1 ∈ xtbl) (hk : kd o = 2) (k : xV p l e R s m args below meth c D b nL cells slots Q n (xH D b (sw σ o 4 x)) pc' lv rest) : xV p l e R s m args below meth c D b nL cells slots Q n (xH D b σ) pc lv (.int x :: .ref (b + o) :: rest) := by
  refine xi_putfield (ty := .int) tyX2 hC hdg hp hlink xw_lay_X2 tyX2_ok nmX2 rfl (by decide) (xH_at.trans (xsh_2 hk)) rfl (by decide +kernel) rfl rfl (Nat.le_of_ble_eq_true rfl) ?_
  rw [xH_up (g := upd (σ o) 4 x) (by rw [xsh_2 hk]; rfl)]
  exact k
theorem xg2_alarm {o index : Nat} (hC : xC p s m args meth c D cc nL own) (hdg : decode cc pc = .ok (.getfield index, 3)) {pc' : Nat} (hp : pc + 3 = pc') (hlink : Cond.fieldLink own index (TX2 5).1 (TX2 5).2.1 (TX2 5).2.2.1 ∈ xtbl) (hk : kd o = 2) (k : xV p l e R s m args below meth c D b nL cells slots Q n (xH D b σ) pc' lv (.int (σ o 5) :: rest)) : xV p l e R s m args below meth c D b nL cells slots Q n (xH D b σ) pc lv (.ref (b + o) :: rest) :=
  xi_getfield hC hdg hp hlink xw_lay_X2 rfl (by decide) (xH_at.trans (xsh_2 hk)) rfl k
theorem xp2_alarm {o index : Nat} {x : Int32} (hC : xC p s m args meth c D cc nL own) (hdg : decode cc pc = .ok (.putfield index, 3)) {pc' : Nat} (hp : pc + 3 = pc') (hlink : Cond.fieldLink own index (TX2 5).1 (TX2 5).2.1 (TX2 5).2.2.1 ∈ xtbl) (hk : kd o = 2) (k : xV p l e R s m args below meth c D b nL cells slots Q n (xH D b (sw σ o 5 x)) pc' lv rest) : xV p l e R s m args below meth c D b nL cells slots Q n (xH D b σ) pc lv (.int x :: .ref (b + o) :: rest) := by
  refine xi_putfield (ty := .int) tyX2 hC hdg hp hlink xw_lay_X2 tyX2_ok nmX2 rfl (by decide) (xH_at.trans (xsh_2 hk)) rfl (by decide +kernel) rfl rfl (Nat.le_of_ble_eq_true rfl) ?_
  rw [xH_up (g := upd (σ o) 5 x) (by rw [xsh_2 hk]; rfl)]
  exact k
theorem xg2_hasHeard {o index : Nat} (hC : xC p s m args meth c D cc nL own) (hdg : decode cc pc = .ok (.getfield index, 3)) {pc' : Nat} (hp : pc + 3 = pc') (hlink : Cond.fieldLink own index (TX2 6).1 (TX2 6).2.1 (TX2 6).2.2.1 ∈ xtbl) (hk : kd o = 2) (k : xV p l e R s m args below meth c D b nL cells slots Q n (xH D b σ) pc' lv (.int (σ o 6) :: rest)) : xV p l e R s m args below meth c D b nL cells slots Q n (xH D b σ) pc lv (.ref (b + o) :: rest) :=
  xi_getfield hC hdg hp hlink xw_lay_X2 rfl (by decide) (xH_at.trans (xsh_2 hk)) rfl k
theorem xp2_hasHeard {o index : Nat} {x : Int32} (hC : xC p s m args meth c D cc nL own) (hdg : decode cc pc = .ok (.putfield index, 3)) {pc' : Nat} (hp : pc + 3 = pc') (hlink : Cond.fieldLink own index (TX2 6).1 (TX2 6).2.1 (TX2 6).2.2.1 ∈ xtbl) (hk : kd o = 2) (hx : x = 0 ∨ x = 1) (k : xV p l e R s m args below meth c D b nL cells slots Q n (xH D b (sw σ o 6 x)) pc' lv rest) : xV p l e R s m args below meth c D b nL cells slots Q n (xH D b σ) pc lv (.int x :: .ref (b + o) :: rest) := by
  refine xi_putfield (ty := .boolean) tyX2 hC hdg hp hlink xw_lay_X2 tyX2_ok nmX2 rfl (by decide) (xH_at.trans (xsh_2 hk)) rfl (by decide +kernel) (by rcases hx with rfl | rfl <;> rfl) (by rcases hx with rfl | rfl <;> rfl) (Nat.le_of_ble_eq_true rfl) ?_
  rw [xH_up (g := upd (σ o) 6 x) (by rw [xsh_2 hk]; rfl)]
  exact k
theorem xg2_heard {o index : Nat} (hC : xC p s m args meth c D cc nL own) (hdg : decode cc pc = .ok (.getfield index, 3)) {pc' : Nat} (hp : pc + 3 = pc') (hlink : Cond.fieldLink own index (TX2 7).1 (TX2 7).2.1 (TX2 7).2.2.1 ∈ xtbl) (hk : kd o = 2) (k : xV p l e R s m args below meth c D b nL cells slots Q n (xH D b σ) pc' lv (.int (σ o 7) :: rest)) : xV p l e R s m args below meth c D b nL cells slots Q n (xH D b σ) pc lv (.ref (b + o) :: rest) :=
  xi_getfield hC hdg hp hlink xw_lay_X2 rfl (by decide) (xH_at.trans (xsh_2 hk)) rfl k
theorem xp2_heard {o index : Nat} {x : Int32} (hC : xC p s m args meth c D cc nL own) (hdg : decode cc pc = .ok (.putfield index, 3)) {pc' : Nat} (hp : pc + 3 = pc') (hlink : Cond.fieldLink own index (TX2 7).1 (TX2 7).2.1 (TX2 7).2.2.1 ∈ xtbl) (hk : kd o = 2) (k : xV p l e R s m args below meth c D b nL cells slots Q n (xH D b (sw σ o 7 x)) pc' lv rest) : xV p l e R s m args below meth c D b nL cells slots Q n (xH D b σ) pc lv (.int x :: .ref (b + o) :: rest) := by
  refine xi_putfield (ty := .int) tyX2 hC hdg hp hlink xw_lay_X2 tyX2_ok nmX2 rfl (by decide) (xH_at.trans (xsh_2 hk)) rfl (by decide +kernel) rfl rfl (Nat.le_of_ble_eq_true rfl) ?_
  rw [xH_up (g := upd (σ o) 7 x) (by rw [xsh_2 hk]; rfl)]
  exact k
theorem xg2_operations {o index : Nat} (hC : xC p s m args meth c D cc nL own) (hdg : decode cc pc = .ok (.getfield index, 3)) {pc' : Nat} (hp : pc + 3 = pc') (hlink : Cond.fieldLink own index (TX2 8).1 (TX2 8).2.1 (TX2 8).2.2.1 ∈ xtbl) (hk : kd o = 2) (k : xV p l e R s m args below meth c D b nL cells slots Q n (xH D b σ) pc' lv (.int (σ o 8) :: rest)) : xV p l e R s m args below meth c D b nL cells slots Q n (xH D b σ) pc lv (.ref (b + o) :: rest) :=
  xi_getfield hC hdg hp hlink xw_lay_X2 rfl (by decide) (xH_at.trans (xsh_2 hk)) rfl k
theorem xp2_operations {o index : Nat} {x : Int32} (hC : xC p s m args meth c D cc nL own) (hdg : decode cc pc = .ok (.putfield index, 3)) {pc' : Nat} (hp : pc + 3 = pc') (hlink : Cond.fieldLink own index (TX2 8).1 (TX2 8).2.1 (TX2 8).2.2.1 ∈ xtbl) (hk : kd o = 2) (k : xV p l e R s m args below meth c D b nL cells slots Q n (xH D b (sw σ o 8 x)) pc' lv rest) : xV p l e R s m args below meth c D b nL cells slots Q n (xH D b σ) pc lv (.int x :: .ref (b + o) :: rest) := by
  refine xi_putfield (ty := .int) tyX2 hC hdg hp hlink xw_lay_X2 tyX2_ok nmX2 rfl (by decide) (xH_at.trans (xsh_2 hk)) rfl (by decide +kernel) rfl rfl (Nat.le_of_ble_eq_true rfl) ?_
  rw [xH_up (g := upd (σ o) 8 x) (by rw [xsh_2 hk]; rfl)]
  exact k
theorem xg2_shown {o index : Nat} (hC : xC p s m args meth c D cc nL own) (hdg : decode cc pc = .ok (.getfield index, 3)) {pc' : Nat} (hp : pc + 3 = pc') (hlink : Cond.fieldLink own index (TX2 9).1 (TX2 9).2.1 (TX2 9).2.2.1 ∈ xtbl) (hk : kd o = 2) (k : xV p l e R s m args below meth c D b nL cells slots Q n (xH D b σ) pc' lv (.int (σ o 9) :: rest)) : xV p l e R s m args below meth c D b nL cells slots Q n (xH D b σ) pc lv (.ref (b + o) :: rest) :=
  xi_getfield hC hdg hp hlink xw_lay_X2 rfl (by decide) (xH_at.trans (xsh_2 hk)) rfl k
theorem xp2_shown {o index : Nat} {x : Int32} (hC : xC p s m args meth c D cc nL own) (hdg : decode cc pc = .ok (.putfield index, 3)) {pc' : Nat} (hp : pc + 3 = pc') (hlink : Cond.fieldLink own index (TX2 9).1 (TX2 9).2.1 (TX2 9).2.2.1 ∈ xtbl) (hk : kd o = 2) (k : xV p l e R s m args below meth c D b nL cells slots Q n (xH D b (sw σ o 9 x)) pc' lv rest) : xV p l e R s m args below meth c D b nL cells slots Q n (xH D b σ) pc lv (.int x :: .ref (b + o) :: rest) := by
  refine xi_putfield (ty := .int) tyX2 hC hdg hp hlink xw_lay_X2 tyX2_ok nmX2 rfl (by decide) (xH_at.trans (xsh_2 hk)) rfl (by decide +kernel) rfl rfl (Nat.le_of_ble_eq_true rfl) ?_
  rw [xH_up (g := upd (σ o) 9 x) (by rw [xsh_2 hk]; rfl)]
  exact k
theorem xg2_sent {o index : Nat} (hC : xC p s m args meth c D cc nL own) (hdg : decode cc pc = .ok (.getfield index, 3)) {pc' : Nat} (hp : pc + 3 = pc') (hlink : Cond.fieldLink own index (TX2 10).1 (TX2 10).2.1 (TX2 10).2.2.1 ∈ xtbl) (hk : kd o = 2) (k : xV p l e R s m args below meth c D b nL cells slots Q n (xH D b σ) pc' lv (.int (σ o 10) :: rest)) : xV p l e R s m args below meth c D b nL cells slots Q n (xH D b σ) pc lv (.ref (b + o) :: rest) :=
  xi_getfield hC hdg hp hlink xw_lay_X2 rfl (by decide) (xH_at.trans (xsh_2 hk)) rfl k
theorem xp2_sent {o index : Nat} {x : Int32} (hC : xC p s m args meth c D cc nL own) (hdg : decode cc pc = .ok (.putfield index, 3)) {pc' : Nat} (hp : pc + 3 = pc') (hlink : Cond.fieldLink own index (TX2 10).1 (TX2 10).2.1 (TX2 10).2.2.1 ∈ xtbl) (hk : kd o = 2) (k : xV p l e R s m args below meth c D b nL cells slots Q n (xH D b (sw σ o 10 x)) pc' lv rest) : xV p l e R s m args below meth c D b nL cells slots Q n (xH D b σ) pc lv (.int x :: .ref (b + o) :: rest) := by
  refine xi_putfield (ty := .int) tyX2 hC hdg hp hlink xw_lay_X2 tyX2_ok nmX2 rfl (by decide) (xH_at.trans (xsh_2 hk)) rfl (by decide +kernel) rfl rfl (Nat.le_of_ble_eq_true rfl) ?_
  rw [xH_up (g := upd (σ o) 10 x) (by rw [xsh_2 hk]; rfl)]
  exact k
theorem xg3_first {o index : Nat} (hC : xC p s m args meth c D cc nL own) (hdg : decode cc pc = .ok (.getfield index, 3)) {pc' : Nat} (hp : pc + 3 = pc') (hlink : Cond.fieldLink own index (TX3 0).1 (TX3 0).2.1 (TX3 0).2.2.1 ∈ xtbl) (hk : kd o = 3) (k : xV p l e R s m args below meth c D b nL cells slots Q n (xH D b σ) pc' lv (.ref (b + (oFst o)) :: rest)) : xV p l e R s m args below meth c D b nL cells slots Q n (xH D b σ) pc lv (.ref (b + o) :: rest) :=
  xi_getfield hC hdg hp hlink xw_lay_X3 rfl (by decide) (xH_at.trans (xsh_3 hk)) rfl k
theorem xg3_second {o index : Nat} (hC : xC p s m args meth c D cc nL own) (hdg : decode cc pc = .ok (.getfield index, 3)) {pc' : Nat} (hp : pc + 3 = pc') (hlink : Cond.fieldLink own index (TX3 1).1 (TX3 1).2.1 (TX3 1).2.2.1 ∈ xtbl) (hk : kd o = 3) (k : xV p l e R s m args below meth c D b nL cells slots Q n (xH D b σ) pc' lv (.ref (b + (oSnd o)) :: rest)) : xV p l e R s m args below meth c D b nL cells slots Q n (xH D b σ) pc lv (.ref (b + o) :: rest) :=
  xi_getfield hC hdg hp hlink xw_lay_X3 rfl (by decide) (xH_at.trans (xsh_3 hk)) rfl k
theorem xg3_isHeld {o index : Nat} (hC : xC p s m args meth c D cc nL own) (hdg : decode cc pc = .ok (.getfield index, 3)) {pc' : Nat} (hp : pc + 3 = pc') (hlink : Cond.fieldLink own index (TX3 2).1 (TX3 2).2.1 (TX3 2).2.2.1 ∈ xtbl) (hk : kd o = 3) (k : xV p l e R s m args below meth c D b nL cells slots Q n (xH D b σ) pc' lv (.int (σ o 2) :: rest)) : xV p l e R s m args below meth c D b nL cells slots Q n (xH D b σ) pc lv (.ref (b + o) :: rest) :=
  xi_getfield hC hdg hp hlink xw_lay_X3 rfl (by decide) (xH_at.trans (xsh_3 hk)) rfl k
theorem xp3_isHeld {o index : Nat} {x : Int32} (hC : xC p s m args meth c D cc nL own) (hdg : decode cc pc = .ok (.putfield index, 3)) {pc' : Nat} (hp : pc + 3 = pc') (hlink : Cond.fieldLink own index (TX3 2).1 (TX3 2).2.1 (TX3 2).2.2.1 ∈ xtbl) (hk : kd o = 3) (hx : x = 0 ∨ x = 1) (k : xV p l e R s m args below meth c D b nL cells slots Q n (xH D b (sw σ o 2 x)) pc' lv rest) : xV p l e R s m args below meth c D b nL cells slots Q n (xH D b σ) pc lv (.int x :: .ref (b + o) :: rest) := by
  refine xi_putfield (ty := .boolean) tyX3 hC hdg hp hlink xw_lay_X3 tyX3_ok nmX3 rfl (by decide) (xH_at.trans (xsh_3 hk)) rfl (by decide +kernel) (by rcases hx with rfl | rfl <;> rfl) (by rcases hx with rfl | rfl <;> rfl) (Nat.le_of_ble_eq_true rfl) ?_
  rw [xH_up (g := upd (σ o) 2 x) (by rw [xsh_3 hk]; rfl)]
  exact k
theorem xg3_depth {o index : Nat} (hC : xC p s m args meth c D cc nL own) (hdg : decode cc pc = .ok (.getfield index, 3)) {pc' : Nat} (hp : pc + 3 = pc') (hlink : Cond.fieldLink own index (TX3 3).1 (TX3 3).2.1 (TX3 3).2.2.1 ∈ xtbl) (hk : kd o = 3) (k : xV p l e R s m args below meth c D b nL cells slots Q n (xH D b σ) pc' lv (.int (σ o 3) :: rest)) : xV p l e R s m args below meth c D b nL cells slots Q n (xH D b σ) pc lv (.ref (b + o) :: rest) :=
  xi_getfield hC hdg hp hlink xw_lay_X3 rfl (by decide) (xH_at.trans (xsh_3 hk)) rfl k
theorem xp3_depth {o index : Nat} {x : Int32} (hC : xC p s m args meth c D cc nL own) (hdg : decode cc pc = .ok (.putfield index, 3)) {pc' : Nat} (hp : pc + 3 = pc') (hlink : Cond.fieldLink own index (TX3 3).1 (TX3 3).2.1 (TX3 3).2.2.1 ∈ xtbl) (hk : kd o = 3) (k : xV p l e R s m args below meth c D b nL cells slots Q n (xH D b (sw σ o 3 x)) pc' lv rest) : xV p l e R s m args below meth c D b nL cells slots Q n (xH D b σ) pc lv (.int x :: .ref (b + o) :: rest) := by
  refine xi_putfield (ty := .int) tyX3 hC hdg hp hlink xw_lay_X3 tyX3_ok nmX3 rfl (by decide) (xH_at.trans (xsh_3 hk)) rfl (by decide +kernel) rfl rfl (Nat.le_of_ble_eq_true rfl) ?_
  rw [xH_up (g := upd (σ o) 3 x) (by rw [xsh_3 hk]; rfl)]
  exact k
theorem xg4_signs {o index : Nat} (hC : xC p s m args meth c D cc nL own) (hdg : decode cc pc = .ok (.getfield index, 3)) {pc' : Nat} (hp : pc + 3 = pc') (hlink : Cond.fieldLink own index (TX4 0).1 (TX4 0).2.1 (TX4 0).2.2.1 ∈ xtbl) (hk : kd o = 4) (k : xV p l e R s m args below meth c D b nL cells slots Q n (xH D b σ) pc' lv (.ref (b + oSgn) :: rest)) : xV p l e R s m args below meth c D b nL cells slots Q n (xH D b σ) pc lv (.ref (b + o) :: rest) :=
  xi_getfield hC hdg hp hlink xw_lay_X4 rfl (by decide) (xH_at.trans (xsh_4 hk)) rfl k
theorem xg4_length {o index : Nat} (hC : xC p s m args meth c D cc nL own) (hdg : decode cc pc = .ok (.getfield index, 3)) {pc' : Nat} (hp : pc + 3 = pc') (hlink : Cond.fieldLink own index (TX4 1).1 (TX4 1).2.1 (TX4 1).2.2.1 ∈ xtbl) (hk : kd o = 4) (k : xV p l e R s m args below meth c D b nL cells slots Q n (xH D b σ) pc' lv (.int (σ o 1) :: rest)) : xV p l e R s m args below meth c D b nL cells slots Q n (xH D b σ) pc lv (.ref (b + o) :: rest) :=
  xi_getfield hC hdg hp hlink xw_lay_X4 rfl (by decide) (xH_at.trans (xsh_4 hk)) rfl k
theorem xp4_length {o index : Nat} {x : Int32} (hC : xC p s m args meth c D cc nL own) (hdg : decode cc pc = .ok (.putfield index, 3)) {pc' : Nat} (hp : pc + 3 = pc') (hlink : Cond.fieldLink own index (TX4 1).1 (TX4 1).2.1 (TX4 1).2.2.1 ∈ xtbl) (hk : kd o = 4) (k : xV p l e R s m args below meth c D b nL cells slots Q n (xH D b (sw σ o 1 x)) pc' lv rest) : xV p l e R s m args below meth c D b nL cells slots Q n (xH D b σ) pc lv (.int x :: .ref (b + o) :: rest) := by
  refine xi_putfield (ty := .int) tyX4 hC hdg hp hlink xw_lay_X4 tyX4_ok nmX4 rfl (by decide) (xH_at.trans (xsh_4 hk)) rfl (by decide +kernel) rfl rfl (Nat.le_of_ble_eq_true rfl) ?_
  rw [xH_up (g := upd (σ o) 1 x) (by rw [xsh_4 hk]; rfl)]
  exact k
theorem xg5_numbers {o index : Nat} (hC : xC p s m args meth c D cc nL own) (hdg : decode cc pc = .ok (.getfield index, 3)) {pc' : Nat} (hp : pc + 3 = pc') (hlink : Cond.fieldLink own index (TX5 0).1 (TX5 0).2.1 (TX5 0).2.2.1 ∈ xtbl) (hk : kd o = 5) (k : xV p l e R s m args below meth c D b nL cells slots Q n (xH D b σ) pc' lv (.ref (b + (oNum o)) :: rest)) : xV p l e R s m args below meth c D b nL cells slots Q n (xH D b σ) pc lv (.ref (b + o) :: rest) :=
  xi_getfield hC hdg hp hlink xw_lay_X5 rfl (by decide) (xH_at.trans (xsh_5 hk)) rfl k
theorem xg6_entries {o index : Nat} (hC : xC p s m args meth c D cc nL own) (hdg : decode cc pc = .ok (.getfield index, 3)) {pc' : Nat} (hp : pc + 3 = pc') (hlink : Cond.fieldLink own index (TX6 0).1 (TX6 0).2.1 (TX6 0).2.2.1 ∈ xtbl) (hk : kd o = 6) (k : xV p l e R s m args below meth c D b nL cells slots Q n (xH D b σ) pc' lv (.ref (b + (oEnt o)) :: rest)) : xV p l e R s m args below meth c D b nL cells slots Q n (xH D b σ) pc lv (.ref (b + o) :: rest) :=
  xi_getfield hC hdg hp hlink xw_lay_X6 rfl (by decide) (xH_at.trans (xsh_6 hk)) rfl k
theorem xg6_before {o index : Nat} (hC : xC p s m args meth c D cc nL own) (hdg : decode cc pc = .ok (.getfield index, 3)) {pc' : Nat} (hp : pc + 3 = pc') (hlink : Cond.fieldLink own index (TX6 1).1 (TX6 1).2.1 (TX6 1).2.2.1 ∈ xtbl) (hk : kd o = 6) (k : xV p l e R s m args below meth c D b nL cells slots Q n (xH D b σ) pc' lv (.ref (b + (oBef o)) :: rest)) : xV p l e R s m args below meth c D b nL cells slots Q n (xH D b σ) pc lv (.ref (b + o) :: rest) :=
  xi_getfield hC hdg hp hlink xw_lay_X6 rfl (by decide) (xH_at.trans (xsh_6 hk)) rfl k
theorem xg6_remembered {o index : Nat} (hC : xC p s m args meth c D cc nL own) (hdg : decode cc pc = .ok (.getfield index, 3)) {pc' : Nat} (hp : pc + 3 = pc') (hlink : Cond.fieldLink own index (TX6 2).1 (TX6 2).2.1 (TX6 2).2.2.1 ∈ xtbl) (hk : kd o = 6) (k : xV p l e R s m args below meth c D b nL cells slots Q n (xH D b σ) pc' lv (.int (σ o 2) :: rest)) : xV p l e R s m args below meth c D b nL cells slots Q n (xH D b σ) pc lv (.ref (b + o) :: rest) :=
  xi_getfield hC hdg hp hlink xw_lay_X6 rfl (by decide) (xH_at.trans (xsh_6 hk)) rfl k
theorem xp6_remembered {o index : Nat} {x : Int32} (hC : xC p s m args meth c D cc nL own) (hdg : decode cc pc = .ok (.putfield index, 3)) {pc' : Nat} (hp : pc + 3 = pc') (hlink : Cond.fieldLink own index (TX6 2).1 (TX6 2).2.1 (TX6 2).2.2.1 ∈ xtbl) (hk : kd o = 6) (k : xV p l e R s m args below meth c D b nL cells slots Q n (xH D b (sw σ o 2 x)) pc' lv rest) : xV p l e R s m args below meth c D b nL cells slots Q n (xH D b σ) pc lv (.int x :: .ref (b + o) :: rest) := by
  refine xi_putfield (ty := .int) tyX6 hC hdg hp hlink xw_lay_X6 tyX6_ok nmX6 rfl (by decide) (xH_at.trans (xsh_6 hk)) rfl (by decide +kernel) rfl rfl (Nat.le_of_ble_eq_true rfl) ?_
  rw [xH_up (g := upd (σ o) 2 x) (by rw [xsh_6 hk]; rfl)]
  exact k
theorem xg6_next {o index : Nat} (hC : xC p s m args meth c D cc nL own) (hdg : decode cc pc = .ok (.getfield index, 3)) {pc' : Nat} (hp : pc + 3 = pc') (hlink : Cond.fieldLink own index (TX6 3).1 (TX6 3).2.1 (TX6 3).2.2.1 ∈ xtbl) (hk : kd o = 6) (k : xV p l e R s m args below meth c D b nL cells slots Q n (xH D b σ) pc' lv (.int (σ o 3) :: rest)) : xV p l e R s m args below meth c D b nL cells slots Q n (xH D b σ) pc lv (.ref (b + o) :: rest) :=
  xi_getfield hC hdg hp hlink xw_lay_X6 rfl (by decide) (xH_at.trans (xsh_6 hk)) rfl k
theorem xp6_next {o index : Nat} {x : Int32} (hC : xC p s m args meth c D cc nL own) (hdg : decode cc pc = .ok (.putfield index, 3)) {pc' : Nat} (hp : pc + 3 = pc') (hlink : Cond.fieldLink own index (TX6 3).1 (TX6 3).2.1 (TX6 3).2.2.1 ∈ xtbl) (hk : kd o = 6) (k : xV p l e R s m args below meth c D b nL cells slots Q n (xH D b (sw σ o 3 x)) pc' lv rest) : xV p l e R s m args below meth c D b nL cells slots Q n (xH D b σ) pc lv (.int x :: .ref (b + o) :: rest) := by
  refine xi_putfield (ty := .int) tyX6 hC hdg hp hlink xw_lay_X6 tyX6_ok nmX6 rfl (by decide) (xH_at.trans (xsh_6 hk)) rfl (by decide +kernel) rfl rfl (Nat.le_of_ble_eq_true rfl) ?_
  rw [xH_up (g := upd (σ o) 3 x) (by rw [xsh_6 hk]; rfl)]
  exact k
theorem xg7_members {o index : Nat} (hC : xC p s m args meth c D cc nL own) (hdg : decode cc pc = .ok (.getfield index, 3)) {pc' : Nat} (hp : pc + 3 = pc') (hlink : Cond.fieldLink own index (TX7 0).1 (TX7 0).2.1 (TX7 0).2.2.1 ∈ xtbl) (hk : kd o = 7) (k : xV p l e R s m args below meth c D b nL cells slots Q n (xH D b σ) pc' lv (.ref (b + oMs) :: rest)) : xV p l e R s m args below meth c D b nL cells slots Q n (xH D b σ) pc lv (.ref (b + o) :: rest) :=
  xi_getfield hC hdg hp hlink xw_lay_X7 rfl (by decide) (xH_at.trans (xsh_7 hk)) rfl k
theorem xg7_views {o index : Nat} (hC : xC p s m args meth c D cc nL own) (hdg : decode cc pc = .ok (.getfield index, 3)) {pc' : Nat} (hp : pc + 3 = pc') (hlink : Cond.fieldLink own index (TX7 1).1 (TX7 1).2.1 (TX7 1).2.2.1 ∈ xtbl) (hk : kd o = 7) (k : xV p l e R s m args below meth c D b nL cells slots Q n (xH D b σ) pc' lv (.ref (b + oVws) :: rest)) : xV p l e R s m args below meth c D b nL cells slots Q n (xH D b σ) pc lv (.ref (b + o) :: rest) :=
  xi_getfield hC hdg hp hlink xw_lay_X7 rfl (by decide) (xH_at.trans (xsh_7 hk)) rfl k
theorem xg7_script {o index : Nat} (hC : xC p s m args meth c D cc nL own) (hdg : decode cc pc = .ok (.getfield index, 3)) {pc' : Nat} (hp : pc + 3 = pc') (hlink : Cond.fieldLink own index (TX7 2).1 (TX7 2).2.1 (TX7 2).2.2.1 ∈ xtbl) (hk : kd o = 7) (k : xV p l e R s m args below meth c D b nL cells slots Q n (xH D b σ) pc' lv (.ref (b + oScr) :: rest)) : xV p l e R s m args below meth c D b nL cells slots Q n (xH D b σ) pc lv (.ref (b + o) :: rest) :=
  xi_getfield hC hdg hp hlink xw_lay_X7 rfl (by decide) (xH_at.trans (xsh_7 hk)) rfl k
theorem xg7_users {o index : Nat} (hC : xC p s m args meth c D cc nL own) (hdg : decode cc pc = .ok (.getfield index, 3)) {pc' : Nat} (hp : pc + 3 = pc') (hlink : Cond.fieldLink own index (TX7 3).1 (TX7 3).2.1 (TX7 3).2.2.1 ∈ xtbl) (hk : kd o = 7) (k : xV p l e R s m args below meth c D b nL cells slots Q n (xH D b σ) pc' lv (.int (σ o 3) :: rest)) : xV p l e R s m args below meth c D b nL cells slots Q n (xH D b σ) pc lv (.ref (b + o) :: rest) :=
  xi_getfield hC hdg hp hlink xw_lay_X7 rfl (by decide) (xH_at.trans (xsh_7 hk)) rfl k
theorem xp7_users {o index : Nat} {x : Int32} (hC : xC p s m args meth c D cc nL own) (hdg : decode cc pc = .ok (.putfield index, 3)) {pc' : Nat} (hp : pc + 3 = pc') (hlink : Cond.fieldLink own index (TX7 3).1 (TX7 3).2.1 (TX7 3).2.2.1 ∈ xtbl) (hk : kd o = 7) (k : xV p l e R s m args below meth c D b nL cells slots Q n (xH D b (sw σ o 3 x)) pc' lv rest) : xV p l e R s m args below meth c D b nL cells slots Q n (xH D b σ) pc lv (.int x :: .ref (b + o) :: rest) := by
  refine xi_putfield (ty := .int) tyX7 hC hdg hp hlink xw_lay_X7 tyX7_ok nmX7 rfl (by decide) (xH_at.trans (xsh_7 hk)) rfl (by decide +kernel) rfl rfl (Nat.le_of_ble_eq_true rfl) ?_
  rw [xH_up (g := upd (σ o) 3 x) (by rw [xsh_7 hk]; rfl)]
  exact k
theorem xg7_viewCount {o index : Nat} (hC : xC p s m args meth c D cc nL own) (hdg : decode cc pc = .ok (.getfield index, 3)) {pc' : Nat} (hp : pc + 3 = pc') (hlink : Cond.fieldLink own index (TX7 4).1 (TX7 4).2.1 (TX7 4).2.2.1 ∈ xtbl) (hk : kd o = 7) (k : xV p l e R s m args below meth c D b nL cells slots Q n (xH D b σ) pc' lv (.int (σ o 4) :: rest)) : xV p l e R s m args below meth c D b nL cells slots Q n (xH D b σ) pc lv (.ref (b + o) :: rest) :=
  xi_getfield hC hdg hp hlink xw_lay_X7 rfl (by decide) (xH_at.trans (xsh_7 hk)) rfl k
theorem xp7_viewCount {o index : Nat} {x : Int32} (hC : xC p s m args meth c D cc nL own) (hdg : decode cc pc = .ok (.putfield index, 3)) {pc' : Nat} (hp : pc + 3 = pc') (hlink : Cond.fieldLink own index (TX7 4).1 (TX7 4).2.1 (TX7 4).2.2.1 ∈ xtbl) (hk : kd o = 7) (k : xV p l e R s m args below meth c D b nL cells slots Q n (xH D b (sw σ o 4 x)) pc' lv rest) : xV p l e R s m args below meth c D b nL cells slots Q n (xH D b σ) pc lv (.int x :: .ref (b + o) :: rest) := by
  refine xi_putfield (ty := .int) tyX7 hC hdg hp hlink xw_lay_X7 tyX7_ok nmX7 rfl (by decide) (xH_at.trans (xsh_7 hk)) rfl (by decide +kernel) rfl rfl (Nat.le_of_ble_eq_true rfl) ?_
  rw [xH_up (g := upd (σ o) 4 x) (by rw [xsh_7 hk]; rfl)]
  exact k
theorem xa_members {o j : Nat} {i : Int32} (hC : xC p s m args meth c D cc nL own) (hdg : decode cc pc = .ok (.aaload, 1)) {pc' : Nat} (hp : pc + 1 = pc') (hk : kd o = 23) (hi : i = nI j) (hj : j < 5) (k : xV p l e R s m args below meth c D b nL cells slots Q n (xH D b σ) pc' lv (.ref (b + oMem j) :: rest)) : xV p l e R s m args below meth c D b nL cells slots Q n (xH D b σ) pc lv (.int i :: .ref (b + o) :: rest) :=
  xi_aaload (t0 := 3) (C := RX2) hC hdg hp (xH_at.trans (xsh_23 hk)) rfl hi hj (by decide) (if_pos hj) k
theorem xa_views {o j : Nat} {i : Int32} (hC : xC p s m args meth c D cc nL own) (hdg : decode cc pc = .ok (.aaload, 1)) {pc' : Nat} (hp : pc + 1 = pc') (hk : kd o = 24) (hi : i = nI j) (hj : j < 6) (k : xV p l e R s m args below meth c D b nL cells slots Q n (xH D b σ) pc' lv (.ref (b + oVw j) :: rest)) : xV p l e R s m args below meth c D b nL cells slots Q n (xH D b σ) pc lv (.int i :: .ref (b + o) :: rest) :=
  xi_aaload (t0 := 4) (C := RX6) hC hdg hp (xH_at.trans (xsh_24 hk)) rfl hi hj (by decide) (if_pos hj) k
theorem xa_before {o j : Nat} {i : Int32} (hC : xC p s m args meth c D cc nL own) (hdg : decode cc pc = .ok (.aaload, 1)) {pc' : Nat} (hp : pc + 1 = pc') (hk : kd o = 25) (hi : i = nI j) (hj : j < 5) (k : xV p l e R s m args below meth c D b nL cells slots Q n (xH D b σ) pc' lv (.ref (b + oBk o j) :: rest)) : xV p l e R s m args below meth c D b nL cells slots Q n (xH D b σ) pc lv (.int i :: .ref (b + o) :: rest) :=
  xi_aaload (t0 := 5) (C := RX1) hC hdg hp (xH_at.trans (xsh_25 hk)) rfl hi hj (by decide) (if_pos hj) k
theorem xa_vectors {o j : Nat} {i : Int32} (hC : xC p s m args meth c D cc nL own) (hdg : decode cc pc = .ok (.aaload, 1)) {pc' : Nat} (hp : pc + 1 = pc') (hk : kd o = 26) (hi : i = nI j) (hj : j < 5) (k : xV p l e R s m args below meth c D b nL cells slots Q n (xH D b σ) pc' lv (.ref (b + oVec o j) :: rest)) : xV p l e R s m args below meth c D b nL cells slots Q n (xH D b σ) pc lv (.int i :: .ref (b + o) :: rest) :=
  xi_aaload (t0 := 6) (C := RX5) hC hdg hp (xH_at.trans (xsh_26 hk)) rfl hi hj (by decide) (if_pos hj) k
theorem xa_letters {o j : Nat} {i : Int32} (hC : xC p s m args meth c D cc nL own) (hdg : decode cc pc = .ok (.aaload, 1)) {pc' : Nat} (hp : pc + 1 = pc') (hk : kd o = 27) (hi : i = nI j) (hj : j < 4) (k : xV p l e R s m args below meth c D b nL cells slots Q n (xH D b σ) pc' lv (.ref (b + oLet o j) :: rest)) : xV p l e R s m args below meth c D b nL cells slots Q n (xH D b σ) pc lv (.int i :: .ref (b + o) :: rest) :=
  xi_aaload (t0 := 6) (C := RX5) hC hdg hp (xH_at.trans (xsh_27 hk)) rfl hi hj (by decide) (if_pos hj) k
theorem xl_i {o N j : Nat} {i : Int32} (hC : xC p s m args meth c D cc nL own) (hdg : decode cc pc = .ok (.iaload, 1)) {pc' : Nat} (hp : pc + 1 = pc') (hk : kd o = 1000 + N) (hN : N < 1000) (hi : i = nI j) (hj : j < N) (k : xV p l e R s m args below meth c D b nL cells slots Q n (xH D b σ) pc' lv (.int (σ o j) :: rest)) : xV p l e R s m args below meth c D b nL cells slots Q n (xH D b σ) pc lv (.int i :: .ref (b + o) :: rest) :=
  xi_iaload hC hdg hp (xH_at.trans (xsh_a0 hN hk)) hi hj (by omega) k
theorem xs_i {o N j : Nat} {i x : Int32} (hC : xC p s m args meth c D cc nL own) (hdg : decode cc pc = .ok (.iastore, 1)) {pc' : Nat} (hp : pc + 1 = pc') (hk : kd o = 1000 + N) (hN : N < 1000) (hi : i = nI j) (hj : j < N) (k : xV p l e R s m args below meth c D b nL cells slots Q n (xH D b (sw σ o j x)) pc' lv rest) : xV p l e R s m args below meth c D b nL cells slots Q n (xH D b σ) pc lv (.int x :: .int i :: .ref (b + o) :: rest) := by
  refine xi_iastore hC hdg hp (xH_at.trans (xsh_a0 hN hk)) hi hj (by omega) ?_
  rw [xH_up (g := upd (σ o) j x) (xsh_a0 hN hk)]
  exact k
theorem xstate {τ : XM} (he : σ = τ) (k : xV p l e R s m args below meth c D b nL cells slots Q n (xH D b τ) pc lv rest) : xV p l e R s m args below meth c D b nL cells slots Q n (xH D b σ) pc lv rest := he ▸ k
end XR
