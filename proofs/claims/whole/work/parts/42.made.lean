
/-! ===== constructors ===== -/
/-- an ambient heap, with the cells of the offsets o .. o + len - 1 made, all numbers zero -/
def hf (D : XD) (b : Nat) (h : XH) (o len : Nat) : XH := fun q => if b + o ≤ q ∧ q < b + o + len then xsh D b (q - b) (fun _ => 0) else h q
theorem hf_0 {D : XD} {b o : Nat} {h : XH} : hf D b h o 0 = h := by
  funext q
  unfold hf
  rw [if_neg (by omega)]
theorem hf_hf {D : XD} {b o l1 l2 : Nat} {h : XH} : hf D b (hf D b h o l1) (o + l1) l2 = hf D b h o (l1 + l2) := by
  funext q
  unfold hf
  by_cases h1 : b + (o + l1) ≤ q ∧ q < b + (o + l1) + l2
  · rw [if_pos h1, if_pos (by omega)]
  · rw [if_neg h1]
    by_cases h2 : b + o ≤ q ∧ q < b + o + l1
    · rw [if_pos h2, if_pos (by omega)]
    · rw [if_neg h2, if_neg (by omega)]
theorem hf_up {D : XD} {b o o' len : Nat} {h : XH} {e : va_E} (ho : o' < o) : xup (hf D b h o len) (b + o') e = hf D b (xup h (b + o') e) o len := by
  funext q
  unfold hf xup
  by_cases h1 : q = b + o'
  · rw [if_pos h1, if_neg (by omega), if_pos h1]
  · rw [if_neg h1, if_neg h1]
theorem hf_fin {D : XD} {b o len : Nat} {h : XH} {e : va_E} (he : xsh D b o (fun _ => 0) = some e) : hf D b (xup h (b + o) e) (o + 1) len = hf D b h o (len + 1) := by
  funext q
  unfold hf xup
  by_cases h1 : q = b + o
  · subst h1
    rw [if_neg (by omega), if_pos rfl, if_pos (by omega), Nat.add_sub_cancel_left, he]
  · by_cases h2 : b + (o + 1) ≤ q ∧ q < b + (o + 1) + len
    · rw [if_pos h2, if_pos (by omega)]
    · rw [if_neg h2, if_neg h1, if_neg (by omega)]
theorem xup_up {h : XH} {a : Nat} {e e' : va_E} : xup (xup h a e) a e' = xup h a e' := by
  funext q
  unfold xup
  by_cases h1 : q = a
  · rw [if_pos h1, if_pos h1]
  · rw [if_neg h1, if_neg h1, if_neg h1]
theorem xup_sw {h : XH} {a a' : Nat} {e e' : va_E} (hn : a ≠ a') : xup (xup h a e) a' e' = xup (xup h a' e') a e := by
  funext q
  unfold xup
  by_cases h1 : q = a'
  · rw [if_pos h1, if_neg (by omega), if_pos h1]
  · rw [if_neg h1]
    by_cases h2 : q = a
    · rw [if_pos h2, if_pos h2]
    · rw [if_neg h2, if_neg h2, if_neg h1]
/-- an array of references, of which the first k are there -/
def rfA (cA : ClassId) (N k : Nat) (f : Nat → Nat) : va_E := .inl (cA, N, .inr (.inr (.inr (.inr (fun j => if j < k then some (f j) else none)))))
theorem rfA_0 {cA : ClassId} {N : Nat} {f : Nat → Nat} : (.inl (cA, N, .inr (.inr (.inr (.inr (fun _ => none))))) : va_E) = rfA cA N 0 f := by
  unfold rfA
  congr 7
theorem rfA_s {cA : ClassId} {N k : Nat} {f : Nat → Nat} : (.inl (cA, N, .inr (.inr (.inr (.inr (va_up (fun j => if j < k then some (f j) else none) k (some (f k))))))) : va_E) = rfA cA N (k + 1) f := by
  have e : va_up (fun j => if j < k then some (f j) else none) k (some (f k)) = fun j => if j < k + 1 then some (f j) else none := by
    funext j
    unfold va_up
    by_cases h1 : j = k
    · subst h1; rw [if_pos rfl, if_pos (by omega)]
    · rw [if_neg h1]
      by_cases h2 : j < k
      · rw [if_pos h2, if_pos (by omega)]
      · rw [if_neg h2, if_neg (by omega)]
  unfold rfA
  rw [e]
section XI
variable {p : Program} {l : Launch} {e : Env} {R : Room} {s : State} {m : MethodId} {args : Array Value} {below : List Frame} {meth : Method} {c : Code} {D : XD} {b nL cells slots : Nat} {Q : State → Prop} {n : Nat} {h : XH} {pc : Nat} {lv : List (Option Value)} {st : List Value}
theorem xhp {h' : XH} (hh : h = h') (k : xV p l e R s m args below meth c D b nL cells slots Q n h' pc lv st) : xV p l e R s m args below meth c D b nL cells slots Q n h pc lv st := by rw [hh]; exact k
theorem xnat {n' : Nat} (hh : n = n') (k : xV p l e R s m args below meth c D b nL cells slots Q n' h pc lv st) : xV p l e R s m args below meth c D b nL cells slots Q n h pc lv st := by rw [hh]; exact k
end XI

set_option maxRecDepth 100000 in
theorem c_X5_init (l : Launch) (D : XD) (b : Nat) {h : XH} {o : Nat} (h1 : kd o = 5) : xM l yX5_init cX5_init 1 none 1 20 1 5 D b (b + o + 1) [.ref (b + o)] (xup h (b + o) (.inr (5, [.null]))) (b + o + 2) (fun v h' => v = none ∧ h' = hf D b h o 2) := by
  refine xM.of (lv := [some (.ref (b + o))]) (by decide +kernel) rfl (List.forall_mem_cons.mpr ⟨rfl, fun _ h => absurd h List.not_mem_nil⟩) (Nat.le_of_ble_eq_true rfl) rfl ?_
  intro p e s m args below meth c hC hr hnm
  refine xi_aload_n hC dX5_init_0 (pc' := 1) rfl rfl rfl ?_
  refine xi_objInit hC dX5_init_1 (pc' := 4) rfl xw_m_X5_3 ⟨Nat.le_of_ble_eq_true rfl, Nat.le_of_ble_eq_true rfl⟩ ?_
  refine xi_aload_n hC dX5_init_4 (pc' := 5) rfl rfl rfl ?_
  refine xi_iconst (v := nI 5) hC dX5_init_5 (pc' := 6) rfl (by decide +kernel) ?_
  refine xi_newarray (N := 5) (t0 := 0) (cA := D.2 0) (a0 := .inl (fun _ => 0)) hC dX5_init_6 (pc' := 8) rfl rfl xw_ac_int rfl (fun _ _ => rfl) rfl rfl (by decide) (by decide) ⟨Nat.le_of_ble_eq_true rfl, Nat.le_of_ble_eq_true rfl⟩ ?_
  refine xi_putfinal (T := TX5) (i := 0) (ty := tyX5 0) tyX5 hC dX5_init_8 (pc' := 11) rfl xw_f_X5_9 xw_lay_X5 tyX5_ok nmX5 rfl (by decide) ((xup_n (by omega)).trans xup_s) rfl hnm rfl (tyX5_ok 0 (by decide)) rfl rfl (by decide) ?_
  refine xi_return hC dX5_init_11 hr rfl ?_
  sorry
