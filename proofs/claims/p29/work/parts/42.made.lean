/-! ===== constructors ===== -/
/-- an ambient heap, with the cells of the offsets o .. o + len - 1 made, all numbers zero -/
def hf (D : XD) (b : Nat) (h : XH) (o len : Nat) : XH := fun q => if b + o ≤ q ∧ q < b + o + len then xsh D b (q - b) (fun _ => 0) else h q
theorem hf_0 {D : XD} {b o : Nat} {h : XH} : hf D b h o 0 = h := by
  funext q
  unfold hf
  rw [if_neg (by omega)]
theorem hf_hf {D : XD} {b o l1 l2 : Nat} {h : XH} : hf D b (hf D b h o l1) (o + l1) l2 = hf D b h o (l1 + l2) := by
  funext q
  unfold hf
  by_cases h1 : b + (o + l1) ≤ q ∧ q < b + (o + l1) + l2
  · rw [if_pos h1, if_pos (by omega)]
  · rw [if_neg h1]
    by_cases h2 : b + o ≤ q ∧ q < b + o + l1
    · rw [if_pos h2, if_pos (by omega)]
    · rw [if_neg h2, if_neg (by omega)]
theorem hf_up {D : XD} {b o o' len : Nat} {h : XH} {e : va_E} (ho : o' < o) : xup (hf D b h o len) (b + o') e = hf D b (xup h (b + o') e) o len := by
  funext q
  unfold hf xup
  by_cases h1 : q = b + o'
  · rw [if_pos h1, if_neg (by omega), if_pos h1]
  · rw [if_neg h1, if_neg h1]
theorem hf_fin {D : XD} {b o len : Nat} {h : XH} {e : va_E} (he : xsh D b o (fun _ => 0) = some e) : hf D b (xup h (b + o) e) (o + 1) len = hf D b h o (len + 1) := by
  funext q
  unfold hf xup
  by_cases h1 : q = b + o
  · subst h1
    rw [if_neg (by omega), if_pos rfl, if_pos (by omega), Nat.add_sub_cancel_left, he]
  · by_cases h2 : b + (o + 1) ≤ q ∧ q < b + (o + 1) + len
    · rw [if_pos h2, if_pos (by omega)]
    · rw [if_neg h2, if_neg h1, if_neg (by omega)]
theorem xup_up {h : XH} {a : Nat} {e e' : va_E} : xup (xup h a e) a e' = xup h a e' := by
  funext q
  unfold xup
  by_cases h1 : q = a
  · rw [if_pos h1, if_pos h1]
  · rw [if_neg h1, if_neg h1, if_neg h1]
theorem xup_sw {h : XH} {a a' : Nat} {e e' : va_E} (hn : a ≠ a') : xup (xup h a e) a' e' = xup (xup h a' e') a e := by
  funext q
  unfold xup
  by_cases h1 : q = a'
  · rw [if_pos h1, if_neg (by omega), if_pos h1]
  · rw [if_neg h1]
    by_cases h2 : q = a
    · rw [if_pos h2, if_pos h2]
    · rw [if_neg h2, if_neg h2, if_neg h1]
/-- an array of references, of which the first k are there -/
def rfA (cA : ClassId) (N k : Nat) (f : Nat → Nat) : va_E := .inl (cA, N, .inr (.inr (.inr (.inr (fun j => if j < k then some (f j) else none)))))
theorem rfA_0 {cA : ClassId} {N : Nat} {f : Nat → Nat} : (.inl (cA, N, .inr (.inr (.inr (.inr (fun _ => none))))) : va_E) = rfA cA N 0 f := by
  unfold rfA
  congr 7
theorem rfA_s {cA : ClassId} {N k : Nat} {f : Nat → Nat} : (.inl (cA, N, .inr (.inr (.inr (.inr (va_up (fun j => if j < k then some (f j) else none) k (some (f k))))))) : va_E) = rfA cA N (k + 1) f := by
  have e : va_up (fun j => if j < k then some (f j) else none) k (some (f k)) = fun j => if j < k + 1 then some (f j) else none := by
    funext j
    unfold va_up
    by_cases h1 : j = k
    · subst h1; rw [if_pos rfl, if_pos (by omega)]
    · rw [if_neg h1]
      show (if j < k then some (f j) else none) = _
      by_cases h2 : j < k
      · rw [if_pos h2, if_pos (by omega)]
      · rw [if_neg h2, if_neg (by omega)]
  unfold rfA
  rw [e]
theorem hf_1 {D : XD} {b o : Nat} {h : XH} {e : va_E} (he : xsh D b o (fun _ => 0) = some e) : xup h (b + o) e = hf D b h o 1 := by
  have := hf_fin (len := 0) (h := h) he
  rw [hf_0] at this
  exact this
theorem hf_n {D : XD} {b o len q : Nat} {h : XH} (hq : q < b + o) : hf D b h o len q = h q := if_neg (by omega)
theorem hf_i {D : XD} {b o len k : Nat} {h : XH} (h1 : o ≤ k) (h2 : k < o + len) : hf D b h o len (b + k) = xsh D b k (fun _ => 0) := by
  unfold hf
  rw [if_pos (by omega), Nat.add_sub_cancel_left]
theorem xup_in {h : XH} {a a1 : Nat} {e e' e1 : va_E} (hn : a1 ≠ a) : xup (xup (xup h a e) a1 e1) a e' = xup (xup h a e') a1 e1 := by rw [xup_sw hn, xup_up]
theorem xup_in2 {h : XH} {a a1 a2 : Nat} {e e' e1 e2 : va_E} (hn : a1 ≠ a) (hn2 : a2 ≠ a) : xup (xup (xup (xup h a e) a1 e1) a2 e2) a e' = xup (xup (xup h a e') a1 e1) a2 e2 := by rw [xup_sw hn2, xup_in hn]
section XI
variable {p : Program} {l : Launch} {e : Env} {R : Room} {s : State} {m : MethodId} {args : Array Value} {below : List Frame} {meth : Method} {c : Code} {D : XD} {b nL cells slots : Nat} {Q : State → Prop} {n : Nat} {h : XH} {pc : Nat} {lv : List (Option Value)} {st : List Value}
theorem xhp {h' : XH} (hh : h = h') (k : xV p l e R s m args below meth c D b nL cells slots Q n h' pc lv st) : xV p l e R s m args below meth c D b nL cells slots Q n h pc lv st := by rw [hh]; exact k
theorem xnat {n' : Nat} (hh : n = n') (k : xV p l e R s m args below meth c D b nL cells slots Q n' h pc lv st) : xV p l e R s m args below meth c D b nL cells slots Q n h pc lv st := by rw [hh]; exact k
end XI
set_option maxRecDepth 100000 in
set_option maxHeartbeats 4000000 in
theorem c_X5_init (l : Launch) (D : XD) (b : Nat) {h : XH} {o : Nat} (h1 : kd o = 5) : xM l yX5_init cX5_init 1 none 1 20 1 5 D b (b + (o + 1)) [.ref (b + o)] (xup h (b + o) (.inr (5, [.null]))) (b + (o + 2)) (fun v h' => v = none ∧ h' = hf D b h o 2) := by
  refine xM.of (lv := [some (.ref (b + o))]) (by decide +kernel) rfl (List.forall_mem_cons.mpr ⟨rfl, fun _ h => absurd h List.not_mem_nil⟩) (Nat.le_of_ble_eq_true rfl) rfl ?_
  intro p e s m args below meth c hC hr hnm
  refine xi_aload_n hC dX5_init_0 (pc' := 1) rfl rfl rfl ?_
  refine xi_objInit hC dX5_init_1 (pc' := 4) rfl xw_m_X5_3 ⟨Nat.le_of_ble_eq_true rfl, Nat.le_of_ble_eq_true rfl⟩ ?_
  refine xi_aload_n hC dX5_init_4 (pc' := 5) rfl rfl rfl ?_
  refine xi_iconst (v := nI 5) hC dX5_init_5 (pc' := 6) rfl (by decide +kernel) ?_
  refine xi_newarray (N := 5) (t0 := 0) (cA := D.2 0) (a0 := .inl (fun _ => 0)) hC dX5_init_6 (pc' := 8) rfl rfl xw_ac_int rfl (fun _ _ => rfl) rfl rfl (by decide) (by decide) ⟨Nat.le_of_ble_eq_true rfl, Nat.le_of_ble_eq_true rfl⟩ ?_
  refine xhp (hf_1 (o := o + 1) (xsh_a0 (N := 5) (by decide) (kd_oNum h1))) ?_
  refine xi_putfinal (T := TX5) (i := 0) (ty := tyX5 0) tyX5 hC dX5_init_8 (pc' := 11) rfl xw_f_X5_9 xw_lay_X5 tyX5_ok nmX5 rfl (by decide) ((hf_n (by omega)).trans xup_s) rfl hnm rfl (tyX5_ok 0 (by decide)) rfl rfl (Nat.le_of_ble_eq_true rfl) ?_
  refine xhp ((hf_up (by omega)).trans (congrArg (fun z => hf D b z (o + 1) 1) xup_up)) ?_
  refine xi_return hC dX5_init_11 hr rfl ⟨rfl, hf_fin (xsh_5 h1)⟩
set_option maxRecDepth 100000 in
set_option maxHeartbeats 4000000 in
theorem c_X4_init (l : Launch) (D : XD) (b : Nat) {h : XH} : xM l yX4_init cX4_init 1 none 1 20 1 60 D b (b + (oScr + 1)) [.ref (b + oScr)] (xup h (b + oScr) (.inr (4, [.null, .int 0]))) (b + (oScr + 2)) (fun v h' => v = none ∧ h' = hf D b h oScr 2) := by
  refine xM.of (lv := [some (.ref (b + oScr))]) (by decide +kernel) rfl (List.forall_mem_cons.mpr ⟨rfl, fun _ h => absurd h List.not_mem_nil⟩) (Nat.le_of_ble_eq_true rfl) rfl ?_
  intro p e s m args below meth c hC hr hnm
  refine xi_aload_n hC dX4_init_0 (pc' := 1) rfl rfl rfl ?_
  refine xi_objInit hC dX4_init_1 (pc' := 4) rfl xw_m_X4_3 ⟨Nat.le_of_ble_eq_true rfl, Nat.le_of_ble_eq_true rfl⟩ ?_
  refine xi_aload_n hC dX4_init_4 (pc' := 5) rfl rfl rfl ?_
  refine xi_bipush (v := nI 60) hC dX4_init_5 (pc' := 7) rfl (by decide +kernel) ?_
  refine xi_newarray (N := 60) (t0 := 0) (cA := D.2 0) (a0 := .inl (fun _ => 0)) hC dX4_init_7 (pc' := 9) rfl rfl xw_ac_int rfl (fun _ _ => rfl) rfl rfl (by decide) (by decide) ⟨Nat.le_of_ble_eq_true rfl, Nat.le_of_ble_eq_true rfl⟩ ?_
  refine xhp (hf_1 (o := oScr + 1) (xsh_a0 (N := 60) (by decide) kd_oSgn)) ?_
  refine xi_putfinal (T := TX4) (i := 0) (ty := tyX4 0) tyX4 hC dX4_init_9 (pc' := 12) rfl xw_f_X4_9 xw_lay_X4 tyX4_ok nmX4 rfl (by decide) ((hf_n (by simp only [oScr]; omega)).trans xup_s) rfl hnm rfl (tyX4_ok 0 (by decide)) rfl rfl (Nat.le_of_ble_eq_true rfl) ?_
  refine xhp ((hf_up (by omega)).trans (congrArg (fun z => hf D b z (oScr + 1) 1) xup_up)) ?_
  refine xi_return hC dX4_init_12 hr rfl ⟨rfl, hf_fin (xsh_4 kd_oScr)⟩
set_option maxRecDepth 100000 in
set_option maxHeartbeats 4000000 in
theorem c_X3_init (l : Launch) (D : XD) (b : Nat) {h : XH} {o : Nat} (h1 : kd o = 3) : xM l yX3_init cX3_init 1 none 2 40 4 12 D b (b + (o + 1)) [.ref (b + o)] (xup h (b + o) (.inr (3, [.null, .null, .int 0, .int 0]))) (b + (o + 5)) (fun v h' => v = none ∧ h' = hf D b h o 5) := by
  refine xM.of (lv := [some (.ref (b + o))]) (by decide +kernel) rfl (List.forall_mem_cons.mpr ⟨rfl, fun _ h => absurd h List.not_mem_nil⟩) (Nat.le_of_ble_eq_true rfl) rfl ?_
  intro p e s m args below meth c hC hr hnm
  refine xi_aload_n hC dX3_init_0 (pc' := 1) rfl rfl rfl ?_
  refine xi_objInit hC dX3_init_1 (pc' := 4) rfl xw_m_X3_1 ⟨Nat.le_of_ble_eq_true rfl, Nat.le_of_ble_eq_true rfl⟩ ?_
  refine xi_aload_n hC dX3_init_4 (pc' := 5) rfl rfl rfl ?_
  refine xi_new (C := RX5) (T := TX5) (ci := 5) (N := 1) (fs := [.null]) tyX5 hC dX3_init_5 (pc' := 8) rfl xw_k_X3_7 xw_new_X5 xw_ini_X5 xw_lay_X5 tyX5_ok rfl (by decide) ⟨Nat.le_of_ble_eq_true rfl, Nat.le_of_ble_eq_true rfl⟩ ?_
  refine xi_dup hC dX3_init_8 (pc' := 9) rfl rfl ?_
  refine xi_callIN (As := []) (rest := [.ref (b + (o + 1)), .ref (b + o)]) (c_X5_init l D b (h := (xup h (b + o) (.inr (3, [.null, .null, .int 0, .int 0])))) (o := o + 1) (kd_oFst h1)) hC dX3_init_9 (pc' := 12) rfl hC.2.1.2.X3_9 xw_c_X5_init xw_ins_X5_init xw_ini_X5 rfl xd_X5_init ⟨Nat.le_of_ble_eq_true rfl, Nat.le_of_ble_eq_true rfl⟩ rfl (Nat.le_of_ble_eq_true rfl) ⟨Nat.le_of_ble_eq_true rfl, Nat.le_of_ble_eq_true rfl⟩ ?_
  rintro _ _ ⟨rfl, rfl⟩
  show xV _ _ _ _ _ _ _ _ _ _ _ _ _ _ _ _ _ _ _ _ [.ref (b + (o + 1)), .ref (b + o)]
  refine xnat (n' := b + (o + 3)) rfl ?_
  refine xi_putfinal (T := TX3) (i := 0) (ty := tyX3 0) tyX3 hC dX3_init_12 (pc' := 15) rfl xw_f_X3_10 xw_lay_X3 tyX3_ok nmX3 rfl (by decide) ((hf_n (by omega)).trans xup_s) rfl hnm rfl (tyX3_ok 0 (by decide)) rfl rfl (Nat.le_of_ble_eq_true rfl) ?_
  refine xhp (h' := (hf D b (xup h (b + o) (.inr (3, [.ref (b + (o + 1)), .null, .int 0, .int 0]))) (o + 1) 2)) ((hf_up (by omega)).trans (congrArg (fun z => hf D b z (o + 1) 2) xup_up)) ?_
  refine xi_aload_n hC dX3_init_15 (pc' := 16) rfl rfl rfl ?_
  refine xi_new (C := RX5) (T := TX5) (ci := 5) (N := 1) (fs := [.null]) tyX5 hC dX3_init_16 (pc' := 19) rfl xw_k_X3_7 xw_new_X5 xw_ini_X5 xw_lay_X5 tyX5_ok rfl (by decide) ⟨Nat.le_of_ble_eq_true rfl, Nat.le_of_ble_eq_true rfl⟩ ?_
  refine xi_dup hC dX3_init_19 (pc' := 20) rfl rfl ?_
  refine xi_callIN (As := []) (rest := [.ref (b + (o + 3)), .ref (b + o)]) (c_X5_init l D b (h := (hf D b (xup h (b + o) (.inr (3, [.ref (b + (o + 1)), .null, .int 0, .int 0]))) (o + 1) 2)) (o := o + 3) (kd_oSnd h1)) hC dX3_init_20 (pc' := 23) rfl hC.2.1.2.X3_9 xw_c_X5_init xw_ins_X5_init xw_ini_X5 rfl xd_X5_init ⟨Nat.le_of_ble_eq_true rfl, Nat.le_of_ble_eq_true rfl⟩ rfl (Nat.le_of_ble_eq_true rfl) ⟨Nat.le_of_ble_eq_true rfl, Nat.le_of_ble_eq_true rfl⟩ ?_
  rintro _ _ ⟨rfl, rfl⟩
  show xV _ _ _ _ _ _ _ _ _ _ _ _ _ _ _ _ _ _ _ _ [.ref (b + (o + 3)), .ref (b + o)]
  refine xhp (h' := (hf D b (xup h (b + o) (.inr (3, [.ref (b + (o + 1)), .null, .int 0, .int 0]))) (o + 1) 4)) (hf_hf (o := o + 1)) ?_
  refine xnat (n' := b + (o + 5)) rfl ?_
  refine xi_putfinal (T := TX3) (i := 1) (ty := tyX3 1) tyX3 hC dX3_init_23 (pc' := 26) rfl xw_f_X3_16 xw_lay_X3 tyX3_ok nmX3 rfl (by decide) ((hf_n (by omega)).trans xup_s) rfl hnm rfl (tyX3_ok 1 (by decide)) rfl rfl (Nat.le_of_ble_eq_true rfl) ?_
  refine xhp (h' := (hf D b (xup h (b + o) (.inr (3, [.ref (b + (o + 1)), .ref (b + (o + 3)), .int 0, .int 0]))) (o + 1) 4)) ((hf_up (by omega)).trans (congrArg (fun z => hf D b z (o + 1) 4) xup_up)) ?_
  refine xi_return hC dX3_init_26 hr rfl ⟨rfl, hf_fin (xsh_3 h1)⟩
set_option maxRecDepth 100000 in
set_option maxHeartbeats 4000000 in
theorem c_X0_init (l : Launch) (D : XD) (b : Nat) {h : XH} {o : Nat} (h1 : kd o = 0) : xM l yX0_init cX0_init 2 none 2 40 9 28 D b (b + (o + 1)) [.ref (b + o)] (xup h (b + o) (.inr (0, [.null, .int 0]))) (b + (o + 10)) (fun v h' => v = none ∧ h' = hf D b h o 10) := by
  refine xM.of (lv := [some (.ref (b + o)), none]) (by decide +kernel) rfl (List.forall_mem_cons.mpr ⟨rfl, fun _ h => absurd h List.not_mem_nil⟩) (Nat.le_of_ble_eq_true rfl) rfl ?_
  intro p e s m args below meth c hC hr hnm
  refine xi_aload_n hC dX0_init_0 (pc' := 1) rfl rfl rfl ?_
  refine xi_objInit hC dX0_init_1 (pc' := 4) rfl xw_m_X0_3 ⟨Nat.le_of_ble_eq_true rfl, Nat.le_of_ble_eq_true rfl⟩ ?_
  refine xi_aload_n hC dX0_init_4 (pc' := 5) rfl rfl rfl ?_
  refine xi_iconst (v := nI 4) hC dX0_init_5 (pc' := 6) rfl (by decide +kernel) ?_
  refine xi_anewarray (C := RX5) (N := 4) (t0 := 6) (cA := D.2 6) hC dX0_init_6 (pc' := 9) rfl xw_k_X0_9 hC.2.1.2.ao_X5 rfl rfl (by decide) (by decide) ⟨Nat.le_of_ble_eq_true rfl, Nat.le_of_ble_eq_true rfl⟩ ?_
  refine xhp (congrArg (xup (xup h (b + o) (.inr (0, [.null, .int 0]))) (b + (o + 1))) (rfA_0 (f := fun j => b + oLet (o + 1) j))) ?_
  refine xi_putfinal (T := TX0) (i := 0) (ty := tyX0 0) tyX0 hC dX0_init_9 (pc' := 12) rfl xw_f_X0_11 xw_lay_X0 tyX0_ok nmX0 rfl (by decide) ((xup_n (by omega)).trans xup_s) rfl hnm rfl (tyX0_ok 0 (by decide)) rfl rfl (Nat.le_of_ble_eq_true rfl) ?_
  refine xhp (h' := (hf D b (xup (xup h (b + o) (.inr (0, [.ref (b + (o + 1)), .int 0]))) (b + (o + 1)) (rfA (D.2 6) 4 0 (fun j => b + oLet (o + 1) j))) (o + 2) (2 * 0))) ((xup_in (by omega)).trans hf_0.symm) ?_
  refine xi_iconst (v := nI 0) hC dX0_init_12 (pc' := 13) rfl (by decide +kernel) ?_
  refine xi_istore_n (lv' := [some (.ref (b + o)), some (.int (nI 0))]) hC dX0_init_13 (pc' := 14) rfl rfl (by decide) rfl ?_
  have L : ∀ (d : Nat) (i : Nat), 4 - i < d → i ≤ 4 → xV p l e (xR 2 40 9 28) s m args below meth c D b 2 (1 + 2 * i) (4 + 6 * i) (MQ below (xQ D b (b + (o + 10)) (fun v h' => v = none ∧ h' = hf D b h o 10)) args s 9 28 (fun q => b ≤ q)) (b + (o + 2 + (2 * i))) (hf D b (xup (xup h (b + o) (.inr (0, [.ref (b + (o + 1)), .int 0]))) (b + (o + 1)) (rfA (D.2 6) 4 i (fun j => b + oLet (o + 1) j))) (o + 2) (2 * i)) 14 [some (.ref (b + o)), some (.int (nI i))] [] := by
    intro d
    induction d with
    | zero => exact fun i h => absurd h (Nat.not_lt_zero _)
    | succ d ih =>
      intro i hd hi
      refine xi_iload_n hC dX0_init_14 (pc' := 15) rfl rfl rfl ?_
      refine xi_iconst (v := nI 4) hC dX0_init_15 (pc' := 16) rfl (by decide +kernel) ?_
      refine xn_icmpge (tgt := 38) hC dX0_init_16 (pc' := 19) rfl (by decide) (by omega) (by omega) (fun zc => ?_) (fun zc => ?_)
      · obtain rfl : i = 4 := by omega
        refine xi_return hC dX0_init_38 hr rfl ⟨rfl, ?_⟩
        exact (hf_fin (o := o + 1) (xsh_27 (kd_oLts h1))).trans (hf_fin (xsh_0 h1))
      · skip
        refine xi_aload_n hC dX0_init_19 (pc' := 20) rfl rfl rfl ?_
        refine xi_getfield (T := TX0) (i := 0) (v := .ref (b + (o + 1))) hC dX0_init_20 (pc' := 23) rfl xw_f_X0_11 xw_lay_X0 rfl (by decide) ((hf_n (by omega)).trans ((xup_n (by omega)).trans xup_s)) rfl ?_
        refine xi_iload_n hC dX0_init_23 (pc' := 24) rfl rfl rfl ?_
        refine xi_new (C := RX5) (T := TX5) (ci := 5) (N := 1) (fs := [.null]) tyX5 hC dX0_init_24 (pc' := 27) rfl xw_k_X0_9 xw_new_X5 xw_ini_X5 xw_lay_X5 tyX5_ok rfl (by decide) ⟨by show _ ≤ (_ : Nat); simp only [xR]; omega, by show _ ≤ (_ : Nat); simp only [xR]; omega⟩ ?_
        refine xi_dup hC dX0_init_27 (pc' := 28) rfl rfl ?_
        refine xi_callIN (As := []) (rest := [.ref (b + (o + 2 + (2 * i))), .int (nI i), .ref (b + (o + 1))]) (c_X5_init l D b (h := (hf D b (xup (xup h (b + o) (.inr (0, [.ref (b + (o + 1)), .int 0]))) (b + (o + 1)) (rfA (D.2 6) 4 i (fun j => b + oLet (o + 1) j))) (o + 2) (2 * i))) (o := (o + 2 + (2 * i))) (kd_oLet (kd_oLts h1) (show i < 4 by omega))) hC dX0_init_28 (pc' := 31) rfl hC.2.1.2.X0_17 xw_c_X5_init xw_ins_X5_init xw_ini_X5 rfl xd_X5_init ⟨Nat.le_of_ble_eq_true rfl, Nat.le_of_ble_eq_true rfl⟩ rfl (Nat.le_of_ble_eq_true rfl) ⟨by show _ ≤ (_ : Nat); simp only [xR]; omega, by show _ ≤ (_ : Nat); simp only [xR]; omega⟩ ?_
        rintro _ _ ⟨rfl, rfl⟩
        show xV _ _ _ _ _ _ _ _ _ _ _ _ _ _ _ _ _ _ _ _ [.ref (b + (o + 2 + (2 * i))), .int (nI i), .ref (b + (o + 1))]
        refine xhp (h' := (hf D b (xup (xup h (b + o) (.inr (0, [.ref (b + (o + 1)), .int 0]))) (b + (o + 1)) (rfA (D.2 6) 4 i (fun j => b + oLet (o + 1) j))) (o + 2) (2 * (i + 1)))) (hf_hf (o := o + 2)) ?_
        refine xi_aastore (C := RX5) (T := TX5) (N := 4) (j := i) (t0 := 6) (ci := 5) (cA := D.2 6) hC dX0_init_31 (pc' := 32) rfl ((hf_n (by omega)).trans xup_s) rfl ((hf_i (by omega) (by omega)).trans (xsh_5 (kd_oLet (kd_oLts h1) (show i < 4 by omega)))) rfl rfl (by omega) (by decide) ?_
        refine xhp (h' := (hf D b (xup (xup h (b + o) (.inr (0, [.ref (b + (o + 1)), .int 0]))) (b + (o + 1)) (rfA (D.2 6) 4 (i + 1) (fun j => b + oLet (o + 1) j))) (o + 2) (2 * (i + 1)))) ((hf_up (by omega)).trans (congrArg (fun z => hf D b z (o + 2) (2 * (i + 1))) (xup_up.trans (congrArg (xup (xup h (b + o) (.inr (0, [.ref (b + (o + 1)), .int 0]))) (b + (o + 1))) rfA_s)))) ?_
        refine xn_iinc (lv' := [some (.ref (b + o)), some (.int (nI (i + 1)))]) hC dX0_init_32 (pc' := 35) rfl rfl (by decide) rfl ?_
        refine xi_goto (tgt := 14) hC dX0_init_35 (by decide) ?_
        exact ih (i + 1) (by omega) (by omega)
  exact L 5 0 (by decide) (by decide)
set_option maxRecDepth 100000 in
set_option maxHeartbeats 4000000 in
theorem c_X2_init (l : Launch) (D : XD) (b : Nat) {h : XH} {o : Nat} (h1 : kd o = 2) : xM l yX2_init cX2_init 1 none 3 61 19 58 D b (b + (o + 1)) [.ref (b + o)] (xup h (b + o) (.inr (2, [.null, .null, .null, .null, .int 0, .int 0, .int 0, .int 0, .int 0, .int 0, .int 0]))) (b + (o + 20)) (fun v h' => v = none ∧ h' = hf D b h o 20) := by
  refine xM.of (lv := [some (.ref (b + o))]) (by decide +kernel) rfl (List.forall_mem_cons.mpr ⟨rfl, fun _ h => absurd h List.not_mem_nil⟩) (Nat.le_of_ble_eq_true rfl) rfl ?_
  intro p e s m args below meth c hC hr hnm
  refine xi_aload_n hC dX2_init_0 (pc' := 1) rfl rfl rfl ?_
  refine xi_objInit hC dX2_init_1 (pc' := 4) rfl xw_m_X2_3 ⟨Nat.le_of_ble_eq_true rfl, Nat.le_of_ble_eq_true rfl⟩ ?_
  refine xi_aload_n hC dX2_init_4 (pc' := 5) rfl rfl rfl ?_
  refine xi_new (C := RX5) (T := TX5) (ci := 5) (N := 1) (fs := [.null]) tyX5 hC dX2_init_5 (pc' := 8) rfl xw_k_X2_9 xw_new_X5 xw_ini_X5 xw_lay_X5 tyX5_ok rfl (by decide) ⟨Nat.le_of_ble_eq_true rfl, Nat.le_of_ble_eq_true rfl⟩ ?_
  refine xi_dup hC dX2_init_8 (pc' := 9) rfl rfl ?_
  refine xi_callIN (As := []) (rest := [.ref (b + (o + 1)), .ref (b + o)]) (c_X5_init l D b (h := (xup h (b + o) (.inr (2, [.null, .null, .null, .null, .int 0, .int 0, .int 0, .int 0, .int 0, .int 0, .int 0])))) (o := o + 1) (kd_oSig h1)) hC dX2_init_9 (pc' := 12) rfl hC.2.1.2.X2_11 xw_c_X5_init xw_ins_X5_init xw_ini_X5 rfl xd_X5_init ⟨Nat.le_of_ble_eq_true rfl, Nat.le_of_ble_eq_true rfl⟩ rfl (Nat.le_of_ble_eq_true rfl) ⟨Nat.le_of_ble_eq_true rfl, Nat.le_of_ble_eq_true rfl⟩ ?_
  rintro _ _ ⟨rfl, rfl⟩
  show xV _ _ _ _ _ _ _ _ _ _ _ _ _ _ _ _ _ _ _ _ [.ref (b + (o + 1)), .ref (b + o)]
  refine xnat (n' := b + (o + 3)) rfl ?_
  refine xi_putfinal (T := TX2) (i := 0) (ty := tyX2 0) tyX2 hC dX2_init_12 (pc' := 15) rfl xw_f_X2_12 xw_lay_X2 tyX2_ok nmX2 rfl (by decide) ((hf_n (by omega)).trans xup_s) rfl hnm rfl (tyX2_ok 0 (by decide)) rfl rfl (Nat.le_of_ble_eq_true rfl) ?_
  refine xhp (h' := (hf D b (xup h (b + o) (.inr (2, [.ref (b + (o + 1)), .null, .null, .null, .int 0, .int 0, .int 0, .int 0, .int 0, .int 0, .int 0]))) (o + 1) 2)) ((hf_up (by omega)).trans (congrArg (fun z => hf D b z (o + 1) 2) xup_up)) ?_
  refine xi_aload_n hC dX2_init_15 (pc' := 16) rfl rfl rfl ?_
  refine xi_new (C := RX5) (T := TX5) (ci := 5) (N := 1) (fs := [.null]) tyX5 hC dX2_init_16 (pc' := 19) rfl xw_k_X2_9 xw_new_X5 xw_ini_X5 xw_lay_X5 tyX5_ok rfl (by decide) ⟨Nat.le_of_ble_eq_true rfl, Nat.le_of_ble_eq_true rfl⟩ ?_
  refine xi_dup hC dX2_init_19 (pc' := 20) rfl rfl ?_
  refine xi_callIN (As := []) (rest := [.ref (b + (o + 3)), .ref (b + o)]) (c_X5_init l D b (h := (hf D b (xup h (b + o) (.inr (2, [.ref (b + (o + 1)), .null, .null, .null, .int 0, .int 0, .int 0, .int 0, .int 0, .int 0, .int 0]))) (o + 1) 2)) (o := o + 3) (kd_oKno h1)) hC dX2_init_20 (pc' := 23) rfl hC.2.1.2.X2_11 xw_c_X5_init xw_ins_X5_init xw_ini_X5 rfl xd_X5_init ⟨Nat.le_of_ble_eq_true rfl, Nat.le_of_ble_eq_true rfl⟩ rfl (Nat.le_of_ble_eq_true rfl) ⟨Nat.le_of_ble_eq_true rfl, Nat.le_of_ble_eq_true rfl⟩ ?_
  rintro _ _ ⟨rfl, rfl⟩
  show xV _ _ _ _ _ _ _ _ _ _ _ _ _ _ _ _ _ _ _ _ [.ref (b + (o + 3)), .ref (b + o)]
  refine xhp (h' := (hf D b (xup h (b + o) (.inr (2, [.ref (b + (o + 1)), .null, .null, .null, .int 0, .int 0, .int 0, .int 0, .int 0, .int 0, .int 0]))) (o + 1) 4)) (hf_hf (o := o + 1)) ?_
  refine xnat (n' := b + (o + 5)) rfl ?_
  refine xi_putfinal (T := TX2) (i := 1) (ty := tyX2 1) tyX2 hC dX2_init_23 (pc' := 26) rfl xw_f_X2_18 xw_lay_X2 tyX2_ok nmX2 rfl (by decide) ((hf_n (by omega)).trans xup_s) rfl hnm rfl (tyX2_ok 1 (by decide)) rfl rfl (Nat.le_of_ble_eq_true rfl) ?_
  refine xhp (h' := (hf D b (xup h (b + o) (.inr (2, [.ref (b + (o + 1)), .ref (b + (o + 3)), .null, .null, .int 0, .int 0, .int 0, .int 0, .int 0, .int 0, .int 0]))) (o + 1) 4)) ((hf_up (by omega)).trans (congrArg (fun z => hf D b z (o + 1) 4) xup_up)) ?_
  refine xi_aload_n hC dX2_init_26 (pc' := 27) rfl rfl rfl ?_
  refine xi_new (C := RX3) (T := TX3) (ci := 3) (N := 4) (fs := [.null, .null, .int 0, .int 0]) tyX3 hC dX2_init_27 (pc' := 30) rfl xw_k_X2_21 xw_new_X3 xw_ini_X3 xw_lay_X3 tyX3_ok rfl (by decide) ⟨Nat.le_of_ble_eq_true rfl, Nat.le_of_ble_eq_true rfl⟩ ?_
  refine xi_dup hC dX2_init_30 (pc' := 31) rfl rfl ?_
  refine xi_callIN (As := []) (rest := [.ref (b + (o + 5)), .ref (b + o)]) (c_X3_init l D b (h := (hf D b (xup h (b + o) (.inr (2, [.ref (b + (o + 1)), .ref (b + (o + 3)), .null, .null, .int 0, .int 0, .int 0, .int 0, .int 0, .int 0, .int 0]))) (o + 1) 4)) (o := o + 5) (kd_oPro h1)) hC dX2_init_31 (pc' := 34) rfl hC.2.1.2.X2_23 xw_c_X3_init xw_ins_X3_init xw_ini_X3 rfl xd_X3_init ⟨Nat.le_of_ble_eq_true rfl, Nat.le_of_ble_eq_true rfl⟩ rfl (Nat.le_of_ble_eq_true rfl) ⟨Nat.le_of_ble_eq_true rfl, Nat.le_of_ble_eq_true rfl⟩ ?_
  rintro _ _ ⟨rfl, rfl⟩
  show xV _ _ _ _ _ _ _ _ _ _ _ _ _ _ _ _ _ _ _ _ [.ref (b + (o + 5)), .ref (b + o)]
  refine xhp (h' := (hf D b (xup h (b + o) (.inr (2, [.ref (b + (o + 1)), .ref (b + (o + 3)), .null, .null, .int 0, .int 0, .int 0, .int 0, .int 0, .int 0, .int 0]))) (o + 1) 9)) (hf_hf (o := o + 1)) ?_
  refine xnat (n' := b + (o + 10)) rfl ?_
  refine xi_putfinal (T := TX2) (i := 2) (ty := tyX2 2) tyX2 hC dX2_init_34 (pc' := 37) rfl xw_f_X2_24 xw_lay_X2 tyX2_ok nmX2 rfl (by decide) ((hf_n (by omega)).trans xup_s) rfl hnm rfl (tyX2_ok 2 (by decide)) rfl rfl (Nat.le_of_ble_eq_true rfl) ?_
  refine xhp (h' := (hf D b (xup h (b + o) (.inr (2, [.ref (b + (o + 1)), .ref (b + (o + 3)), .ref (b + (o + 5)), .null, .int 0, .int 0, .int 0, .int 0, .int 0, .int 0, .int 0]))) (o + 1) 9)) ((hf_up (by omega)).trans (congrArg (fun z => hf D b z (o + 1) 9) xup_up)) ?_
  refine xi_aload_n hC dX2_init_37 (pc' := 38) rfl rfl rfl ?_
  refine xi_new (C := RX0) (T := TX0) (ci := 0) (N := 2) (fs := [.null, .int 0]) tyX0 hC dX2_init_38 (pc' := 41) rfl xw_k_X2_28 xw_new_X0 xw_ini_X0 xw_lay_X0 tyX0_ok rfl (by decide) ⟨Nat.le_of_ble_eq_true rfl, Nat.le_of_ble_eq_true rfl⟩ ?_
  refine xi_dup hC dX2_init_41 (pc' := 42) rfl rfl ?_
  refine xi_callI (As := []) (rest := [.ref (b + (o + 10)), .ref (b + o)]) (c_X0_init l D b (h := (hf D b (xup h (b + o) (.inr (2, [.ref (b + (o + 1)), .ref (b + (o + 3)), .ref (b + (o + 5)), .null, .int 0, .int 0, .int 0, .int 0, .int 0, .int 0, .int 0]))) (o + 1) 9)) (o := o + 10) (kd_oBox h1)) hC dX2_init_42 (pc' := 45) rfl xw_m_X2_30 xw_c_X0_init xw_ins_X0_init xw_ini_X0 rfl xd_X0_init ⟨Nat.le_of_ble_eq_true rfl, Nat.le_of_ble_eq_true rfl⟩ rfl (Nat.le_of_ble_eq_true rfl) ⟨Nat.le_of_ble_eq_true rfl, Nat.le_of_ble_eq_true rfl⟩ ?_
  rintro _ _ ⟨rfl, rfl⟩
  show xV _ _ _ _ _ _ _ _ _ _ _ _ _ _ _ _ _ _ _ _ [.ref (b + (o + 10)), .ref (b + o)]
  refine xhp (h' := (hf D b (xup h (b + o) (.inr (2, [.ref (b + (o + 1)), .ref (b + (o + 3)), .ref (b + (o + 5)), .null, .int 0, .int 0, .int 0, .int 0, .int 0, .int 0, .int 0]))) (o + 1) 19)) (hf_hf (o := o + 1)) ?_
  refine xnat (n' := b + (o + 20)) rfl ?_
  refine xi_putfinal (T := TX2) (i := 3) (ty := tyX2 3) tyX2 hC dX2_init_45 (pc' := 48) rfl xw_f_X2_31 xw_lay_X2 tyX2_ok nmX2 rfl (by decide) ((hf_n (by omega)).trans xup_s) rfl hnm rfl (tyX2_ok 3 (by decide)) rfl rfl (Nat.le_of_ble_eq_true rfl) ?_
  refine xhp (h' := (hf D b (xup h (b + o) (.inr (2, [.ref (b + (o + 1)), .ref (b + (o + 3)), .ref (b + (o + 5)), .ref (b + (o + 10)), .int 0, .int 0, .int 0, .int 0, .int 0, .int 0, .int 0]))) (o + 1) 19)) ((hf_up (by omega)).trans (congrArg (fun z => hf D b z (o + 1) 19) xup_up)) ?_
  refine xi_return hC dX2_init_48 hr rfl ⟨rfl, hf_fin (xsh_2 h1)⟩
set_option maxRecDepth 100000 in
set_option maxHeartbeats 4000000 in
theorem c_X1_init (l : Launch) (D : XD) (b : Nat) {h : XH} {o : Nat} (h1 : kd o = 1) : xM l yX1_init cX1_init 2 none 2 40 12 40 D b (b + (o + 1)) [.ref (b + o)] (xup h (b + o) (.inr (1, [.null, .null]))) (b + (o + 13)) (fun v h' => v = none ∧ h' = hf D b h o 13) := by
  refine xM.of (lv := [some (.ref (b + o)), none]) (by decide +kernel) rfl (List.forall_mem_cons.mpr ⟨rfl, fun _ h => absurd h List.not_mem_nil⟩) (Nat.le_of_ble_eq_true rfl) rfl ?_
  intro p e s m args below meth c hC hr hnm
  refine xi_aload_n hC dX1_init_0 (pc' := 1) rfl rfl rfl ?_
  refine xi_objInit hC dX1_init_1 (pc' := 4) rfl xw_m_X1_3 ⟨Nat.le_of_ble_eq_true rfl, Nat.le_of_ble_eq_true rfl⟩ ?_
  refine xi_aload_n hC dX1_init_4 (pc' := 5) rfl rfl rfl ?_
  refine xi_iconst (v := nI 5) hC dX1_init_5 (pc' := 6) rfl (by decide +kernel) ?_
  refine xi_anewarray (C := RX5) (N := 5) (t0 := 6) (cA := D.2 6) hC dX1_init_6 (pc' := 9) rfl xw_k_X1_9 hC.2.1.2.ao_X5 rfl rfl (by decide) (by decide) ⟨Nat.le_of_ble_eq_true rfl, Nat.le_of_ble_eq_true rfl⟩ ?_
  refine xhp (congrArg (xup (xup h (b + o) (.inr (1, [.null, .null]))) (b + (o + 1))) (rfA_0 (f := fun j => b + oVec (o + 1) j))) ?_
  refine xi_putfinal (T := TX1) (i := 0) (ty := tyX1 0) tyX1 hC dX1_init_9 (pc' := 12) rfl xw_f_X1_11 xw_lay_X1 tyX1_ok nmX1 rfl (by decide) ((xup_n (by omega)).trans xup_s) rfl hnm rfl (tyX1_ok 0 (by decide)) rfl rfl (Nat.le_of_ble_eq_true rfl) ?_
  refine xhp (h' := (xup (xup h (b + o) (.inr (1, [.ref (b + (o + 1)), .null]))) (b + (o + 1)) (rfA (D.2 6) 5 0 (fun j => b + oVec (o + 1) j)))) (xup_in (by omega)) ?_
  refine xi_aload_n hC dX1_init_12 (pc' := 13) rfl rfl rfl ?_
  refine xi_iconst (v := nI 5) hC dX1_init_13 (pc' := 14) rfl (by decide +kernel) ?_
  refine xi_newarray (N := 5) (t0 := 0) (cA := D.2 0) (a0 := .inl (fun _ => 0)) hC dX1_init_14 (pc' := 16) rfl rfl xw_ac_int rfl (fun _ _ => rfl) rfl rfl (by decide) (by decide) ⟨Nat.le_of_ble_eq_true rfl, Nat.le_of_ble_eq_true rfl⟩ ?_
  refine xi_putfinal (T := TX1) (i := 1) (ty := tyX1 1) tyX1 hC dX1_init_16 (pc' := 19) rfl xw_f_X1_17 xw_lay_X1 tyX1_ok nmX1 rfl (by decide) ((xup_n (by omega)).trans ((xup_n (by omega)).trans xup_s)) rfl hnm rfl (tyX1_ok 1 (by decide)) rfl rfl (Nat.le_of_ble_eq_true rfl) ?_
  refine xhp (h' := (hf D b (xup (xup (xup h (b + o) (.inr (1, [.ref (b + (o + 1)), .ref (b + (o + 2))]))) (b + (o + 1)) (rfA (D.2 6) 5 0 (fun j => b + oVec (o + 1) j))) (b + (o + 2)) (.inl (D.2 0, 5, .inl (fun _ => 0)))) (o + 3) (2 * 0))) ((xup_in2 (by omega) (by omega)).trans hf_0.symm) ?_
  refine xi_iconst (v := nI 0) hC dX1_init_19 (pc' := 20) rfl (by decide +kernel) ?_
  refine xi_istore_n (lv' := [some (.ref (b + o)), some (.int (nI 0))]) hC dX1_init_20 (pc' := 21) rfl rfl (by decide) rfl ?_
  have L : ∀ (d : Nat) (i : Nat), 5 - i < d → i ≤ 5 → xV p l e (xR 2 40 12 40) s m args below meth c D b 2 (2 + 2 * i) (10 + 6 * i) (MQ below (xQ D b (b + (o + 13)) (fun v h' => v = none ∧ h' = hf D b h o 13)) args s 12 40 (fun q => b ≤ q)) (b + (o + 3 + (2 * i))) (hf D b (xup (xup (xup h (b + o) (.inr (1, [.ref (b + (o + 1)), .ref (b + (o + 2))]))) (b + (o + 1)) (rfA (D.2 6) 5 i (fun j => b + oVec (o + 1) j))) (b + (o + 2)) (.inl (D.2 0, 5, .inl (fun _ => 0)))) (o + 3) (2 * i)) 21 [some (.ref (b + o)), some (.int (nI i))] [] := by
    intro d
    induction d with
    | zero => exact fun i h => absurd h (Nat.not_lt_zero _)
    | succ d ih =>
      intro i hd hi
      refine xi_iload_n hC dX1_init_21 (pc' := 22) rfl rfl rfl ?_
      refine xi_iconst (v := nI 5) hC dX1_init_22 (pc' := 23) rfl (by decide +kernel) ?_
      refine xn_icmpge (tgt := 45) hC dX1_init_23 (pc' := 26) rfl (by decide) (by omega) (by omega) (fun zc => ?_) (fun zc => ?_)
      · obtain rfl : i = 5 := by omega
        refine xi_return hC dX1_init_45 hr rfl ⟨rfl, ?_⟩
        exact ((hf_fin (o := o + 2) (xsh_a0 (N := 5) (by decide) (kd_oCon h1))).trans (hf_fin (o := o + 1) (xsh_26 (kd_oVs h1)))).trans (hf_fin (xsh_1 h1))
      · skip
        refine xi_aload_n hC dX1_init_26 (pc' := 27) rfl rfl rfl ?_
        refine xi_getfield (T := TX1) (i := 0) (v := .ref (b + (o + 1))) hC dX1_init_27 (pc' := 30) rfl xw_f_X1_11 xw_lay_X1 rfl (by decide) ((hf_n (by omega)).trans ((xup_n (by omega)).trans ((xup_n (by omega)).trans xup_s))) rfl ?_
        refine xi_iload_n hC dX1_init_30 (pc' := 31) rfl rfl rfl ?_
        refine xi_new (C := RX5) (T := TX5) (ci := 5) (N := 1) (fs := [.null]) tyX5 hC dX1_init_31 (pc' := 34) rfl xw_k_X1_9 xw_new_X5 xw_ini_X5 xw_lay_X5 tyX5_ok rfl (by decide) ⟨by show _ ≤ (_ : Nat); simp only [xR]; omega, by show _ ≤ (_ : Nat); simp only [xR]; omega⟩ ?_
        refine xi_dup hC dX1_init_34 (pc' := 35) rfl rfl ?_
        refine xi_callIN (As := []) (rest := [.ref (b + (o + 3 + (2 * i))), .int (nI i), .ref (b + (o + 1))]) (c_X5_init l D b (h := (hf D b (xup (xup (xup h (b + o) (.inr (1, [.ref (b + (o + 1)), .ref (b + (o + 2))]))) (b + (o + 1)) (rfA (D.2 6) 5 i (fun j => b + oVec (o + 1) j))) (b + (o + 2)) (.inl (D.2 0, 5, .inl (fun _ => 0)))) (o + 3) (2 * i))) (o := (o + 3 + (2 * i))) (kd_oVec (kd_oVs h1) (show i < 5 by omega))) hC dX1_init_35 (pc' := 38) rfl hC.2.1.2.X1_21 xw_c_X5_init xw_ins_X5_init xw_ini_X5 rfl xd_X5_init ⟨Nat.le_of_ble_eq_true rfl, Nat.le_of_ble_eq_true rfl⟩ rfl (Nat.le_of_ble_eq_true rfl) ⟨by show _ ≤ (_ : Nat); simp only [xR]; omega, by show _ ≤ (_ : Nat); simp only [xR]; omega⟩ ?_
        rintro _ _ ⟨rfl, rfl⟩
        show xV _ _ _ _ _ _ _ _ _ _ _ _ _ _ _ _ _ _ _ _ [.ref (b + (o + 3 + (2 * i))), .int (nI i), .ref (b + (o + 1))]
        refine xhp (h' := (hf D b (xup (xup (xup h (b + o) (.inr (1, [.ref (b + (o + 1)), .ref (b + (o + 2))]))) (b + (o + 1)) (rfA (D.2 6) 5 i (fun j => b + oVec (o + 1) j))) (b + (o + 2)) (.inl (D.2 0, 5, .inl (fun _ => 0)))) (o + 3) (2 * (i + 1)))) (hf_hf (o := o + 3)) ?_
        refine xi_aastore (C := RX5) (T := TX5) (N := 5) (j := i) (t0 := 6) (ci := 5) (cA := D.2 6) hC dX1_init_38 (pc' := 39) rfl ((hf_n (by omega)).trans ((xup_n (by omega)).trans xup_s)) rfl ((hf_i (by omega) (by omega)).trans (xsh_5 (kd_oVec (kd_oVs h1) (show i < 5 by omega)))) rfl rfl (by omega) (by decide) ?_
        refine xhp (h' := (hf D b (xup (xup (xup h (b + o) (.inr (1, [.ref (b + (o + 1)), .ref (b + (o + 2))]))) (b + (o + 1)) (rfA (D.2 6) 5 (i + 1) (fun j => b + oVec (o + 1) j))) (b + (o + 2)) (.inl (D.2 0, 5, .inl (fun _ => 0)))) (o + 3) (2 * (i + 1)))) ((hf_up (by omega)).trans (congrArg (fun z => hf D b z (o + 3) (2 * (i + 1))) ((xup_in (by omega)).trans (congrArg (fun z => xup (xup (xup h (b + o) (.inr (1, [.ref (b + (o + 1)), .ref (b + (o + 2))]))) (b + (o + 1)) z) (b + (o + 2)) (.inl (D.2 0, 5, .inl (fun _ => 0)))) rfA_s)))) ?_
        refine xn_iinc (lv' := [some (.ref (b + o)), some (.int (nI (i + 1)))]) hC dX1_init_39 (pc' := 42) rfl rfl (by decide) rfl ?_
        refine xi_goto (tgt := 21) hC dX1_init_42 (by decide) ?_
        exact ih (i + 1) (by omega) (by omega)
  exact L 6 0 (by decide) (by decide)
set_option maxRecDepth 100000 in
set_option maxHeartbeats 4000000 in
theorem c_X6_init (l : Launch) (D : XD) (b : Nat) {h : XH} {o : Nat} (h1 : kd o = 6) : xM l yX6_init cX6_init 2 none 3 61 79 257 D b (b + (o + 1)) [.ref (b + o)] (xup h (b + o) (.inr (6, [.null, .null, .int 0, .int 0]))) (b + (o + 80)) (fun v h' => v = none ∧ h' = hf D b h o 80) := by
  refine xM.of (lv := [some (.ref (b + o)), none]) (by decide +kernel) rfl (List.forall_mem_cons.mpr ⟨rfl, fun _ h => absurd h List.not_mem_nil⟩) (Nat.le_of_ble_eq_true rfl) rfl ?_
  intro p e s m args below meth c hC hr hnm
  refine xi_aload_n hC dX6_init_0 (pc' := 1) rfl rfl rfl ?_
  refine xi_objInit hC dX6_init_1 (pc' := 4) rfl xw_m_X6_3 ⟨Nat.le_of_ble_eq_true rfl, Nat.le_of_ble_eq_true rfl⟩ ?_
  refine xi_aload_n hC dX6_init_4 (pc' := 5) rfl rfl rfl ?_
  refine xi_new (C := RX1) (T := TX1) (ci := 1) (N := 2) (fs := [.null, .null]) tyX1 hC dX6_init_5 (pc' := 8) rfl xw_k_X6_9 xw_new_X1 xw_ini_X1 xw_lay_X1 tyX1_ok rfl (by decide) ⟨Nat.le_of_ble_eq_true rfl, Nat.le_of_ble_eq_true rfl⟩ ?_
  refine xi_dup hC dX6_init_8 (pc' := 9) rfl rfl ?_
  refine xi_callI (As := []) (rest := [.ref (b + (o + 1)), .ref (b + o)]) (c_X1_init l D b (h := (xup h (b + o) (.inr (6, [.null, .null, .int 0, .int 0])))) (o := o + 1) (kd_oEnt h1)) hC dX6_init_9 (pc' := 12) rfl xw_m_X6_11 xw_c_X1_init xw_ins_X1_init xw_ini_X1 rfl xd_X1_init ⟨Nat.le_of_ble_eq_true rfl, Nat.le_of_ble_eq_true rfl⟩ rfl (Nat.le_of_ble_eq_true rfl) ⟨Nat.le_of_ble_eq_true rfl, Nat.le_of_ble_eq_true rfl⟩ ?_
  rintro _ _ ⟨rfl, rfl⟩
  show xV _ _ _ _ _ _ _ _ _ _ _ _ _ _ _ _ _ _ _ _ [.ref (b + (o + 1)), .ref (b + o)]
  refine xnat (n' := b + (o + 14)) rfl ?_
  refine xi_putfinal (T := TX6) (i := 0) (ty := tyX6 0) tyX6 hC dX6_init_12 (pc' := 15) rfl xw_f_X6_12 xw_lay_X6 tyX6_ok nmX6 rfl (by decide) ((hf_n (by omega)).trans xup_s) rfl hnm rfl (tyX6_ok 0 (by decide)) rfl rfl (Nat.le_of_ble_eq_true rfl) ?_
  refine xhp (h' := (hf D b (xup h (b + o) (.inr (6, [.ref (b + (o + 1)), .null, .int 0, .int 0]))) (o + 1) 13)) ((hf_up (by omega)).trans (congrArg (fun z => hf D b z (o + 1) 13) xup_up)) ?_
  refine xi_aload_n hC dX6_init_15 (pc' := 16) rfl rfl rfl ?_
  refine xi_iconst (v := nI 5) hC dX6_init_16 (pc' := 17) rfl (by decide +kernel) ?_
  refine xi_anewarray (C := RX1) (N := 5) (t0 := 5) (cA := D.2 5) hC dX6_init_17 (pc' := 20) rfl xw_k_X6_9 hC.2.1.2.ao_X1 rfl rfl (by decide) (by decide) ⟨Nat.le_of_ble_eq_true rfl, Nat.le_of_ble_eq_true rfl⟩ ?_
  refine xhp (congrArg (xup (hf D b (xup h (b + o) (.inr (6, [.ref (b + (o + 1)), .null, .int 0, .int 0]))) (o + 1) 13) (b + (o + 14))) (rfA_0 (f := fun j => b + oBk (o + 14) j))) ?_
  refine xi_putfinal (T := TX6) (i := 1) (ty := tyX6 1) tyX6 hC dX6_init_20 (pc' := 23) rfl xw_f_X6_18 xw_lay_X6 tyX6_ok nmX6 rfl (by decide) ((xup_n (by omega)).trans ((hf_n (by omega)).trans xup_s)) rfl hnm rfl (tyX6_ok 1 (by decide)) rfl rfl (Nat.le_of_ble_eq_true rfl) ?_
  refine xhp (h' := (hf D b (xup (hf D b (xup h (b + o) (.inr (6, [.ref (b + (o + 1)), .ref (b + (o + 14)), .int 0, .int 0]))) (o + 1) 13) (b + (o + 14)) (rfA (D.2 5) 5 0 (fun j => b + oBk (o + 14) j))) (o + 15) (13 * 0))) (((xup_sw (by omega)).trans (congrArg (fun z => xup z (b + (o + 14)) (rfA (D.2 5) 5 0 (fun j => b + oBk (o + 14) j))) ((hf_up (by omega)).trans (congrArg (fun z => hf D b z (o + 1) 13) xup_up)))).trans hf_0.symm) ?_
  refine xi_iconst (v := nI 0) hC dX6_init_23 (pc' := 24) rfl (by decide +kernel) ?_
  refine xi_istore_n (lv' := [some (.ref (b + o)), some (.int (nI 0))]) hC dX6_init_24 (pc' := 25) rfl rfl (by decide) rfl ?_
  have L : ∀ (d : Nat) (i : Nat), 5 - i < d → i ≤ 5 → xV p l e (xR 3 61 79 257) s m args below meth c D b 2 (14 + 13 * i) (47 + 42 * i) (MQ below (xQ D b (b + (o + 80)) (fun v h' => v = none ∧ h' = hf D b h o 80)) args s 79 257 (fun q => b ≤ q)) (b + (o + 15 + (13 * i))) (hf D b (xup (hf D b (xup h (b + o) (.inr (6, [.ref (b + (o + 1)), .ref (b + (o + 14)), .int 0, .int 0]))) (o + 1) 13) (b + (o + 14)) (rfA (D.2 5) 5 i (fun j => b + oBk (o + 14) j))) (o + 15) (13 * i)) 25 [some (.ref (b + o)), some (.int (nI i))] [] := by
    intro d
    induction d with
    | zero => exact fun i h => absurd h (Nat.not_lt_zero _)
    | succ d ih =>
      intro i hd hi
      refine xi_iload_n hC dX6_init_25 (pc' := 26) rfl rfl rfl ?_
      refine xi_iconst (v := nI 5) hC dX6_init_26 (pc' := 27) rfl (by decide +kernel) ?_
      refine xn_icmpge (tgt := 49) hC dX6_init_27 (pc' := 30) rfl (by decide) (by omega) (by omega) (fun zc => ?_) (fun zc => ?_)
      · obtain rfl : i = 5 := by omega
        refine xi_return hC dX6_init_49 hr rfl ⟨rfl, ?_⟩
        exact ((hf_fin (o := o + 14) (xsh_25 (kd_oBef h1))).trans (hf_hf (o := o + 1) (l1 := 13) (l2 := 66))).trans (hf_fin (xsh_6 h1))
      · skip
        refine xi_aload_n hC dX6_init_30 (pc' := 31) rfl rfl rfl ?_
        refine xi_getfield (T := TX6) (i := 1) (v := .ref (b + (o + 14))) hC dX6_init_31 (pc' := 34) rfl xw_f_X6_18 xw_lay_X6 rfl (by decide) ((hf_n (by omega)).trans ((xup_n (by omega)).trans ((hf_n (by omega)).trans xup_s))) rfl ?_
        refine xi_iload_n hC dX6_init_34 (pc' := 35) rfl rfl rfl ?_
        refine xi_new (C := RX1) (T := TX1) (ci := 1) (N := 2) (fs := [.null, .null]) tyX1 hC dX6_init_35 (pc' := 38) rfl xw_k_X6_9 xw_new_X1 xw_ini_X1 xw_lay_X1 tyX1_ok rfl (by decide) ⟨by show _ ≤ (_ : Nat); simp only [xR]; omega, by show _ ≤ (_ : Nat); simp only [xR]; omega⟩ ?_
        refine xi_dup hC dX6_init_38 (pc' := 39) rfl rfl ?_
        refine xi_callI (As := []) (rest := [.ref (b + (o + 15 + (13 * i))), .int (nI i), .ref (b + (o + 14))]) (c_X1_init l D b (h := (hf D b (xup (hf D b (xup h (b + o) (.inr (6, [.ref (b + (o + 1)), .ref (b + (o + 14)), .int 0, .int 0]))) (o + 1) 13) (b + (o + 14)) (rfA (D.2 5) 5 i (fun j => b + oBk (o + 14) j))) (o + 15) (13 * i))) (o := (o + 15 + (13 * i))) (kd_oBk (kd_oBef h1) (show i < 5 by omega))) hC dX6_init_39 (pc' := 42) rfl xw_m_X6_11 xw_c_X1_init xw_ins_X1_init xw_ini_X1 rfl xd_X1_init ⟨Nat.le_of_ble_eq_true rfl, Nat.le_of_ble_eq_true rfl⟩ rfl (Nat.le_of_ble_eq_true rfl) ⟨by show _ ≤ (_ : Nat); simp only [xR]; omega, by show _ ≤ (_ : Nat); simp only [xR]; omega⟩ ?_
        rintro _ _ ⟨rfl, rfl⟩
        show xV _ _ _ _ _ _ _ _ _ _ _ _ _ _ _ _ _ _ _ _ [.ref (b + (o + 15 + (13 * i))), .int (nI i), .ref (b + (o + 14))]
        refine xhp (h' := (hf D b (xup (hf D b (xup h (b + o) (.inr (6, [.ref (b + (o + 1)), .ref (b + (o + 14)), .int 0, .int 0]))) (o + 1) 13) (b + (o + 14)) (rfA (D.2 5) 5 i (fun j => b + oBk (o + 14) j))) (o + 15) (13 * (i + 1)))) (hf_hf (o := o + 15)) ?_
        refine xi_aastore (C := RX1) (T := TX1) (N := 5) (j := i) (t0 := 5) (ci := 1) (cA := D.2 5) hC dX6_init_42 (pc' := 43) rfl ((hf_n (by omega)).trans xup_s) rfl ((hf_i (by omega) (by omega)).trans (xsh_1 (kd_oBk (kd_oBef h1) (show i < 5 by omega)))) rfl rfl (by omega) (by decide) ?_
        refine xhp (h' := (hf D b (xup (hf D b (xup h (b + o) (.inr (6, [.ref (b + (o + 1)), .ref (b + (o + 14)), .int 0, .int 0]))) (o + 1) 13) (b + (o + 14)) (rfA (D.2 5) 5 (i + 1) (fun j => b + oBk (o + 14) j))) (o + 15) (13 * (i + 1)))) ((hf_up (by omega)).trans (congrArg (fun z => hf D b z (o + 15) (13 * (i + 1))) (xup_up.trans (congrArg (xup (hf D b (xup h (b + o) (.inr (6, [.ref (b + (o + 1)), .ref (b + (o + 14)), .int 0, .int 0]))) (o + 1) 13) (b + (o + 14))) rfA_s)))) ?_
        refine xn_iinc (lv' := [some (.ref (b + o)), some (.int (nI (i + 1)))]) hC dX6_init_43 (pc' := 46) rfl rfl (by decide) rfl ?_
        refine xi_goto (tgt := 25) hC dX6_init_46 (by decide) ?_
        exact ih (i + 1) (by omega) (by omega)
  exact L 6 0 (by decide) (by decide)
