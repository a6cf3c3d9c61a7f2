theorem kd_at2 {i : Nat} (h : i < 5) : kd (3 + (2 + 20 * i)) = 2 := by rw [show 3 + (2 + 20 * i) = oMem i by unfold oMem; omega]; exact kd_oMem h
theorem kd_at6 {i : Nat} (h : i < 6) : kd (3 + (102 + 80 * i)) = 6 := by rw [show 3 + (102 + 80 * i) = oVw i by unfold oVw; omega]; exact kd_oVw h
theorem MM_s {D : XD} {b i : Nat} : (.inl (D.2 3, 5, .inr (.inr (.inr (.inr (va_up (fun j => if j < i then some (b + oMem j) else none) i (some (b + (3 + (2 + 20 * i)))))))))  : va_E) = rfA (D.2 3) 5 (i + 1) (fun j => b + oMem j) := by
  rw [show 3 + (2 + 20 * i) = oMem i by unfold oMem; omega]; exact rfA_s (f := fun j => b + oMem j)
theorem VV_s {D : XD} {b i : Nat} : (.inl (D.2 4, 6, .inr (.inr (.inr (.inr (va_up (fun j => if j < i then some (b + oVw j) else none) i (some (b + (3 + (102 + 80 * i)))))))))  : va_E) = rfA (D.2 4) 6 (i + 1) (fun j => b + oVw j) := by
  rw [show 3 + (102 + 80 * i) = oVw i by unfold oVw; omega]; exact rfA_s (f := fun j => b + oVw j)
set_option maxRecDepth 100000 in
set_option maxHeartbeats 4000000 in
theorem c_X7_init (l : Launch) (D : XD) (b : Nat) {h : XH} : xM l yX7_init cX7_init 2 none 4 82 584 1984 D b (b + 1) [.ref (b + 0)] (xup h (b + 0) (.inr (7, [.null, .null, .null, .int 0, .int 0]))) (b + 585) (fun v h' => v = none ∧ h' = hf D b (xup h (b + 0) (.inr (7, [.ref (b + 1), .ref (b + 2), .ref (b + 3), .int (nI 3), .int (nI 1)]))) 1 584) := by
  refine xM.of (lv := [some (.ref (b + 0)), none]) (by decide +kernel) rfl (List.forall_mem_cons.mpr ⟨rfl, fun _ h => absurd h List.not_mem_nil⟩) (Nat.le_of_ble_eq_true rfl) rfl ?_
  intro p e s m args below meth c hC hr hnm
  refine xi_aload_n hC dX7_init_0 (pc' := 1) rfl rfl rfl ?_
  refine xi_objInit hC dX7_init_1 (pc' := 4) rfl xw_m_X7_1 ⟨Nat.le_of_ble_eq_true rfl, Nat.le_of_ble_eq_true rfl⟩ ?_
  refine xi_aload_n hC dX7_init_4 (pc' := 5) rfl rfl rfl ?_
  refine xi_iconst (v := nI 5) hC dX7_init_5 (pc' := 6) rfl (by decide +kernel) ?_
  refine xi_anewarray (C := RX2) (N := 5) (t0 := 3) (cA := D.2 3) hC dX7_init_6 (pc' := 9) rfl xw_k_X7_9 hC.2.1.2.ao_X2 rfl rfl (by decide) (by decide) ⟨Nat.le_of_ble_eq_true rfl, Nat.le_of_ble_eq_true rfl⟩ ?_
  refine xhp (congrArg (xup (xup h (b + 0) (.inr (7, [.null, .null, .null, .int 0, .int 0]))) (b + 1)) (rfA_0 (f := fun j => b + oMem j))) ?_
  refine xi_putfinal (T := TX7) (i := 0) (ty := tyX7 0) tyX7 hC dX7_init_9 (pc' := 12) rfl xw_f_X7_11 xw_lay_X7 tyX7_ok nmX7 rfl (by decide) ((xup_n (by omega)).trans xup_s) rfl hnm rfl (tyX7_ok 0 (by decide)) rfl rfl (Nat.le_of_ble_eq_true rfl) ?_
  refine xhp (h' := (xup (xup h (b + 0) (.inr (7, [.ref (b + 1), .null, .null, .int 0, .int 0]))) (b + 1) (rfA (D.2 3) 5 0 (fun j => b + oMem j)))) (xup_in (by omega)) ?_
  refine xi_aload_n hC dX7_init_12 (pc' := 13) rfl rfl rfl ?_
  refine xi_bipush (v := nI 6) hC dX7_init_13 (pc' := 15) rfl (by decide +kernel) ?_
  refine xi_anewarray (C := RX6) (N := 6) (t0 := 4) (cA := D.2 4) hC dX7_init_15 (pc' := 18) rfl xw_k_X7_15 hC.2.1.2.ao_X6 rfl rfl (by decide) (by decide) ⟨Nat.le_of_ble_eq_true rfl, Nat.le_of_ble_eq_true rfl⟩ ?_
  refine xhp (congrArg (xup (xup (xup h (b + 0) (.inr (7, [.ref (b + 1), .null, .null, .int 0, .int 0]))) (b + 1) (rfA (D.2 3) 5 0 (fun j => b + oMem j))) (b + 2)) (rfA_0 (f := fun j => b + oVw j))) ?_
  refine xi_putfinal (T := TX7) (i := 1) (ty := tyX7 1) tyX7 hC dX7_init_18 (pc' := 21) rfl xw_f_X7_17 xw_lay_X7 tyX7_ok nmX7 rfl (by decide) ((xup_n (by omega)).trans ((xup_n (by omega)).trans xup_s)) rfl hnm rfl (tyX7_ok 1 (by decide)) rfl rfl (Nat.le_of_ble_eq_true rfl) ?_
  refine xhp (h' := (xup (xup (xup h (b + 0) (.inr (7, [.ref (b + 1), .ref (b + 2), .null, .int 0, .int 0]))) (b + 1) (rfA (D.2 3) 5 0 (fun j => b + oMem j))) (b + 2) (rfA (D.2 4) 6 0 (fun j => b + oVw j)))) (xup_in2 (by omega) (by omega)) ?_
  refine xi_aload_n hC dX7_init_21 (pc' := 22) rfl rfl rfl ?_
  refine xi_new (C := RX4) (T := TX4) (ci := 4) (N := 2) (fs := [.null, .int 0]) tyX4 hC dX7_init_22 (pc' := 25) rfl xw_k_X7_21 xw_new_X4 xw_ini_X4 xw_lay_X4 tyX4_ok rfl (by decide) ⟨Nat.le_of_ble_eq_true rfl, Nat.le_of_ble_eq_true rfl⟩ ?_
  refine xi_dup hC dX7_init_25 (pc' := 26) rfl rfl ?_
  refine xi_callIN (As := []) (rest := [.ref (b + 3), .ref (b + 0)]) (c_X4_init l D b (h := (xup (xup (xup h (b + 0) (.inr (7, [.ref (b + 1), .ref (b + 2), .null, .int 0, .int 0]))) (b + 1) (rfA (D.2 3) 5 0 (fun j => b + oMem j))) (b + 2) (rfA (D.2 4) 6 0 (fun j => b + oVw j))))) hC dX7_init_26 (pc' := 29) rfl hC.2.1.2.X7_23 xw_c_X4_init xw_ins_X4_init xw_ini_X4 rfl xd_X4_init ⟨Nat.le_of_ble_eq_true rfl, Nat.le_of_ble_eq_true rfl⟩ rfl (Nat.le_of_ble_eq_true rfl) ⟨Nat.le_of_ble_eq_true rfl, Nat.le_of_ble_eq_true rfl⟩ ?_
  rintro _ _ ⟨rfl, rfl⟩
  show xV _ _ _ _ _ _ _ _ _ _ _ _ _ _ _ _ _ _ _ _ [.ref (b + 3), .ref (b + 0)]
  refine xnat (n' := b + 5) rfl ?_
  refine xi_putfinal (T := TX7) (i := 2) (ty := tyX7 2) tyX7 hC dX7_init_29 (pc' := 32) rfl xw_f_X7_24 xw_lay_X7 tyX7_ok nmX7 rfl (by decide) ((hf_n (by simp only [oScr]; omega)).trans ((xup_n (by omega)).trans ((xup_n (by omega)).trans xup_s))) rfl hnm rfl (tyX7_ok 2 (by decide)) rfl rfl (Nat.le_of_ble_eq_true rfl) ?_
  refine xhp (h' := (hf D b (xup (xup (xup h (b + 0) (.inr (7, [.ref (b + 1), .ref (b + 2), .ref (b + 3), .int 0, .int 0]))) (b + 1) (rfA (D.2 3) 5 0 (fun j => b + oMem j))) (b + 2) (rfA (D.2 4) 6 0 (fun j => b + oVw j))) oScr 2)) ((hf_up (by simp only [oScr]; omega)).trans (congrArg (fun z => hf D b z oScr 2) (xup_in2 (by omega) (by omega)))) ?_
  refine xi_aload_n hC dX7_init_32 (pc' := 33) rfl rfl rfl ?_
  refine xi_iconst (v := nI 3) hC dX7_init_33 (pc' := 34) rfl (by decide +kernel) ?_
  refine xi_putfield (T := TX7) (i := 3) (ty := tyX7 3) tyX7 hC dX7_init_34 (pc' := 37) rfl xw_f_X7_28 xw_lay_X7 tyX7_ok nmX7 rfl (by decide) ((hf_n (by simp only [oScr]; omega)).trans ((xup_n (by omega)).trans ((xup_n (by omega)).trans xup_s))) rfl (tyX7_ok 3 (by decide)) rfl rfl (Nat.le_of_ble_eq_true rfl) ?_
  refine xhp (h' := (hf D b (xup (xup (xup h (b + 0) (.inr (7, [.ref (b + 1), .ref (b + 2), .ref (b + 3), .int (nI 3), .int 0]))) (b + 1) (rfA (D.2 3) 5 0 (fun j => b + oMem j))) (b + 2) (rfA (D.2 4) 6 0 (fun j => b + oVw j))) oScr 2)) ((hf_up (by simp only [oScr]; omega)).trans (congrArg (fun z => hf D b z oScr 2) (xup_in2 (by omega) (by omega)))) ?_
  refine xi_aload_n hC dX7_init_37 (pc' := 38) rfl rfl rfl ?_
  refine xi_iconst (v := nI 1) hC dX7_init_38 (pc' := 39) rfl (by decide +kernel) ?_
  refine xi_putfield (T := TX7) (i := 4) (ty := tyX7 4) tyX7 hC dX7_init_39 (pc' := 42) rfl xw_f_X7_32 xw_lay_X7 tyX7_ok nmX7 rfl (by decide) ((hf_n (by simp only [oScr]; omega)).trans ((xup_n (by omega)).trans ((xup_n (by omega)).trans xup_s))) rfl (tyX7_ok 4 (by decide)) rfl rfl (Nat.le_of_ble_eq_true rfl) ?_
  refine xhp (h' := (hf D b (xup (xup (xup h (b + 0) (.inr (7, [.ref (b + 1), .ref (b + 2), .ref (b + 3), .int (nI 3), .int (nI 1)]))) (b + 1) (rfA (D.2 3) 5 0 (fun j => b + oMem j))) (b + 2) (rfA (D.2 4) 6 0 (fun j => b + oVw j))) oScr 2)) ((hf_up (by simp only [oScr]; omega)).trans (congrArg (fun z => hf D b z oScr 2) (xup_in2 (by omega) (by omega)))) ?_
  refine xi_iconst (v := nI 0) hC dX7_init_42 (pc' := 43) rfl (by decide +kernel) ?_
  refine xi_istore_n (lv' := [some (.ref (b + 0)), some (.int (nI 0))]) hC dX7_init_43 (pc' := 44) rfl rfl (by decide) rfl ?_
  have L2 : ∀ (d : Nat) (i : Nat), 6 - i < d → i ≤ 6 → xV p l e (xR 4 82 584 1984) s m args below meth c D b 2 (104 + 80 * i) (418 + 261 * i) (MQ below (xQ D b (b + 585) (fun v h' => v = none ∧ h' = hf D b (xup h (b + 0) (.inr (7, [.ref (b + 1), .ref (b + 2), .ref (b + 3), .int (nI 3), .int (nI 1)]))) 1 584)) args s 584 1984 (fun q => b ≤ q)) (b + (3 + (102 + 80 * i))) (hf D b (xup (xup (xup h (b + 0) (.inr (7, [.ref (b + 1), .ref (b + 2), .ref (b + 3), .int (nI 3), .int (nI 1)]))) (b + 1) (rfA (D.2 3) 5 5 (fun j => b + oMem j))) (b + 2) (rfA (D.2 4) 6 i (fun j => b + oVw j))) (3) (102 + 80 * i)) 70 [some (.ref (b + 0)), some (.int (nI i))] [] := by
    intro d
    induction d with
    | zero => exact fun i h => absurd h (Nat.not_lt_zero _)
    | succ d ih =>
      intro i hd hi
      refine xi_iload_n hC dX7_init_70 (pc' := 71) rfl rfl rfl ?_
      refine xi_bipush (v := nI 6) hC dX7_init_71 (pc' := 73) rfl (by decide +kernel) ?_
      refine xn_icmpge (tgt := 95) hC dX7_init_73 (pc' := 76) rfl (by decide) (by omega) (by omega) (fun zc => ?_) (fun zc => ?_)
      · obtain rfl : i = 6 := by omega
        refine xi_return hC dX7_init_95 hr rfl ⟨rfl, ?_⟩
        exact (hf_fin (o := 2) (xsh_24 kd_oVws)).trans (hf_fin (o := 1) (xsh_23 kd_oMs))
      · skip
        refine xi_aload_n hC dX7_init_76 (pc' := 77) rfl rfl rfl ?_
        refine xi_getfield (T := TX7) (i := 1) (v := .ref (b + 2)) hC dX7_init_77 (pc' := 80) rfl xw_f_X7_17 xw_lay_X7 rfl (by decide) ((hf_n (by omega)).trans ((xup_n (by omega)).trans ((xup_n (by omega)).trans xup_s))) rfl ?_
        refine xi_iload_n hC dX7_init_80 (pc' := 81) rfl rfl rfl ?_
        refine xi_new (C := RX6) (T := TX6) (ci := 6) (N := 4) (fs := [.null, .null, .int 0, .int 0]) tyX6 hC dX7_init_81 (pc' := 84) rfl xw_k_X7_15 xw_new_X6 xw_ini_X6 xw_lay_X6 tyX6_ok rfl (by decide) ⟨by show _ ≤ (_ : Nat); simp only [xR]; omega, by show _ ≤ (_ : Nat); simp only [xR]; omega⟩ ?_
        refine xi_dup hC dX7_init_84 (pc' := 85) rfl rfl ?_
        refine xi_callI (As := []) (rest := [.ref (b + (3 + (102 + 80 * i))), .int (nI i), .ref (b + 2)]) (c_X6_init l D b (h := (hf D b (xup (xup (xup h (b + 0) (.inr (7, [.ref (b + 1), .ref (b + 2), .ref (b + 3), .int (nI 3), .int (nI 1)]))) (b + 1) (rfA (D.2 3) 5 5 (fun j => b + oMem j))) (b + 2) (rfA (D.2 4) 6 i (fun j => b + oVw j))) (3) (102 + 80 * i))) (o := (3 + (102 + 80 * i))) (kd_at6 (show i < 6 by omega))) hC dX7_init_85 (pc' := 88) rfl xw_m_X7_36 xw_c_X6_init xw_ins_X6_init xw_ini_X6 rfl xd_X6_init ⟨Nat.le_of_ble_eq_true rfl, Nat.le_of_ble_eq_true rfl⟩ rfl (Nat.le_of_ble_eq_true rfl) ⟨by show _ ≤ (_ : Nat); simp only [xR]; omega, by show _ ≤ (_ : Nat); simp only [xR]; omega⟩ ?_
        rintro _ _ ⟨rfl, rfl⟩
        show xV _ _ _ _ _ _ _ _ _ _ _ _ _ _ _ _ _ _ _ _ [.ref (b + (3 + (102 + 80 * i))), .int (nI i), .ref (b + 2)]
        refine xhp (h' := (hf D b (xup (xup (xup h (b + 0) (.inr (7, [.ref (b + 1), .ref (b + 2), .ref (b + 3), .int (nI 3), .int (nI 1)]))) (b + 1) (rfA (D.2 3) 5 5 (fun j => b + oMem j))) (b + 2) (rfA (D.2 4) 6 i (fun j => b + oVw j))) (3) (102 + 80 * (i + 1)))) (hf_hf (o := 3)) ?_
        refine xi_aastore (C := RX6) (T := TX6) (N := 6) (j := i) (t0 := 4) (ci := 6) (cA := D.2 4) hC dX7_init_88 (pc' := 89) rfl ((hf_n (by omega)).trans xup_s) rfl ((hf_i (by omega) (by omega)).trans (xsh_6 (kd_at6 (show i < 6 by omega)))) rfl rfl (by omega) (by decide) ?_
        refine xhp (h' := (hf D b (xup (xup (xup h (b + 0) (.inr (7, [.ref (b + 1), .ref (b + 2), .ref (b + 3), .int (nI 3), .int (nI 1)]))) (b + 1) (rfA (D.2 3) 5 5 (fun j => b + oMem j))) (b + 2) (rfA (D.2 4) 6 (i + 1) (fun j => b + oVw j))) (3) (102 + 80 * (i + 1)))) ((hf_up (by omega)).trans (congrArg (fun z => hf D b z 3 (102 + 80 * (i + 1))) (xup_up.trans (congrArg (xup (xup (xup h (b + 0) (.inr (7, [.ref (b + 1), .ref (b + 2), .ref (b + 3), .int (nI 3), .int (nI 1)]))) (b + 1) (rfA (D.2 3) 5 5 (fun j => b + oMem j))) (b + 2)) (VV_s))))) ?_
        refine xn_iinc (lv' := [some (.ref (b + 0)), some (.int (nI (i + 1)))]) hC dX7_init_89 (pc' := 92) rfl rfl (by decide) rfl ?_
        refine xi_goto (tgt := 70) hC dX7_init_92 (by decide) ?_
        exact ih (i + 1) (by omega) (by omega)
  have L : ∀ (d : Nat) (i : Nat), 5 - i < d → i ≤ 5 → xV p l e (xR 4 82 584 1984) s m args below meth c D b 2 (4 + 20 * i) (73 + 69 * i) (MQ below (xQ D b (b + 585) (fun v h' => v = none ∧ h' = hf D b (xup h (b + 0) (.inr (7, [.ref (b + 1), .ref (b + 2), .ref (b + 3), .int (nI 3), .int (nI 1)]))) 1 584)) args s 584 1984 (fun q => b ≤ q)) (b + (3 + (2 + 20 * i))) (hf D b (xup (xup (xup h (b + 0) (.inr (7, [.ref (b + 1), .ref (b + 2), .ref (b + 3), .int (nI 3), .int (nI 1)]))) (b + 1) (rfA (D.2 3) 5 i (fun j => b + oMem j))) (b + 2) (rfA (D.2 4) 6 0 (fun j => b + oVw j))) (3) (2 + 20 * i)) 44 [some (.ref (b + 0)), some (.int (nI i))] [] := by
    intro d
    induction d with
    | zero => exact fun i h => absurd h (Nat.not_lt_zero _)
    | succ d ih =>
      intro i hd hi
      refine xi_iload_n hC dX7_init_44 (pc' := 45) rfl rfl rfl ?_
      refine xi_iconst (v := nI 5) hC dX7_init_45 (pc' := 46) rfl (by decide +kernel) ?_
      refine xn_icmpge (tgt := 68) hC dX7_init_46 (pc' := 49) rfl (by decide) (by omega) (by omega) (fun zc => ?_) (fun zc => ?_)
      · obtain rfl : i = 5 := by omega
        refine xi_iconst (v := nI 0) hC dX7_init_68 (pc' := 69) rfl (by decide +kernel) ?_
        refine xi_istore_n (lv' := [some (.ref (b + 0)), some (.int (nI 0))]) hC dX7_init_69 (pc' := 70) rfl rfl (by decide) rfl ?_
        exact L2 7 0 (by decide) (by decide)
      · skip
        refine xi_aload_n hC dX7_init_49 (pc' := 50) rfl rfl rfl ?_
        refine xi_getfield (T := TX7) (i := 0) (v := .ref (b + 1)) hC dX7_init_50 (pc' := 53) rfl xw_f_X7_11 xw_lay_X7 rfl (by decide) ((hf_n (by omega)).trans ((xup_n (by omega)).trans ((xup_n (by omega)).trans xup_s))) rfl ?_
        refine xi_iload_n hC dX7_init_53 (pc' := 54) rfl rfl rfl ?_
        refine xi_new (C := RX2) (T := TX2) (ci := 2) (N := 11) (fs := [.null, .null, .null, .null, .int 0, .int 0, .int 0, .int 0, .int 0, .int 0, .int 0]) tyX2 hC dX7_init_54 (pc' := 57) rfl xw_k_X7_9 xw_new_X2 xw_ini_X2 xw_lay_X2 tyX2_ok rfl (by decide) ⟨by show _ ≤ (_ : Nat); simp only [xR]; omega, by show _ ≤ (_ : Nat); simp only [xR]; omega⟩ ?_
        refine xi_dup hC dX7_init_57 (pc' := 58) rfl rfl ?_
        refine xi_callIN (As := []) (rest := [.ref (b + (3 + (2 + 20 * i))), .int (nI i), .ref (b + 1)]) (c_X2_init l D b (h := (hf D b (xup (xup (xup h (b + 0) (.inr (7, [.ref (b + 1), .ref (b + 2), .ref (b + 3), .int (nI 3), .int (nI 1)]))) (b + 1) (rfA (D.2 3) 5 i (fun j => b + oMem j))) (b + 2) (rfA (D.2 4) 6 0 (fun j => b + oVw j))) (3) (2 + 20 * i))) (o := (3 + (2 + 20 * i))) (kd_at2 (show i < 5 by omega))) hC dX7_init_58 (pc' := 61) rfl hC.2.1.2.X7_35 xw_c_X2_init xw_ins_X2_init xw_ini_X2 rfl xd_X2_init ⟨Nat.le_of_ble_eq_true rfl, Nat.le_of_ble_eq_true rfl⟩ rfl (Nat.le_of_ble_eq_true rfl) ⟨by show _ ≤ (_ : Nat); simp only [xR]; omega, by show _ ≤ (_ : Nat); simp only [xR]; omega⟩ ?_
        rintro _ _ ⟨rfl, rfl⟩
        show xV _ _ _ _ _ _ _ _ _ _ _ _ _ _ _ _ _ _ _ _ [.ref (b + (3 + (2 + 20 * i))), .int (nI i), .ref (b + 1)]
        refine xhp (h' := (hf D b (xup (xup (xup h (b + 0) (.inr (7, [.ref (b + 1), .ref (b + 2), .ref (b + 3), .int (nI 3), .int (nI 1)]))) (b + 1) (rfA (D.2 3) 5 i (fun j => b + oMem j))) (b + 2) (rfA (D.2 4) 6 0 (fun j => b + oVw j))) (3) (2 + 20 * (i + 1)))) (hf_hf (o := 3)) ?_
        refine xi_aastore (C := RX2) (T := TX2) (N := 5) (j := i) (t0 := 3) (ci := 2) (cA := D.2 3) hC dX7_init_61 (pc' := 62) rfl ((hf_n (by omega)).trans ((xup_n (by omega)).trans xup_s)) rfl ((hf_i (by omega) (by omega)).trans (xsh_2 (kd_at2 (show i < 5 by omega)))) rfl rfl (by omega) (by decide) ?_
        refine xhp (h' := (hf D b (xup (xup (xup h (b + 0) (.inr (7, [.ref (b + 1), .ref (b + 2), .ref (b + 3), .int (nI 3), .int (nI 1)]))) (b + 1) (rfA (D.2 3) 5 (i + 1) (fun j => b + oMem j))) (b + 2) (rfA (D.2 4) 6 0 (fun j => b + oVw j))) (3) (2 + 20 * (i + 1)))) ((hf_up (by omega)).trans (congrArg (fun z => hf D b z 3 (2 + 20 * (i + 1))) ((xup_in (by omega)).trans (congrArg (fun z => xup (xup (xup h (b + 0) (.inr (7, [.ref (b + 1), .ref (b + 2), .ref (b + 3), .int (nI 3), .int (nI 1)]))) (b + 1) z) (b + 2) (rfA (D.2 4) 6 0 (fun j => b + oVw j))) (MM_s))))) ?_
        refine xn_iinc (lv' := [some (.ref (b + 0)), some (.int (nI (i + 1)))]) hC dX7_init_62 (pc' := 65) rfl rfl (by decide) rfl ?_
        refine xi_goto (tgt := 44) hC dX7_init_65 (by decide) ?_
        exact ih (i + 1) (by omega) (by omega)
  exact L 6 0 (by decide) (by decide)
