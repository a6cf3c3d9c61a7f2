/-! ===== p29: the law's end, its loop, its start ===== -/
theorem xi_lawret {p : Program} {l : Launch} {e : Env} {s : State} {m : MethodId} {below : List Frame} {meth : Method} {c : Code} {D : XD} {a b n pc cells slots : Nat} {h : XH} {lv : List (Option Value)} (hC : xC p s m #[Value.ref a] meth c D cL_law 16 R_law) (hr : meth.sig.returnType = ret) (hb : b = s.heap.size) (h1 : cells ≤ 696526) (h2 : slots ≤ 7012671) (hdg : decode cL_law pc = .ok (.ireturn, 1)) : xV p l e room_1 s m #[Value.ref a] below meth c D b 16 cells slots (lw_Z below #[Value.ref a] s) n h pc lv [.int (nI 1)] := by
  subst hb
  intro H locs ls q1 q2 q3
  exact va_forget q2.2.2 (W.widen h1 h2 (lw_ret hC.1.1 hC.1.2.1 hr hC.2.2 hdg))
set_option maxRecDepth 100000 in
set_option maxHeartbeats 8000000 in
theorem law_loop {p : Program} {l : Launch} {e : Env} {s : State} {m : MethodId} {below : List Frame} {meth : Method} {c : Code} {D : XD} {a b L : Nat} {xs : Nat → Int32} (hC : xC p s m #[Value.ref a] meth c D cL_law 16 R_law) (hX : va_X a L xs s s.heap) (hal : a < b) (hb : b = s.heap.size) (hL : L ≤ 260) (hr : meth.sig.returnType = ret) {σ T1 : XM} {u c0 s0 : Nat} {g0 : Int32} (hS1 : SI 0 T1 u 1) (hR1 : RR σ T1 u 1) (hJ1 : JJ 0 T1 u) (hc0 : c0 ≤ 585) (hs0 : s0 ≤ 1989) : xV p l e room_1 s m #[Value.ref a] below meth c D b 16 c0 s0 (lw_Z below #[Value.ref a] s) (b + 585) (xH D b σ) 57 [some (.ref a), some (.ref (b + 0)), some (.int g0), some (.int (nI u)), some (.int (nI 0)), none, none, none, none, none, none, none, none, none, none, none] [] := by
  have L57 : ∀ (d : Nat) (e9 : Nat) (τl : XM) (Tl : XM) (wl : Nat) (kl : Nat) (cl : Nat) (sl9 : Nat) (o5 : Option Value) (o6 : Option Value) (o7 : Option Value) (o8 : Option Value) (o9 : Option Value) (o10 : Option Value) (o11 : Option Value) (o12 : Option Value) (o13 : Option Value) (o14 : Option Value) (o15 : Option Value), 50 - e9 < d → (e9 ≤ 50) → (SI e9 Tl u wl) → (RR τl Tl u wl) → (JJ e9 Tl u) → (585 ≤ kl) → (cl ≤ 585 + 6 * e9) → (sl9 ≤ 1989 + 60 * e9) → xV p l e room_1 s m #[Value.ref a] below meth c D b 16 cl sl9 (lw_Z below #[Value.ref a] s) (b + kl) (xH D b τl) 57 [some (.ref a), some (.ref (b + 0)), some (.int g0), some (.int (nI u)), some (.int (nI e9)), o5, o6, o7, o8, o9, o10, o11, o12, o13, o14, o15] [] := by
    intro d
    induction d with
    | zero => intro e9 τl Tl wl kl cl sl9 o5 o6 o7 o8 o9 o10 o11 o12 o13 o14 o15 h; exact absurd h (Nat.not_lt_zero _)
    | succ d ih57 =>
      intro e9 τl Tl wl kl cl sl9 o5 o6 o7 o8 o9 o10 o11 o12 o13 o14 o15 hd57 he9 hSl hRl hJl hkl hcl hsl
      have hu := hSl.1.1.2
      have hw := hSl.1.2.1.2
      refine xi_iload hC dL_law_57 (pc' := 59) rfl rfl ?_
      refine xi_bipush (v := nI 50) hC dL_law_59 (pc' := 61) rfl (by decide +kernel) ?_
      refine xn_icmpge (tgt := 395) hC dL_law_61 (pc' := 64) rfl (by decide) (by omega) (by omega) (fun zc61 => ?_) (fun zc61 => ?_)
      · skip
        refine xi_aload_n hC dL_law_395 (pc' := 396) rfl rfl rfl ?_
        refine xi_iload_n hC dL_law_396 (pc' := 397) rfl rfl rfl ?_
        refine xi_callS (As := [.ref (b + 0), .int (nI u)]) (rest := []) (c_L_scripts l D b (b + kl) (σ := τl) (S := Tl) (N := e9) (u := u) (w := wl) hSl hRl (by omega)) hC dL_law_397 (pc' := 400) rfl xw_m_L_131 xw_c_L_scripts xw_sta_L_scripts xw_ini_L xd_L_scripts ⟨Nat.le_of_ble_eq_true rfl, Nat.le_of_ble_eq_true rfl⟩ rfl (Nat.le_of_ble_eq_true rfl) ⟨by show _ ≤ (696526 : Nat); omega, by show _ ≤ (7012671 : Nat); omega⟩ ?_
        rintro _ _ ⟨σ1, T2, rfl, hST2, hRσ1, rfl⟩
        show xV _ _ _ _ _ _ _ _ _ _ _ _ _ _ _ _ _ (xH D b σ1) _ _ [.int (nI 1)]
        refine xn_ifeq (tgt := 415) hC dL_law_400 (pc' := 403) rfl (by decide) (by omega) (fun zc400 => ?_) (fun zc400 => ?_)
        · exact absurd zc400 (by decide)
        · skip
          refine xi_aload_n hC dL_law_403 (pc' := 404) rfl rfl rfl ?_
          refine xi_iload_n hC dL_law_404 (pc' := 405) rfl rfl rfl ?_
          refine xi_callS (As := [.ref (b + 0), .int (nI u)]) (rest := []) (c_L_errors l D b (b + kl) (σ := σ1) (S := T2) (N := (e9 + 20)) (u := u) (w := wl) hST2 hRσ1 (by omega)) hC dL_law_405 (pc' := 408) rfl xw_m_L_134 xw_c_L_errors xw_sta_L_errors xw_ini_L xd_L_errors ⟨Nat.le_of_ble_eq_true rfl, Nat.le_of_ble_eq_true rfl⟩ rfl (Nat.le_of_ble_eq_true rfl) ⟨by show _ ≤ (696526 : Nat); omega, by show _ ≤ (7012671 : Nat); omega⟩ ?_
          rintro _ _ ⟨σ3, rfl, rfl⟩
          show xV _ _ _ _ _ _ _ _ _ _ _ _ _ _ _ _ _ (xH D b σ3) _ _ [.int (nI 1)]
          refine xn_ifeq (tgt := 415) hC dL_law_408 (pc' := 411) rfl (by decide) (by omega) (fun zc408 => ?_) (fun zc408 => ?_)
          · exact absurd zc408 (by decide)
          · skip
            refine xi_iconst (v := nI 1) hC dL_law_411 (pc' := 412) rfl (by decide +kernel) ?_
            refine xi_goto (tgt := 416) hC dL_law_412 (by decide) ?_
            exact xi_lawret hC hr hb (by omega) (by omega) dL_law_416
      · skip
        refine xi_aload_n hC dL_law_64 (pc' := 65) rfl rfl rfl ?_
        refine xi_iconst (v := nI 1) hC dL_law_65 (pc' := 66) rfl (by decide +kernel) ?_
        refine xi_iconst (v := nI 2) hC dL_law_66 (pc' := 67) rfl (by decide +kernel) ?_
        refine xi_iload hC dL_law_67 (pc' := 69) rfl rfl ?_
        refine xn_imul hC dL_law_69 (pc' := 70) rfl ?_
        refine xn_iadd hC dL_law_70 (pc' := 71) rfl ?_
        refine xi_cell (k := 1 + (2 * e9)) hC hX hal (by omega) hL (by omega) dL_law_71 (pc' := 74) rfl ⟨Nat.le_of_ble_eq_true rfl, Nat.le_of_ble_eq_true rfl⟩ (Nat.le_of_ble_eq_true rfl) ⟨by show _ ≤ (696526 : Nat); omega, by show _ ≤ (7012671 : Nat); omega⟩ (fun g5 => ?_)
        refine xi_istore (lv' := [some (.ref a), some (.ref (b + 0)), some (.int g0), some (.int (nI u)), some (.int (nI e9)), some (.int g5), o6, o7, o8, o9, o10, o11, o12, o13, o14, o15]) hC dL_law_74 (pc' := 76) rfl (by decide) rfl ?_
        refine xi_aload_n hC dL_law_76 (pc' := 77) rfl rfl rfl ?_
        refine xi_iconst (v := nI 2) hC dL_law_77 (pc' := 78) rfl (by decide +kernel) ?_
        refine xi_iconst (v := nI 2) hC dL_law_78 (pc' := 79) rfl (by decide +kernel) ?_
        refine xi_iload hC dL_law_79 (pc' := 81) rfl rfl ?_
        refine xn_imul hC dL_law_81 (pc' := 82) rfl ?_
        refine xn_iadd hC dL_law_82 (pc' := 83) rfl ?_
        refine xi_cell (k := 2 + (2 * e9)) hC hX hal (by omega) hL (by omega) dL_law_83 (pc' := 86) rfl ⟨Nat.le_of_ble_eq_true rfl, Nat.le_of_ble_eq_true rfl⟩ (Nat.le_of_ble_eq_true rfl) ⟨by show _ ≤ (696526 : Nat); omega, by show _ ≤ (7012671 : Nat); omega⟩ (fun g6 => ?_)
        refine xi_istore (lv' := [some (.ref a), some (.ref (b + 0)), some (.int g0), some (.int (nI u)), some (.int (nI e9)), some (.int g5), some (.int g6), o7, o8, o9, o10, o11, o12, o13, o14, o15]) hC dL_law_86 (pc' := 88) rfl (by decide) rfl ?_
        refine xi_iload hC dL_law_88 (pc' := 90) rfl rfl ?_
        refine xi_bipush (v := nI 8) hC dL_law_90 (pc' := 92) rfl (by decide +kernel) ?_
        refine xi_ishr hC dL_law_92 (pc' := 93) rfl ?_
        refine xi_iload_n hC dL_law_93 (pc' := 94) rfl rfl rfl ?_
        refine xi_callS (As := [.int (g6 >>> ((nI 8) &&& 31)), .int (nI u)]) (rest := []) (c_L_low l D b (b + kl) (h := (xH D b τl)) (x := (g6 >>> ((nI 8) &&& 31))) (k := u) (by omega) (by omega)) hC dL_law_94 (pc' := 97) rfl xw_m_L_46 xw_c_L_low xw_sta_L_low xw_ini_L xd_L_low ⟨Nat.le_of_ble_eq_true rfl, Nat.le_of_ble_eq_true rfl⟩ rfl (Nat.le_of_ble_eq_true rfl) ⟨by show _ ≤ (696526 : Nat); omega, by show _ ≤ (7012671 : Nat); omega⟩ ?_
        rintro _ _ ⟨⟨j7, hj7, rfl⟩, rfl⟩
        show xV _ _ _ _ _ _ _ _ _ _ _ _ _ _ _ _ _ (xH D b τl) _ _ [.int (nI j7)]
        refine xi_istore (lv' := [some (.ref a), some (.ref (b + 0)), some (.int g0), some (.int (nI u)), some (.int (nI e9)), some (.int g5), some (.int g6), some (.int (nI j7)), o8, o9, o10, o11, o12, o13, o14, o15]) hC dL_law_97 (pc' := 99) rfl (by decide) rfl ?_
        refine xi_iload hC dL_law_99 (pc' := 101) rfl rfl ?_
        refine xi_bipush (v := nI 12) hC dL_law_101 (pc' := 103) rfl (by decide +kernel) ?_
        refine xi_ishr hC dL_law_103 (pc' := 104) rfl ?_
        refine xi_iload_n hC dL_law_104 (pc' := 105) rfl rfl rfl ?_
        refine xi_callS (As := [.int (g6 >>> ((nI 12) &&& 31)), .int (nI u)]) (rest := []) (c_L_low l D b (b + kl) (h := (xH D b τl)) (x := (g6 >>> ((nI 12) &&& 31))) (k := u) (by omega) (by omega)) hC dL_law_105 (pc' := 108) rfl xw_m_L_46 xw_c_L_low xw_sta_L_low xw_ini_L xd_L_low ⟨Nat.le_of_ble_eq_true rfl, Nat.le_of_ble_eq_true rfl⟩ rfl (Nat.le_of_ble_eq_true rfl) ⟨by show _ ≤ (696526 : Nat); omega, by show _ ≤ (7012671 : Nat); omega⟩ ?_
        rintro _ _ ⟨⟨j8, hj8, rfl⟩, rfl⟩
        show xV _ _ _ _ _ _ _ _ _ _ _ _ _ _ _ _ _ (xH D b τl) _ _ [.int (nI j8)]
        refine xi_istore (lv' := [some (.ref a), some (.ref (b + 0)), some (.int g0), some (.int (nI u)), some (.int (nI e9)), some (.int g5), some (.int g6), some (.int (nI j7)), some (.int (nI j8)), o9, o10, o11, o12, o13, o14, o15]) hC dL_law_108 (pc' := 110) rfl (by decide) rfl ?_
        refine xi_iload hC dL_law_110 (pc' := 112) rfl rfl ?_
        refine xi_bipush (v := nI 10) hC dL_law_112 (pc' := 114) rfl (by decide +kernel) ?_
        refine xi_callS (As := [.int g5, .int (nI 10)]) (rest := []) (c_L_low l D b (b + kl) (h := (xH D b τl)) (x := g5) (k := 10) (by omega) (by omega)) hC dL_law_114 (pc' := 117) rfl xw_m_L_46 xw_c_L_low xw_sta_L_low xw_ini_L xd_L_low ⟨Nat.le_of_ble_eq_true rfl, Nat.le_of_ble_eq_true rfl⟩ rfl (Nat.le_of_ble_eq_true rfl) ⟨by show _ ≤ (696526 : Nat); omega, by show _ ≤ (7012671 : Nat); omega⟩ ?_
        rintro _ _ ⟨⟨j9, hj9, rfl⟩, rfl⟩
        show xV _ _ _ _ _ _ _ _ _ _ _ _ _ _ _ _ _ (xH D b τl) _ _ [.int (nI j9)]
        refine xi_istore (lv' := [some (.ref a), some (.ref (b + 0)), some (.int g0), some (.int (nI u)), some (.int (nI e9)), some (.int g5), some (.int g6), some (.int (nI j7)), some (.int (nI j8)), some (.int (nI j9)), o10, o11, o12, o13, o14, o15]) hC dL_law_117 (pc' := 119) rfl (by decide) rfl ?_
        have L379 : ∀ (τs : XM) (Ts : XM) (ws : Nat) (ks : Nat) (cs : Nat) (ss : Nat) (p10 : Option Value) (p11 : Option Value) (p12 : Option Value) (p13 : Option Value) (p14 : Option Value) (p15 : Option Value), (SI (e9 + 1) Ts u ws) → (RR τs Ts u ws) → (JJ (e9 + 1) Ts u) → (585 ≤ ks) → (cs ≤ 589 + 6 * e9) → (ss ≤ 2029 + 60 * e9) → xV p l e room_1 s m #[Value.ref a] below meth c D b 16 cs ss (lw_Z below #[Value.ref a] s) (b + ks) (xH D b τs) 379 [some (.ref a), some (.ref (b + 0)), some (.int g0), some (.int (nI u)), some (.int (nI e9)), some (.int g5), some (.int g6), some (.int (nI j7)), some (.int (nI j8)), some (.int (nI j9)), p10, p11, p12, p13, p14, p15] [] := by
          intro τs Ts ws ks cs ss p10 p11 p12 p13 p14 p15 hSs hRs hJs hks hcs hss
          refine xi_aload_n hC dL_law_379 (pc' := 380) rfl rfl rfl ?_
          refine xi_iload_n hC dL_law_380 (pc' := 381) rfl rfl rfl ?_
          refine xi_callS (As := [.ref (b + 0), .int (nI u)]) (rest := []) (c_L_same l D b (ks) (σ := τs) (S := Ts) (N := (e9 + 1)) (u := u) (w := ws) hSs hRs hJs (by omega) (by omega)) hC dL_law_381 (pc' := 384) rfl xw_m_L_127 xw_c_L_same xw_sta_L_same xw_ini_L xd_L_same ⟨Nat.le_of_ble_eq_true rfl, Nat.le_of_ble_eq_true rfl⟩ rfl (Nat.le_of_ble_eq_true rfl) ⟨by show _ ≤ (696526 : Nat); omega, by show _ ≤ (7012671 : Nat); omega⟩ ?_
          rintro _ _ ⟨σ10, rfl, hRσ10, rfl⟩
          show xV _ _ _ _ _ _ _ _ _ _ _ _ _ _ _ _ _ (xH D b σ10) _ _ [.int (nI 1)]
          refine xn_ifne (tgt := 389) hC dL_law_384 (pc' := 387) rfl (by decide) (by omega) (fun zc384 => ?_) (fun zc384 => ?_)
          · skip
            refine xn_iinc (lv' := [some (.ref a), some (.ref (b + 0)), some (.int g0), some (.int (nI u)), some (.int (nI (e9 + 1))), some (.int g5), some (.int g6), some (.int (nI j7)), some (.int (nI j8)), some (.int (nI j9)), p10, p11, p12, p13, p14, p15]) hC dL_law_389 (pc' := 392) rfl rfl (by decide) rfl ?_
            refine xi_goto (tgt := 57) hC dL_law_392 (by decide) ?_
            refine ih57 (e9 + 1) _ Ts ws _ _ _ _ _ _ _ _ _ _ _ _ _ _ (by omega) ?_ ?_ ?_ ?_ ?_ ?_ ?_
            · omega
            · exact hSs
            · exact hRσ10
            · exact hJs
            · omega
            · omega
            · omega
          · exact absurd zc384 (by decide)
        refine xi_iload hC dL_law_119 (pc' := 121) rfl rfl ?_
        refine xi_iconst (v := nI 5) hC dL_law_121 (pc' := 122) rfl (by decide +kernel) ?_
        refine xn_icmpge (tgt := 141) hC dL_law_122 (pc' := 125) rfl (by decide) (by omega) (by omega) (fun zc122 => ?_) (fun zc122 => ?_)
        · skip
          refine xi_iload hC dL_law_141 (pc' := 143) rfl rfl ?_
          refine xi_bipush (v := nI 7) hC dL_law_143 (pc' := 145) rfl (by decide +kernel) ?_
          refine xn_icmpge (tgt := 166) hC dL_law_145 (pc' := 148) rfl (by decide) (by omega) (by omega) (fun zc145 => ?_) (fun zc145 => ?_)
          · skip
            have L195 : xV p l e room_1 s m #[Value.ref a] below meth c D b 16 cl sl9 (lw_Z below #[Value.ref a] s) (b + kl) (xH D b τl) 195 [some (.ref a), some (.ref (b + 0)), some (.int g0), some (.int (nI u)), some (.int (nI e9)), some (.int g5), some (.int g6), some (.int (nI j7)), some (.int (nI j8)), some (.int (nI j9)), o10, o11, o12, o13, o14, o15] [] := by
              refine xi_iload hC dL_law_195 (pc' := 197) rfl rfl ?_
              refine xi_iload hC dL_law_197 (pc' := 199) rfl rfl ?_
              refine xn_icmpeq (tgt := 379) hC dL_law_199 (pc' := 202) rfl (by decide) (by omega) (by omega) (fun zc199 => ?_) (fun zc199 => ?_)
              · skip
                refine L379 _ Tl wl _ _ _ _ _ _ _ _ _ ?_ ?_ ?_ ?_ ?_ ?_
                · exact (hSl).up (by omega)
                · exact hRl
                · exact (hJl).up (by omega)
                · omega
                · omega
                · omega
              · skip
                obtain ⟨aj, haj5, hAj⟩ := hSl.1.2.2.2.2.2.2 j8 (by omega)
                have hcase : (Tl m_hasProof j7 = 0 ∧ Tl m_hasProof j8 = 0) ∨ (Tl m_hasProof j7 = 0 ∧ Tl m_hasProof j8 ≠ 0) ∨ (Tl m_hasProof j7 ≠ 0 ∧ Tl m_hasProof j8 = 0 ∧ aj = 0) ∨ (Tl m_hasProof j7 ≠ 0 ∧ Tl m_hasProof j8 = 0 ∧ 0 < aj) ∨ (Tl m_hasProof j7 ≠ 0 ∧ Tl m_hasProof j8 ≠ 0 ∧ aj = 0) ∨ (Tl m_hasProof j7 ≠ 0 ∧ Tl m_hasProof j8 ≠ 0 ∧ 0 < aj) := by
                  by_cases q1 : Tl m_hasProof j7 = 0 <;> by_cases q2 : Tl m_hasProof j8 = 0 <;> rcases Nat.eq_zero_or_pos aj with q3 | q3 <;> simp [q1, q2, q3] <;> omega
                rcases hcase with ⟨hp, ho⟩ | ⟨hp, ho⟩ | ⟨hp, ho, rfl⟩ | ⟨hp, ho, ha0⟩ | ⟨hp, ho, rfl⟩ | ⟨hp, ho, ha0⟩
                · skip
                  refine xi_aload_n hC dL_law_202 (pc' := 203) rfl rfl rfl ?_
                  refine xi_iload hC dL_law_203 (pc' := 205) rfl rfl ?_
                  refine xi_iconst (v := nI 2) hC dL_law_205 (pc' := 206) rfl (by decide +kernel) ?_
                  refine xi_callV (As := [.int (nI j7), .int (nI 2)]) (rest := []) (c_X7_user l D b (b + kl) (σ := τl) (S := Tl) (N := e9) (u := u) (w := wl) hSl hRl (by omega) (x := (nI j7)) (y := (nI 2))) hC dL_law_206 (pc' := 209) rfl xw_m_L_18 xw_c_X7_user xw_ins_X7_user xw_sel_X7_user xw_ini_X7 xd_X7_user (xH_at.trans (xsh_7 kd_0)) rfl ⟨Nat.le_of_ble_eq_true rfl, Nat.le_of_ble_eq_true rfl⟩ rfl (Nat.le_of_ble_eq_true rfl) ⟨by show _ ≤ (696526 : Nat); omega, by show _ ≤ (7012671 : Nat); omega⟩ ?_
                  rintro _ _ ⟨r12, rfl, hO13, rfl⟩
                  obtain rfl : r12 = (nI 0) := hO13 _ (su_2f (by omega) (by omega) hp)
                  show xV _ _ _ _ _ _ _ _ _ _ _ _ _ _ _ _ _ (xH D b τl) _ _ [.int (nI 0)]
                  refine xi_iconst (v := nI 1) hC dL_law_209 (pc' := 210) rfl (by decide +kernel) ?_
                  refine xn_icmpne (tgt := 217) hC dL_law_210 (pc' := 213) rfl (by decide) (by omega) (by omega) (fun zc210 => ?_) (fun zc210 => ?_)
                  · skip
                    refine xi_iconst (v := nI 0) hC dL_law_217 (pc' := 218) rfl (by decide +kernel) ?_
                    refine xi_istore (lv' := [some (.ref a), some (.ref (b + 0)), some (.int g0), some (.int (nI u)), some (.int (nI e9)), some (.int g5), some (.int g6), some (.int (nI j7)), some (.int (nI j8)), some (.int (nI j9)), some (.int (nI 0)), o11, o12, o13, o14, o15]) hC dL_law_218 (pc' := 220) rfl (by decide) rfl ?_
                    refine xi_aload_n hC dL_law_220 (pc' := 221) rfl rfl rfl ?_
                    refine xi_iload hC dL_law_221 (pc' := 223) rfl rfl ?_
                    refine xi_iconst (v := nI 1) hC dL_law_223 (pc' := 224) rfl (by decide +kernel) ?_
                    refine xi_callV (As := [.int (nI j8), .int (nI 1)]) (rest := []) (c_X7_user l D b (b + kl) (σ := τl) (S := Tl) (N := e9) (u := u) (w := wl) hSl hRl (by omega) (x := (nI j8)) (y := (nI 1))) hC dL_law_224 (pc' := 227) rfl xw_m_L_18 xw_c_X7_user xw_ins_X7_user xw_sel_X7_user xw_ini_X7 xd_X7_user (xH_at.trans (xsh_7 kd_0)) rfl ⟨Nat.le_of_ble_eq_true rfl, Nat.le_of_ble_eq_true rfl⟩ rfl (Nat.le_of_ble_eq_true rfl) ⟨by show _ ≤ (696526 : Nat); omega, by show _ ≤ (7012671 : Nat); omega⟩ ?_
                    rintro _ _ ⟨r14, rfl, hO15, rfl⟩
                    obtain rfl : r14 = (nI aj) := hO15 _ (su_1 (by omega) (by omega) hAj)
                    show xV _ _ _ _ _ _ _ _ _ _ _ _ _ _ _ _ _ (xH D b τl) _ _ [.int (nI aj)]
                    refine xi_istore (lv' := [some (.ref a), some (.ref (b + 0)), some (.int g0), some (.int (nI u)), some (.int (nI e9)), some (.int g5), some (.int g6), some (.int (nI j7)), some (.int (nI j8)), some (.int (nI j9)), some (.int (nI 0)), some (.int (nI aj)), o12, o13, o14, o15]) hC dL_law_227 (pc' := 229) rfl (by decide) rfl ?_
                    refine xi_aload_n hC dL_law_229 (pc' := 230) rfl rfl rfl ?_
                    refine xi_iload hC dL_law_230 (pc' := 232) rfl rfl ?_
                    refine xi_iconst (v := nI 2) hC dL_law_232 (pc' := 233) rfl (by decide +kernel) ?_
                    refine xi_callV (As := [.int (nI j8), .int (nI 2)]) (rest := []) (c_X7_user l D b (b + kl) (σ := τl) (S := Tl) (N := e9) (u := u) (w := wl) hSl hRl (by omega) (x := (nI j8)) (y := (nI 2))) hC dL_law_233 (pc' := 236) rfl xw_m_L_18 xw_c_X7_user xw_ins_X7_user xw_sel_X7_user xw_ini_X7 xd_X7_user (xH_at.trans (xsh_7 kd_0)) rfl ⟨Nat.le_of_ble_eq_true rfl, Nat.le_of_ble_eq_true rfl⟩ rfl (Nat.le_of_ble_eq_true rfl) ⟨by show _ ≤ (696526 : Nat); omega, by show _ ≤ (7012671 : Nat); omega⟩ ?_
                    rintro _ _ ⟨r16, rfl, hO17, rfl⟩
                    obtain rfl : r16 = (nI 0) := hO17 _ (su_2f (by omega) (by omega) ho)
                    show xV _ _ _ _ _ _ _ _ _ _ _ _ _ _ _ _ _ (xH D b τl) _ _ [.int (nI 0)]
                    refine xi_iconst (v := nI 1) hC dL_law_236 (pc' := 237) rfl (by decide +kernel) ?_
                    refine xn_icmpne (tgt := 244) hC dL_law_237 (pc' := 240) rfl (by decide) (by omega) (by omega) (fun zc237 => ?_) (fun zc237 => ?_)
                    · skip
                      refine xi_iconst (v := nI 0) hC dL_law_244 (pc' := 245) rfl (by decide +kernel) ?_
                      refine xi_istore (lv' := [some (.ref a), some (.ref (b + 0)), some (.int g0), some (.int (nI u)), some (.int (nI e9)), some (.int g5), some (.int g6), some (.int (nI j7)), some (.int (nI j8)), some (.int (nI j9)), some (.int (nI 0)), some (.int (nI aj)), some (.int (nI 0)), o13, o14, o15]) hC dL_law_245 (pc' := 247) rfl (by decide) rfl ?_
                      refine xi_aload_n hC dL_law_247 (pc' := 248) rfl rfl rfl ?_
                      refine xi_iload hC dL_law_248 (pc' := 250) rfl rfl ?_
                      refine xi_bipush (v := nI 7) hC dL_law_250 (pc' := 252) rfl (by decide +kernel) ?_
                      refine xi_callV (As := [.int (nI j7), .int (nI 7)]) (rest := []) (c_X7_user l D b (b + kl) (σ := τl) (S := Tl) (N := e9) (u := u) (w := wl) hSl hRl (by omega) (x := (nI j7)) (y := (nI 7))) hC dL_law_252 (pc' := 255) rfl xw_m_L_18 xw_c_X7_user xw_ins_X7_user xw_sel_X7_user xw_ini_X7 xd_X7_user (xH_at.trans (xsh_7 kd_0)) rfl ⟨Nat.le_of_ble_eq_true rfl, Nat.le_of_ble_eq_true rfl⟩ rfl (Nat.le_of_ble_eq_true rfl) ⟨by show _ ≤ (696526 : Nat); omega, by show _ ≤ (7012671 : Nat); omega⟩ ?_
                      rintro _ _ ⟨r18, rfl, hO19, rfl⟩
                      obtain rfl : r18 = (-10005) := hO19 _ (su_7f (by omega) (by omega) hp)
                      show xV _ _ _ _ _ _ _ _ _ _ _ _ _ _ _ _ _ (xH D b τl) _ _ [.int (-10005)]
                      refine xi_istore (lv' := [some (.ref a), some (.ref (b + 0)), some (.int g0), some (.int (nI u)), some (.int (nI e9)), some (.int g5), some (.int g6), some (.int (nI j7)), some (.int (nI j8)), some (.int (nI j9)), some (.int (nI 0)), some (.int (nI aj)), some (.int (nI 0)), some (.int (-10005)), o14, o15]) hC dL_law_255 (pc' := 257) rfl (by decide) rfl ?_
                      refine xi_aload_n hC dL_law_257 (pc' := 258) rfl rfl rfl ?_
                      refine xi_iload hC dL_law_258 (pc' := 260) rfl rfl ?_
                      refine xi_bipush (v := nI 6) hC dL_law_260 (pc' := 262) rfl (by decide +kernel) ?_
                      refine xi_callV (As := [.int (nI j7), .int (nI 6)]) (rest := []) (c_X7_user l D b (b + kl) (σ := τl) (S := Tl) (N := e9) (u := u) (w := wl) hSl hRl (by omega) (x := (nI j7)) (y := (nI 6))) hC dL_law_262 (pc' := 265) rfl xw_m_L_18 xw_c_X7_user xw_ins_X7_user xw_sel_X7_user xw_ini_X7 xd_X7_user (xH_at.trans (xsh_7 kd_0)) rfl ⟨Nat.le_of_ble_eq_true rfl, Nat.le_of_ble_eq_true rfl⟩ rfl (Nat.le_of_ble_eq_true rfl) ⟨by show _ ≤ (696526 : Nat); omega, by show _ ≤ (7012671 : Nat); omega⟩ ?_
                      rintro _ _ ⟨r20, rfl, hO21, rfl⟩
                      obtain rfl : r20 = (Tl m_sentBy j7) := hO21 _ (su_6 (by omega) (by omega))
                      show xV _ _ _ _ _ _ _ _ _ _ _ _ _ _ _ _ _ (xH D b τl) _ _ [.int (Tl m_sentBy j7)]
                      refine xi_istore (lv' := [some (.ref a), some (.ref (b + 0)), some (.int g0), some (.int (nI u)), some (.int (nI e9)), some (.int g5), some (.int g6), some (.int (nI j7)), some (.int (nI j8)), some (.int (nI j9)), some (.int (nI 0)), some (.int (nI aj)), some (.int (nI 0)), some (.int (-10005)), some (.int (Tl m_sentBy j7)), o15]) hC dL_law_265 (pc' := 267) rfl (by decide) rfl ?_
                      refine xi_aload_n hC dL_law_267 (pc' := 268) rfl rfl rfl ?_
                      refine xi_iload hC dL_law_268 (pc' := 270) rfl rfl ?_
                      refine xi_iload hC dL_law_270 (pc' := 272) rfl rfl ?_
                      refine xi_callV (As := [.int (nI j7), .int (nI j8)]) (rest := []) (c_X7_passProof l D b (b + kl) (σ := τl) (S := Tl) (N := e9) (u := u) (w := wl) hSl hRl (by omega) (x := (nI j7)) (y := (nI j8))) hC dL_law_272 (pc' := 275) rfl xw_m_L_98 xw_c_X7_passProof xw_ins_X7_passProof xw_sel_X7_passProof xw_ini_X7 xd_X7_passProof (xH_at.trans (xsh_7 kd_0)) rfl ⟨Nat.le_of_ble_eq_true rfl, Nat.le_of_ble_eq_true rfl⟩ rfl (Nat.le_of_ble_eq_true rfl) ⟨by show _ ≤ (696526 : Nat); omega, by show _ ≤ (7012671 : Nat); omega⟩ ?_
                      rintro _ _ ⟨r22, σ23, rfl, hHσ23, hO25, rfl⟩
                      obtain ⟨rT24, T24, hZT24⟩ := ex_pass (S := Tl) (u := u) (w := wl) (x := (nI j7)) (y := (nI j8)) hSl.1
                      obtain ⟨eT24, hRσ23⟩ := hO25 rT24 T24 hZT24
                      obtain ⟨e2T24, e3T24⟩ := p_no hZT24 (by omega) (by omega) zc199 hp
                      have e4T24 := e3T24.symm
                      subst e4T24
                      obtain rfl : r22 = (-10003) := eT24.trans e2T24
                      show xV _ _ _ _ _ _ _ _ _ _ _ _ _ _ _ _ _ (xH D b σ23) _ _ [.int (-10003)]
                      refine xi_istore (lv' := [some (.ref a), some (.ref (b + 0)), some (.int g0), some (.int (nI u)), some (.int (nI e9)), some (.int g5), some (.int g6), some (.int (nI j7)), some (.int (nI j8)), some (.int (nI j9)), some (.int (nI 0)), some (.int (nI aj)), some (.int (nI 0)), some (.int (-10005)), some (.int (Tl m_sentBy j7)), some (.int (-10003))]) hC dL_law_275 (pc' := 277) rfl (by decide) rfl ?_
                      refine xi_iload hC dL_law_277 (pc' := 279) rfl rfl ?_
                      refine xi_iload hC dL_law_279 (pc' := 281) rfl rfl ?_
                      refine xn_ifne (tgt := 290) hC dL_law_281 (pc' := 284) rfl (by decide) (by omega) (fun zc281 => ?_) (fun zc281 => ?_)
                      · exact absurd zc281 (by decide)
                      · skip
                        refine xi_sipush (v := -10003) hC dL_law_284 (pc' := 287) rfl (by decide +kernel) ?_
                        refine xi_goto (tgt := 300) hC dL_law_287 (by decide) ?_
                        refine xi_icmpne (tgt := 329) hC dL_law_300 (pc' := 303) rfl (by decide) (fun zc300 => ?_) (fun zc300 => ?_)
                        · exact absurd rfl zc300
                        · skip
                          refine xi_aload_n hC dL_law_303 (pc' := 304) rfl rfl rfl ?_
                          refine xi_iload hC dL_law_304 (pc' := 306) rfl rfl ?_
                          refine xi_bipush (v := nI 6) hC dL_law_306 (pc' := 308) rfl (by decide +kernel) ?_
                          refine xi_callV (As := [.int (nI j7), .int (nI 6)]) (rest := []) (c_X7_user l D b (b + kl) (σ := σ23) (S := Tl) (N := e9) (u := u) (w := wl) hSl hRσ23 (by omega) (x := (nI j7)) (y := (nI 6))) hC dL_law_308 (pc' := 311) rfl xw_m_L_18 xw_c_X7_user xw_ins_X7_user xw_sel_X7_user xw_ini_X7 xd_X7_user (xH_at.trans (xsh_7 kd_0)) rfl ⟨Nat.le_of_ble_eq_true rfl, Nat.le_of_ble_eq_true rfl⟩ rfl (Nat.le_of_ble_eq_true rfl) ⟨by show _ ≤ (696526 : Nat); omega, by show _ ≤ (7012671 : Nat); omega⟩ ?_
                          rintro _ _ ⟨r26, rfl, hO27, rfl⟩
                          obtain rfl : r26 = ((Tl m_sentBy j7) + (nI 0)) := (hO27 _ (su_6 (by omega) (by omega))).trans ((by rw [nI_0, Int32.add_zero]))
                          show xV _ _ _ _ _ _ _ _ _ _ _ _ _ _ _ _ _ (xH D b σ23) _ _ [.int ((Tl m_sentBy j7) + (nI 0))]
                          refine xi_iload hC dL_law_311 (pc' := 313) rfl rfl ?_
                          refine xi_iload hC dL_law_313 (pc' := 315) rfl rfl ?_
                          refine xn_ifeq (tgt := 324) hC dL_law_315 (pc' := 318) rfl (by decide) (by omega) (fun zc315 => ?_) (fun zc315 => ?_)
                          · skip
                            refine xi_iconst (v := nI 0) hC dL_law_324 (pc' := 325) rfl (by decide +kernel) ?_
                            refine xi_iadd hC dL_law_325 (pc' := 326) rfl ?_
                            refine xi_icmpeq (tgt := 331) hC dL_law_326 (pc' := 329) rfl (by decide) (fun zc326 => ?_) (fun zc326 => ?_)
                            · skip
                              refine xi_iload hC dL_law_331 (pc' := 333) rfl rfl ?_
                              refine xn_ifeq (tgt := 379) hC dL_law_333 (pc' := 336) rfl (by decide) (by omega) (fun zc333 => ?_) (fun zc333 => ?_)
                              · skip
                                refine L379 _ Tl wl _ _ _ _ _ _ _ _ _ ?_ ?_ ?_ ?_ ?_ ?_
                                · exact (hSl).up (by omega)
                                · exact hRσ23
                                · exact (hJl).up (by omega)
                                · omega
                                · omega
                                · omega
                              · exact absurd zc333 (by decide)
                            · exact absurd rfl zc326
                          · exact absurd zc315 (by decide)
                    · exact absurd zc237 (by decide)
                  · exact absurd zc210 (by decide)
                · skip
                  refine xi_aload_n hC dL_law_202 (pc' := 203) rfl rfl rfl ?_
                  refine xi_iload hC dL_law_203 (pc' := 205) rfl rfl ?_
                  refine xi_iconst (v := nI 2) hC dL_law_205 (pc' := 206) rfl (by decide +kernel) ?_
                  refine xi_callV (As := [.int (nI j7), .int (nI 2)]) (rest := []) (c_X7_user l D b (b + kl) (σ := τl) (S := Tl) (N := e9) (u := u) (w := wl) hSl hRl (by omega) (x := (nI j7)) (y := (nI 2))) hC dL_law_206 (pc' := 209) rfl xw_m_L_18 xw_c_X7_user xw_ins_X7_user xw_sel_X7_user xw_ini_X7 xd_X7_user (xH_at.trans (xsh_7 kd_0)) rfl ⟨Nat.le_of_ble_eq_true rfl, Nat.le_of_ble_eq_true rfl⟩ rfl (Nat.le_of_ble_eq_true rfl) ⟨by show _ ≤ (696526 : Nat); omega, by show _ ≤ (7012671 : Nat); omega⟩ ?_
                  rintro _ _ ⟨r28, rfl, hO29, rfl⟩
                  obtain rfl : r28 = (nI 0) := hO29 _ (su_2f (by omega) (by omega) hp)
                  show xV _ _ _ _ _ _ _ _ _ _ _ _ _ _ _ _ _ (xH D b τl) _ _ [.int (nI 0)]
                  refine xi_iconst (v := nI 1) hC dL_law_209 (pc' := 210) rfl (by decide +kernel) ?_
                  refine xn_icmpne (tgt := 217) hC dL_law_210 (pc' := 213) rfl (by decide) (by omega) (by omega) (fun zc210 => ?_) (fun zc210 => ?_)
                  · skip
                    refine xi_iconst (v := nI 0) hC dL_law_217 (pc' := 218) rfl (by decide +kernel) ?_
                    refine xi_istore (lv' := [some (.ref a), some (.ref (b + 0)), some (.int g0), some (.int (nI u)), some (.int (nI e9)), some (.int g5), some (.int g6), some (.int (nI j7)), some (.int (nI j8)), some (.int (nI j9)), some (.int (nI 0)), o11, o12, o13, o14, o15]) hC dL_law_218 (pc' := 220) rfl (by decide) rfl ?_
                    refine xi_aload_n hC dL_law_220 (pc' := 221) rfl rfl rfl ?_
                    refine xi_iload hC dL_law_221 (pc' := 223) rfl rfl ?_
                    refine xi_iconst (v := nI 1) hC dL_law_223 (pc' := 224) rfl (by decide +kernel) ?_
                    refine xi_callV (As := [.int (nI j8), .int (nI 1)]) (rest := []) (c_X7_user l D b (b + kl) (σ := τl) (S := Tl) (N := e9) (u := u) (w := wl) hSl hRl (by omega) (x := (nI j8)) (y := (nI 1))) hC dL_law_224 (pc' := 227) rfl xw_m_L_18 xw_c_X7_user xw_ins_X7_user xw_sel_X7_user xw_ini_X7 xd_X7_user (xH_at.trans (xsh_7 kd_0)) rfl ⟨Nat.le_of_ble_eq_true rfl, Nat.le_of_ble_eq_true rfl⟩ rfl (Nat.le_of_ble_eq_true rfl) ⟨by show _ ≤ (696526 : Nat); omega, by show _ ≤ (7012671 : Nat); omega⟩ ?_
                    rintro _ _ ⟨r30, rfl, hO31, rfl⟩
                    obtain rfl : r30 = (nI aj) := hO31 _ (su_1 (by omega) (by omega) hAj)
                    show xV _ _ _ _ _ _ _ _ _ _ _ _ _ _ _ _ _ (xH D b τl) _ _ [.int (nI aj)]
                    refine xi_istore (lv' := [some (.ref a), some (.ref (b + 0)), some (.int g0), some (.int (nI u)), some (.int (nI e9)), some (.int g5), some (.int g6), some (.int (nI j7)), some (.int (nI j8)), some (.int (nI j9)), some (.int (nI 0)), some (.int (nI aj)), o12, o13, o14, o15]) hC dL_law_227 (pc' := 229) rfl (by decide) rfl ?_
                    refine xi_aload_n hC dL_law_229 (pc' := 230) rfl rfl rfl ?_
                    refine xi_iload hC dL_law_230 (pc' := 232) rfl rfl ?_
                    refine xi_iconst (v := nI 2) hC dL_law_232 (pc' := 233) rfl (by decide +kernel) ?_
                    refine xi_callV (As := [.int (nI j8), .int (nI 2)]) (rest := []) (c_X7_user l D b (b + kl) (σ := τl) (S := Tl) (N := e9) (u := u) (w := wl) hSl hRl (by omega) (x := (nI j8)) (y := (nI 2))) hC dL_law_233 (pc' := 236) rfl xw_m_L_18 xw_c_X7_user xw_ins_X7_user xw_sel_X7_user xw_ini_X7 xd_X7_user (xH_at.trans (xsh_7 kd_0)) rfl ⟨Nat.le_of_ble_eq_true rfl, Nat.le_of_ble_eq_true rfl⟩ rfl (Nat.le_of_ble_eq_true rfl) ⟨by show _ ≤ (696526 : Nat); omega, by show _ ≤ (7012671 : Nat); omega⟩ ?_
                    rintro _ _ ⟨r32, rfl, hO33, rfl⟩
                    obtain rfl : r32 = (nI 1) := hO33 _ (su_2t (by omega) (by omega) ho)
                    show xV _ _ _ _ _ _ _ _ _ _ _ _ _ _ _ _ _ (xH D b τl) _ _ [.int (nI 1)]
                    refine xi_iconst (v := nI 1) hC dL_law_236 (pc' := 237) rfl (by decide +kernel) ?_
                    refine xn_icmpne (tgt := 244) hC dL_law_237 (pc' := 240) rfl (by decide) (by omega) (by omega) (fun zc237 => ?_) (fun zc237 => ?_)
                    · exact absurd zc237 (by decide)
                    · skip
                      refine xi_iconst (v := nI 1) hC dL_law_240 (pc' := 241) rfl (by decide +kernel) ?_
                      refine xi_goto (tgt := 245) hC dL_law_241 (by decide) ?_
                      refine xi_istore (lv' := [some (.ref a), some (.ref (b + 0)), some (.int g0), some (.int (nI u)), some (.int (nI e9)), some (.int g5), some (.int g6), some (.int (nI j7)), some (.int (nI j8)), some (.int (nI j9)), some (.int (nI 0)), some (.int (nI aj)), some (.int (nI 1)), o13, o14, o15]) hC dL_law_245 (pc' := 247) rfl (by decide) rfl ?_
                      refine xi_aload_n hC dL_law_247 (pc' := 248) rfl rfl rfl ?_
                      refine xi_iload hC dL_law_248 (pc' := 250) rfl rfl ?_
                      refine xi_bipush (v := nI 7) hC dL_law_250 (pc' := 252) rfl (by decide +kernel) ?_
                      refine xi_callV (As := [.int (nI j7), .int (nI 7)]) (rest := []) (c_X7_user l D b (b + kl) (σ := τl) (S := Tl) (N := e9) (u := u) (w := wl) hSl hRl (by omega) (x := (nI j7)) (y := (nI 7))) hC dL_law_252 (pc' := 255) rfl xw_m_L_18 xw_c_X7_user xw_ins_X7_user xw_sel_X7_user xw_ini_X7 xd_X7_user (xH_at.trans (xsh_7 kd_0)) rfl ⟨Nat.le_of_ble_eq_true rfl, Nat.le_of_ble_eq_true rfl⟩ rfl (Nat.le_of_ble_eq_true rfl) ⟨by show _ ≤ (696526 : Nat); omega, by show _ ≤ (7012671 : Nat); omega⟩ ?_
                      rintro _ _ ⟨r34, rfl, hO35, rfl⟩
                      obtain rfl : r34 = (-10005) := hO35 _ (su_7f (by omega) (by omega) hp)
                      show xV _ _ _ _ _ _ _ _ _ _ _ _ _ _ _ _ _ (xH D b τl) _ _ [.int (-10005)]
                      refine xi_istore (lv' := [some (.ref a), some (.ref (b + 0)), some (.int g0), some (.int (nI u)), some (.int (nI e9)), some (.int g5), some (.int g6), some (.int (nI j7)), some (.int (nI j8)), some (.int (nI j9)), some (.int (nI 0)), some (.int (nI aj)), some (.int (nI 1)), some (.int (-10005)), o14, o15]) hC dL_law_255 (pc' := 257) rfl (by decide) rfl ?_
                      refine xi_aload_n hC dL_law_257 (pc' := 258) rfl rfl rfl ?_
                      refine xi_iload hC dL_law_258 (pc' := 260) rfl rfl ?_
                      refine xi_bipush (v := nI 6) hC dL_law_260 (pc' := 262) rfl (by decide +kernel) ?_
                      refine xi_callV (As := [.int (nI j7), .int (nI 6)]) (rest := []) (c_X7_user l D b (b + kl) (σ := τl) (S := Tl) (N := e9) (u := u) (w := wl) hSl hRl (by omega) (x := (nI j7)) (y := (nI 6))) hC dL_law_262 (pc' := 265) rfl xw_m_L_18 xw_c_X7_user xw_ins_X7_user xw_sel_X7_user xw_ini_X7 xd_X7_user (xH_at.trans (xsh_7 kd_0)) rfl ⟨Nat.le_of_ble_eq_true rfl, Nat.le_of_ble_eq_true rfl⟩ rfl (Nat.le_of_ble_eq_true rfl) ⟨by show _ ≤ (696526 : Nat); omega, by show _ ≤ (7012671 : Nat); omega⟩ ?_
                      rintro _ _ ⟨r36, rfl, hO37, rfl⟩
                      obtain rfl : r36 = (Tl m_sentBy j7) := hO37 _ (su_6 (by omega) (by omega))
                      show xV _ _ _ _ _ _ _ _ _ _ _ _ _ _ _ _ _ (xH D b τl) _ _ [.int (Tl m_sentBy j7)]
                      refine xi_istore (lv' := [some (.ref a), some (.ref (b + 0)), some (.int g0), some (.int (nI u)), some (.int (nI e9)), some (.int g5), some (.int g6), some (.int (nI j7)), some (.int (nI j8)), some (.int (nI j9)), some (.int (nI 0)), some (.int (nI aj)), some (.int (nI 1)), some (.int (-10005)), some (.int (Tl m_sentBy j7)), o15]) hC dL_law_265 (pc' := 267) rfl (by decide) rfl ?_
                      refine xi_aload_n hC dL_law_267 (pc' := 268) rfl rfl rfl ?_
                      refine xi_iload hC dL_law_268 (pc' := 270) rfl rfl ?_
                      refine xi_iload hC dL_law_270 (pc' := 272) rfl rfl ?_
                      refine xi_callV (As := [.int (nI j7), .int (nI j8)]) (rest := []) (c_X7_passProof l D b (b + kl) (σ := τl) (S := Tl) (N := e9) (u := u) (w := wl) hSl hRl (by omega) (x := (nI j7)) (y := (nI j8))) hC dL_law_272 (pc' := 275) rfl xw_m_L_98 xw_c_X7_passProof xw_ins_X7_passProof xw_sel_X7_passProof xw_ini_X7 xd_X7_passProof (xH_at.trans (xsh_7 kd_0)) rfl ⟨Nat.le_of_ble_eq_true rfl, Nat.le_of_ble_eq_true rfl⟩ rfl (Nat.le_of_ble_eq_true rfl) ⟨by show _ ≤ (696526 : Nat); omega, by show _ ≤ (7012671 : Nat); omega⟩ ?_
                      rintro _ _ ⟨r38, σ39, rfl, hHσ39, hO41, rfl⟩
                      obtain ⟨rT40, T40, hZT40⟩ := ex_pass (S := Tl) (u := u) (w := wl) (x := (nI j7)) (y := (nI j8)) hSl.1
                      obtain ⟨eT40, hRσ39⟩ := hO41 rT40 T40 hZT40
                      obtain ⟨e2T40, e3T40⟩ := p_no hZT40 (by omega) (by omega) zc199 hp
                      have e4T40 := e3T40.symm
                      subst e4T40
                      obtain rfl : r38 = (-10003) := eT40.trans e2T40
                      show xV _ _ _ _ _ _ _ _ _ _ _ _ _ _ _ _ _ (xH D b σ39) _ _ [.int (-10003)]
                      refine xi_istore (lv' := [some (.ref a), some (.ref (b + 0)), some (.int g0), some (.int (nI u)), some (.int (nI e9)), some (.int g5), some (.int g6), some (.int (nI j7)), some (.int (nI j8)), some (.int (nI j9)), some (.int (nI 0)), some (.int (nI aj)), some (.int (nI 1)), some (.int (-10005)), some (.int (Tl m_sentBy j7)), some (.int (-10003))]) hC dL_law_275 (pc' := 277) rfl (by decide) rfl ?_
                      refine xi_iload hC dL_law_277 (pc' := 279) rfl rfl ?_
                      refine xi_iload hC dL_law_279 (pc' := 281) rfl rfl ?_
                      refine xn_ifne (tgt := 290) hC dL_law_281 (pc' := 284) rfl (by decide) (by omega) (fun zc281 => ?_) (fun zc281 => ?_)
                      · exact absurd zc281 (by decide)
                      · skip
                        refine xi_sipush (v := -10003) hC dL_law_284 (pc' := 287) rfl (by decide +kernel) ?_
                        refine xi_goto (tgt := 300) hC dL_law_287 (by decide) ?_
                        refine xi_icmpne (tgt := 329) hC dL_law_300 (pc' := 303) rfl (by decide) (fun zc300 => ?_) (fun zc300 => ?_)
                        · exact absurd rfl zc300
                        · skip
                          refine xi_aload_n hC dL_law_303 (pc' := 304) rfl rfl rfl ?_
                          refine xi_iload hC dL_law_304 (pc' := 306) rfl rfl ?_
                          refine xi_bipush (v := nI 6) hC dL_law_306 (pc' := 308) rfl (by decide +kernel) ?_
                          refine xi_callV (As := [.int (nI j7), .int (nI 6)]) (rest := []) (c_X7_user l D b (b + kl) (σ := σ39) (S := Tl) (N := e9) (u := u) (w := wl) hSl hRσ39 (by omega) (x := (nI j7)) (y := (nI 6))) hC dL_law_308 (pc' := 311) rfl xw_m_L_18 xw_c_X7_user xw_ins_X7_user xw_sel_X7_user xw_ini_X7 xd_X7_user (xH_at.trans (xsh_7 kd_0)) rfl ⟨Nat.le_of_ble_eq_true rfl, Nat.le_of_ble_eq_true rfl⟩ rfl (Nat.le_of_ble_eq_true rfl) ⟨by show _ ≤ (696526 : Nat); omega, by show _ ≤ (7012671 : Nat); omega⟩ ?_
                          rintro _ _ ⟨r42, rfl, hO43, rfl⟩
                          obtain rfl : r42 = ((Tl m_sentBy j7) + (nI 0)) := (hO43 _ (su_6 (by omega) (by omega))).trans ((by rw [nI_0, Int32.add_zero]))
                          show xV _ _ _ _ _ _ _ _ _ _ _ _ _ _ _ _ _ (xH D b σ39) _ _ [.int ((Tl m_sentBy j7) + (nI 0))]
                          refine xi_iload hC dL_law_311 (pc' := 313) rfl rfl ?_
                          refine xi_iload hC dL_law_313 (pc' := 315) rfl rfl ?_
                          refine xn_ifeq (tgt := 324) hC dL_law_315 (pc' := 318) rfl (by decide) (by omega) (fun zc315 => ?_) (fun zc315 => ?_)
                          · skip
                            refine xi_iconst (v := nI 0) hC dL_law_324 (pc' := 325) rfl (by decide +kernel) ?_
                            refine xi_iadd hC dL_law_325 (pc' := 326) rfl ?_
                            refine xi_icmpeq (tgt := 331) hC dL_law_326 (pc' := 329) rfl (by decide) (fun zc326 => ?_) (fun zc326 => ?_)
                            · skip
                              refine xi_iload hC dL_law_331 (pc' := 333) rfl rfl ?_
                              refine xn_ifeq (tgt := 379) hC dL_law_333 (pc' := 336) rfl (by decide) (by omega) (fun zc333 => ?_) (fun zc333 => ?_)
                              · skip
                                refine L379 _ Tl wl _ _ _ _ _ _ _ _ _ ?_ ?_ ?_ ?_ ?_ ?_
                                · exact (hSl).up (by omega)
                                · exact hRσ39
                                · exact (hJl).up (by omega)
                                · omega
                                · omega
                                · omega
                              · exact absurd zc333 (by decide)
                            · exact absurd rfl zc326
                          · exact absurd zc315 (by decide)
                  · exact absurd zc210 (by decide)
                · skip
                  obtain ⟨⟨d, hd, eD⟩, -, -⟩ := (hJl j7 (by omega)).2.2 hp
                  refine xi_aload_n hC dL_law_202 (pc' := 203) rfl rfl rfl ?_
                  refine xi_iload hC dL_law_203 (pc' := 205) rfl rfl ?_
                  refine xi_iconst (v := nI 2) hC dL_law_205 (pc' := 206) rfl (by decide +kernel) ?_
                  refine xi_callV (As := [.int (nI j7), .int (nI 2)]) (rest := []) (c_X7_user l D b (b + kl) (σ := τl) (S := Tl) (N := e9) (u := u) (w := wl) hSl hRl (by omega) (x := (nI j7)) (y := (nI 2))) hC dL_law_206 (pc' := 209) rfl xw_m_L_18 xw_c_X7_user xw_ins_X7_user xw_sel_X7_user xw_ini_X7 xd_X7_user (xH_at.trans (xsh_7 kd_0)) rfl ⟨Nat.le_of_ble_eq_true rfl, Nat.le_of_ble_eq_true rfl⟩ rfl (Nat.le_of_ble_eq_true rfl) ⟨by show _ ≤ (696526 : Nat); omega, by show _ ≤ (7012671 : Nat); omega⟩ ?_
                  rintro _ _ ⟨r44, rfl, hO45, rfl⟩
                  obtain rfl : r44 = (nI 1) := hO45 _ (su_2t (by omega) (by omega) hp)
                  show xV _ _ _ _ _ _ _ _ _ _ _ _ _ _ _ _ _ (xH D b τl) _ _ [.int (nI 1)]
                  refine xi_iconst (v := nI 1) hC dL_law_209 (pc' := 210) rfl (by decide +kernel) ?_
                  refine xn_icmpne (tgt := 217) hC dL_law_210 (pc' := 213) rfl (by decide) (by omega) (by omega) (fun zc210 => ?_) (fun zc210 => ?_)
                  · exact absurd zc210 (by decide)
                  · skip
                    refine xi_iconst (v := nI 1) hC dL_law_213 (pc' := 214) rfl (by decide +kernel) ?_
                    refine xi_goto (tgt := 218) hC dL_law_214 (by decide) ?_
                    refine xi_istore (lv' := [some (.ref a), some (.ref (b + 0)), some (.int g0), some (.int (nI u)), some (.int (nI e9)), some (.int g5), some (.int g6), some (.int (nI j7)), some (.int (nI j8)), some (.int (nI j9)), some (.int (nI 1)), o11, o12, o13, o14, o15]) hC dL_law_218 (pc' := 220) rfl (by decide) rfl ?_
                    refine xi_aload_n hC dL_law_220 (pc' := 221) rfl rfl rfl ?_
                    refine xi_iload hC dL_law_221 (pc' := 223) rfl rfl ?_
                    refine xi_iconst (v := nI 1) hC dL_law_223 (pc' := 224) rfl (by decide +kernel) ?_
                    refine xi_callV (As := [.int (nI j8), .int (nI 1)]) (rest := []) (c_X7_user l D b (b + kl) (σ := τl) (S := Tl) (N := e9) (u := u) (w := wl) hSl hRl (by omega) (x := (nI j8)) (y := (nI 1))) hC dL_law_224 (pc' := 227) rfl xw_m_L_18 xw_c_X7_user xw_ins_X7_user xw_sel_X7_user xw_ini_X7 xd_X7_user (xH_at.trans (xsh_7 kd_0)) rfl ⟨Nat.le_of_ble_eq_true rfl, Nat.le_of_ble_eq_true rfl⟩ rfl (Nat.le_of_ble_eq_true rfl) ⟨by show _ ≤ (696526 : Nat); omega, by show _ ≤ (7012671 : Nat); omega⟩ ?_
                    rintro _ _ ⟨r46, rfl, hO47, rfl⟩
                    obtain rfl : r46 = (nI 0) := hO47 _ (su_1 (by omega) (by omega) hAj)
                    show xV _ _ _ _ _ _ _ _ _ _ _ _ _ _ _ _ _ (xH D b τl) _ _ [.int (nI 0)]
                    refine xi_istore (lv' := [some (.ref a), some (.ref (b + 0)), some (.int g0), some (.int (nI u)), some (.int (nI e9)), some (.int g5), some (.int g6), some (.int (nI j7)), some (.int (nI j8)), some (.int (nI j9)), some (.int (nI 1)), some (.int (nI 0)), o12, o13, o14, o15]) hC dL_law_227 (pc' := 229) rfl (by decide) rfl ?_
                    refine xi_aload_n hC dL_law_229 (pc' := 230) rfl rfl rfl ?_
                    refine xi_iload hC dL_law_230 (pc' := 232) rfl rfl ?_
                    refine xi_iconst (v := nI 2) hC dL_law_232 (pc' := 233) rfl (by decide +kernel) ?_
                    refine xi_callV (As := [.int (nI j8), .int (nI 2)]) (rest := []) (c_X7_user l D b (b + kl) (σ := τl) (S := Tl) (N := e9) (u := u) (w := wl) hSl hRl (by omega) (x := (nI j8)) (y := (nI 2))) hC dL_law_233 (pc' := 236) rfl xw_m_L_18 xw_c_X7_user xw_ins_X7_user xw_sel_X7_user xw_ini_X7 xd_X7_user (xH_at.trans (xsh_7 kd_0)) rfl ⟨Nat.le_of_ble_eq_true rfl, Nat.le_of_ble_eq_true rfl⟩ rfl (Nat.le_of_ble_eq_true rfl) ⟨by show _ ≤ (696526 : Nat); omega, by show _ ≤ (7012671 : Nat); omega⟩ ?_
                    rintro _ _ ⟨r48, rfl, hO49, rfl⟩
                    obtain rfl : r48 = (nI 0) := hO49 _ (su_2f (by omega) (by omega) ho)
                    show xV _ _ _ _ _ _ _ _ _ _ _ _ _ _ _ _ _ (xH D b τl) _ _ [.int (nI 0)]
                    refine xi_iconst (v := nI 1) hC dL_law_236 (pc' := 237) rfl (by decide +kernel) ?_
                    refine xn_icmpne (tgt := 244) hC dL_law_237 (pc' := 240) rfl (by decide) (by omega) (by omega) (fun zc237 => ?_) (fun zc237 => ?_)
                    · skip
                      refine xi_iconst (v := nI 0) hC dL_law_244 (pc' := 245) rfl (by decide +kernel) ?_
                      refine xi_istore (lv' := [some (.ref a), some (.ref (b + 0)), some (.int g0), some (.int (nI u)), some (.int (nI e9)), some (.int g5), some (.int g6), some (.int (nI j7)), some (.int (nI j8)), some (.int (nI j9)), some (.int (nI 1)), some (.int (nI 0)), some (.int (nI 0)), o13, o14, o15]) hC dL_law_245 (pc' := 247) rfl (by decide) rfl ?_
                      refine xi_aload_n hC dL_law_247 (pc' := 248) rfl rfl rfl ?_
                      refine xi_iload hC dL_law_248 (pc' := 250) rfl rfl ?_
                      refine xi_bipush (v := nI 7) hC dL_law_250 (pc' := 252) rfl (by decide +kernel) ?_
                      refine xi_callV (As := [.int (nI j7), .int (nI 7)]) (rest := []) (c_X7_user l D b (b + kl) (σ := τl) (S := Tl) (N := e9) (u := u) (w := wl) hSl hRl (by omega) (x := (nI j7)) (y := (nI 7))) hC dL_law_252 (pc' := 255) rfl xw_m_L_18 xw_c_X7_user xw_ins_X7_user xw_sel_X7_user xw_ini_X7 xd_X7_user (xH_at.trans (xsh_7 kd_0)) rfl ⟨Nat.le_of_ble_eq_true rfl, Nat.le_of_ble_eq_true rfl⟩ rfl (Nat.le_of_ble_eq_true rfl) ⟨by show _ ≤ (696526 : Nat); omega, by show _ ≤ (7012671 : Nat); omega⟩ ?_
                      rintro _ _ ⟨r50, rfl, hO51, rfl⟩
                      obtain rfl : r50 = (nI d) := hO51 _ (su_7t (by omega) (by omega) hp eD)
                      show xV _ _ _ _ _ _ _ _ _ _ _ _ _ _ _ _ _ (xH D b τl) _ _ [.int (nI d)]
                      refine xi_istore (lv' := [some (.ref a), some (.ref (b + 0)), some (.int g0), some (.int (nI u)), some (.int (nI e9)), some (.int g5), some (.int g6), some (.int (nI j7)), some (.int (nI j8)), some (.int (nI j9)), some (.int (nI 1)), some (.int (nI 0)), some (.int (nI 0)), some (.int (nI d)), o14, o15]) hC dL_law_255 (pc' := 257) rfl (by decide) rfl ?_
                      refine xi_aload_n hC dL_law_257 (pc' := 258) rfl rfl rfl ?_
                      refine xi_iload hC dL_law_258 (pc' := 260) rfl rfl ?_
                      refine xi_bipush (v := nI 6) hC dL_law_260 (pc' := 262) rfl (by decide +kernel) ?_
                      refine xi_callV (As := [.int (nI j7), .int (nI 6)]) (rest := []) (c_X7_user l D b (b + kl) (σ := τl) (S := Tl) (N := e9) (u := u) (w := wl) hSl hRl (by omega) (x := (nI j7)) (y := (nI 6))) hC dL_law_262 (pc' := 265) rfl xw_m_L_18 xw_c_X7_user xw_ins_X7_user xw_sel_X7_user xw_ini_X7 xd_X7_user (xH_at.trans (xsh_7 kd_0)) rfl ⟨Nat.le_of_ble_eq_true rfl, Nat.le_of_ble_eq_true rfl⟩ rfl (Nat.le_of_ble_eq_true rfl) ⟨by show _ ≤ (696526 : Nat); omega, by show _ ≤ (7012671 : Nat); omega⟩ ?_
                      rintro _ _ ⟨r52, rfl, hO53, rfl⟩
                      obtain rfl : r52 = (Tl m_sentBy j7) := hO53 _ (su_6 (by omega) (by omega))
                      show xV _ _ _ _ _ _ _ _ _ _ _ _ _ _ _ _ _ (xH D b τl) _ _ [.int (Tl m_sentBy j7)]
                      refine xi_istore (lv' := [some (.ref a), some (.ref (b + 0)), some (.int g0), some (.int (nI u)), some (.int (nI e9)), some (.int g5), some (.int g6), some (.int (nI j7)), some (.int (nI j8)), some (.int (nI j9)), some (.int (nI 1)), some (.int (nI 0)), some (.int (nI 0)), some (.int (nI d)), some (.int (Tl m_sentBy j7)), o15]) hC dL_law_265 (pc' := 267) rfl (by decide) rfl ?_
                      refine xi_aload_n hC dL_law_267 (pc' := 268) rfl rfl rfl ?_
                      refine xi_iload hC dL_law_268 (pc' := 270) rfl rfl ?_
                      refine xi_iload hC dL_law_270 (pc' := 272) rfl rfl ?_
                      refine xi_callV (As := [.int (nI j7), .int (nI j8)]) (rest := []) (c_X7_passProof l D b (b + kl) (σ := τl) (S := Tl) (N := e9) (u := u) (w := wl) hSl hRl (by omega) (x := (nI j7)) (y := (nI j8))) hC dL_law_272 (pc' := 275) rfl xw_m_L_98 xw_c_X7_passProof xw_ins_X7_passProof xw_sel_X7_passProof xw_ini_X7 xd_X7_passProof (xH_at.trans (xsh_7 kd_0)) rfl ⟨Nat.le_of_ble_eq_true rfl, Nat.le_of_ble_eq_true rfl⟩ rfl (Nat.le_of_ble_eq_true rfl) ⟨by show _ ≤ (696526 : Nat); omega, by show _ ≤ (7012671 : Nat); omega⟩ ?_
                      rintro _ _ ⟨r54, σ55, rfl, hHσ55, hO57, rfl⟩
                      obtain ⟨rT56, T56, hZT56⟩ := ex_pass (S := Tl) (u := u) (w := wl) (x := (nI j7)) (y := (nI j8)) hSl.1
                      obtain ⟨eT56, hRσ55⟩ := hO57 rT56 T56 hZT56
                      obtain ⟨e2T56, fs, fa, fp, fd⟩ := p_ok hZT56 (by omega) (by omega) zc199 hp hAj haj5 eD
                      rw [if_pos rfl] at e2T56 fa
                      obtain rfl : r54 = nI 1 := eT56.trans e2T56
                      have hST56 := SI_pass hSl hZT56
                      have hJT56 := JJ_pass hSl.1 hJl hZT56
                      show xV _ _ _ _ _ _ _ _ _ _ _ _ _ _ _ _ _ (xH D b σ55) _ _ [.int (nI 1)]
                      refine xi_istore (lv' := [some (.ref a), some (.ref (b + 0)), some (.int g0), some (.int (nI u)), some (.int (nI e9)), some (.int g5), some (.int g6), some (.int (nI j7)), some (.int (nI j8)), some (.int (nI j9)), some (.int (nI 1)), some (.int (nI 0)), some (.int (nI 0)), some (.int (nI d)), some (.int (Tl m_sentBy j7)), some (.int (nI 1))]) hC dL_law_275 (pc' := 277) rfl (by decide) rfl ?_
                      refine xi_iload hC dL_law_277 (pc' := 279) rfl rfl ?_
                      refine xi_iload hC dL_law_279 (pc' := 281) rfl rfl ?_
                      refine xn_ifne (tgt := 290) hC dL_law_281 (pc' := 284) rfl (by decide) (by omega) (fun zc281 => ?_) (fun zc281 => ?_)
                      · skip
                        refine xi_iload hC dL_law_290 (pc' := 292) rfl rfl ?_
                        refine xn_ifne (tgt := 299) hC dL_law_292 (pc' := 295) rfl (by decide) (by omega) (fun zc292 => ?_) (fun zc292 => ?_)
                        · exact absurd zc292 (by decide)
                        · skip
                          refine xi_iconst (v := nI 1) hC dL_law_295 (pc' := 296) rfl (by decide +kernel) ?_
                          refine xi_goto (tgt := 300) hC dL_law_296 (by decide) ?_
                          refine xn_icmpne (tgt := 329) hC dL_law_300 (pc' := 303) rfl (by decide) (by omega) (by omega) (fun zc300 => ?_) (fun zc300 => ?_)
                          · exact absurd zc300 (by decide)
                          · skip
                            refine xi_aload_n hC dL_law_303 (pc' := 304) rfl rfl rfl ?_
                            refine xi_iload hC dL_law_304 (pc' := 306) rfl rfl ?_
                            refine xi_bipush (v := nI 6) hC dL_law_306 (pc' := 308) rfl (by decide +kernel) ?_
                            refine xi_callV (As := [.int (nI j7), .int (nI 6)]) (rest := []) (c_X7_user l D b (b + kl) (σ := σ55) (S := T56) (N := e9) (u := u) (w := wl) hST56 hRσ55 (by omega) (x := (nI j7)) (y := (nI 6))) hC dL_law_308 (pc' := 311) rfl xw_m_L_18 xw_c_X7_user xw_ins_X7_user xw_sel_X7_user xw_ini_X7 xd_X7_user (xH_at.trans (xsh_7 kd_0)) rfl ⟨Nat.le_of_ble_eq_true rfl, Nat.le_of_ble_eq_true rfl⟩ rfl (Nat.le_of_ble_eq_true rfl) ⟨by show _ ≤ (696526 : Nat); omega, by show _ ≤ (7012671 : Nat); omega⟩ ?_
                            rintro _ _ ⟨r58, rfl, hO59, rfl⟩
                            obtain rfl : r58 = ((Tl m_sentBy j7) + (nI (2 * u))) := (hO59 _ (su_6 (by omega) (by omega))).trans (fs)
                            show xV _ _ _ _ _ _ _ _ _ _ _ _ _ _ _ _ _ (xH D b σ55) _ _ [.int ((Tl m_sentBy j7) + (nI (2 * u)))]
                            refine xi_iload hC dL_law_311 (pc' := 313) rfl rfl ?_
                            refine xi_iload hC dL_law_313 (pc' := 315) rfl rfl ?_
                            refine xn_ifeq (tgt := 324) hC dL_law_315 (pc' := 318) rfl (by decide) (by omega) (fun zc315 => ?_) (fun zc315 => ?_)
                            · exact absurd zc315 (by decide)
                            · skip
                              refine xi_iconst (v := nI 2) hC dL_law_318 (pc' := 319) rfl (by decide +kernel) ?_
                              refine xi_iload_n hC dL_law_319 (pc' := 320) rfl rfl rfl ?_
                              refine xn_imul hC dL_law_320 (pc' := 321) rfl ?_
                              refine xi_goto (tgt := 325) hC dL_law_321 (by decide) ?_
                              refine xi_iadd hC dL_law_325 (pc' := 326) rfl ?_
                              refine xi_icmpeq (tgt := 331) hC dL_law_326 (pc' := 329) rfl (by decide) (fun zc326 => ?_) (fun zc326 => ?_)
                              · skip
                                refine xi_iload hC dL_law_331 (pc' := 333) rfl rfl ?_
                                refine xn_ifeq (tgt := 379) hC dL_law_333 (pc' := 336) rfl (by decide) (by omega) (fun zc333 => ?_) (fun zc333 => ?_)
                                · exact absurd zc333 (by decide)
                                · skip
                                  refine xi_aload_n hC dL_law_336 (pc' := 337) rfl rfl rfl ?_
                                  refine xi_iload hC dL_law_337 (pc' := 339) rfl rfl ?_
                                  refine xi_iconst (v := nI 1) hC dL_law_339 (pc' := 340) rfl (by decide +kernel) ?_
                                  refine xi_callV (As := [.int (nI j8), .int (nI 1)]) (rest := []) (c_X7_user l D b (b + kl) (σ := σ55) (S := T56) (N := e9) (u := u) (w := wl) hST56 hRσ55 (by omega) (x := (nI j8)) (y := (nI 1))) hC dL_law_340 (pc' := 343) rfl xw_m_L_18 xw_c_X7_user xw_ins_X7_user xw_sel_X7_user xw_ini_X7 xd_X7_user (xH_at.trans (xsh_7 kd_0)) rfl ⟨Nat.le_of_ble_eq_true rfl, Nat.le_of_ble_eq_true rfl⟩ rfl (Nat.le_of_ble_eq_true rfl) ⟨by show _ ≤ (696526 : Nat); omega, by show _ ≤ (7012671 : Nat); omega⟩ ?_
                                  rintro _ _ ⟨r60, rfl, hO61, rfl⟩
                                  obtain rfl : r60 = (nI 5) := hO61 _ (su_1 (by omega) (by omega) fa)
                                  show xV _ _ _ _ _ _ _ _ _ _ _ _ _ _ _ _ _ (xH D b σ55) _ _ [.int (nI 5)]
                                  refine xi_iload hC dL_law_343 (pc' := 345) rfl rfl ?_
                                  refine xn_ifne (tgt := 352) hC dL_law_345 (pc' := 348) rfl (by decide) (by omega) (fun zc345 => ?_) (fun zc345 => ?_)
                                  · exact absurd zc345 (by decide)
                                  · skip
                                    refine xi_iconst (v := nI 5) hC dL_law_348 (pc' := 349) rfl (by decide +kernel) ?_
                                    refine xi_goto (tgt := 354) hC dL_law_349 (by decide) ?_
                                    refine xn_icmpne (tgt := 377) hC dL_law_354 (pc' := 357) rfl (by decide) (by omega) (by omega) (fun zc354 => ?_) (fun zc354 => ?_)
                                    · exact absurd zc354 (by decide)
                                    · skip
                                      refine xi_iload hC dL_law_357 (pc' := 359) rfl rfl ?_
                                      refine xn_ifne (tgt := 379) hC dL_law_359 (pc' := 362) rfl (by decide) (by omega) (fun zc359 => ?_) (fun zc359 => ?_)
                                      · exact absurd zc359 (by decide)
                                      · skip
                                        refine xi_aload_n hC dL_law_362 (pc' := 363) rfl rfl rfl ?_
                                        refine xi_iload hC dL_law_363 (pc' := 365) rfl rfl ?_
                                        refine xi_bipush (v := nI 7) hC dL_law_365 (pc' := 367) rfl (by decide +kernel) ?_
                                        refine xi_callV (As := [.int (nI j8), .int (nI 7)]) (rest := []) (c_X7_user l D b (b + kl) (σ := σ55) (S := T56) (N := e9) (u := u) (w := wl) hST56 hRσ55 (by omega) (x := (nI j8)) (y := (nI 7))) hC dL_law_367 (pc' := 370) rfl xw_m_L_18 xw_c_X7_user xw_ins_X7_user xw_sel_X7_user xw_ini_X7 xd_X7_user (xH_at.trans (xsh_7 kd_0)) rfl ⟨Nat.le_of_ble_eq_true rfl, Nat.le_of_ble_eq_true rfl⟩ rfl (Nat.le_of_ble_eq_true rfl) ⟨by show _ ≤ (696526 : Nat); omega, by show _ ≤ (7012671 : Nat); omega⟩ ?_
                                        rintro _ _ ⟨r62, rfl, hO63, rfl⟩
                                        obtain rfl : r62 = (nI (d + 1)) := hO63 _ (su_7t (by omega) (by omega) fp (fd ho))
                                        show xV _ _ _ _ _ _ _ _ _ _ _ _ _ _ _ _ _ (xH D b σ55) _ _ [.int (nI (d + 1))]
                                        refine xi_iload hC dL_law_370 (pc' := 372) rfl rfl ?_
                                        refine xi_iconst (v := nI 1) hC dL_law_372 (pc' := 373) rfl (by decide +kernel) ?_
                                        refine xn_iadd hC dL_law_373 (pc' := 374) rfl ?_
                                        refine xi_icmpeq (tgt := 379) hC dL_law_374 (pc' := 377) rfl (by decide) (fun zc374 => ?_) (fun zc374 => ?_)
                                        · skip
                                          refine L379 _ T56 wl _ _ _ _ _ _ _ _ _ ?_ ?_ ?_ ?_ ?_ ?_
                                          · exact (hST56).up (by omega)
                                          · exact hRσ55
                                          · exact (hJT56).up (by omega)
                                          · omega
                                          · omega
                                          · omega
                                        · exact absurd rfl zc374
                              · exact absurd rfl zc326
                      · exact absurd zc281 (by decide)
                    · exact absurd zc237 (by decide)
                · skip
                  obtain ⟨⟨d, hd, eD⟩, -, -⟩ := (hJl j7 (by omega)).2.2 hp
                  refine xi_aload_n hC dL_law_202 (pc' := 203) rfl rfl rfl ?_
                  refine xi_iload hC dL_law_203 (pc' := 205) rfl rfl ?_
                  refine xi_iconst (v := nI 2) hC dL_law_205 (pc' := 206) rfl (by decide +kernel) ?_
                  refine xi_callV (As := [.int (nI j7), .int (nI 2)]) (rest := []) (c_X7_user l D b (b + kl) (σ := τl) (S := Tl) (N := e9) (u := u) (w := wl) hSl hRl (by omega) (x := (nI j7)) (y := (nI 2))) hC dL_law_206 (pc' := 209) rfl xw_m_L_18 xw_c_X7_user xw_ins_X7_user xw_sel_X7_user xw_ini_X7 xd_X7_user (xH_at.trans (xsh_7 kd_0)) rfl ⟨Nat.le_of_ble_eq_true rfl, Nat.le_of_ble_eq_true rfl⟩ rfl (Nat.le_of_ble_eq_true rfl) ⟨by show _ ≤ (696526 : Nat); omega, by show _ ≤ (7012671 : Nat); omega⟩ ?_
                  rintro _ _ ⟨r64, rfl, hO65, rfl⟩
                  obtain rfl : r64 = (nI 1) := hO65 _ (su_2t (by omega) (by omega) hp)
                  show xV _ _ _ _ _ _ _ _ _ _ _ _ _ _ _ _ _ (xH D b τl) _ _ [.int (nI 1)]
                  refine xi_iconst (v := nI 1) hC dL_law_209 (pc' := 210) rfl (by decide +kernel) ?_
                  refine xn_icmpne (tgt := 217) hC dL_law_210 (pc' := 213) rfl (by decide) (by omega) (by omega) (fun zc210 => ?_) (fun zc210 => ?_)
                  · exact absurd zc210 (by decide)
                  · skip
                    refine xi_iconst (v := nI 1) hC dL_law_213 (pc' := 214) rfl (by decide +kernel) ?_
                    refine xi_goto (tgt := 218) hC dL_law_214 (by decide) ?_
                    refine xi_istore (lv' := [some (.ref a), some (.ref (b + 0)), some (.int g0), some (.int (nI u)), some (.int (nI e9)), some (.int g5), some (.int g6), some (.int (nI j7)), some (.int (nI j8)), some (.int (nI j9)), some (.int (nI 1)), o11, o12, o13, o14, o15]) hC dL_law_218 (pc' := 220) rfl (by decide) rfl ?_
                    refine xi_aload_n hC dL_law_220 (pc' := 221) rfl rfl rfl ?_
                    refine xi_iload hC dL_law_221 (pc' := 223) rfl rfl ?_
                    refine xi_iconst (v := nI 1) hC dL_law_223 (pc' := 224) rfl (by decide +kernel) ?_
                    refine xi_callV (As := [.int (nI j8), .int (nI 1)]) (rest := []) (c_X7_user l D b (b + kl) (σ := τl) (S := Tl) (N := e9) (u := u) (w := wl) hSl hRl (by omega) (x := (nI j8)) (y := (nI 1))) hC dL_law_224 (pc' := 227) rfl xw_m_L_18 xw_c_X7_user xw_ins_X7_user xw_sel_X7_user xw_ini_X7 xd_X7_user (xH_at.trans (xsh_7 kd_0)) rfl ⟨Nat.le_of_ble_eq_true rfl, Nat.le_of_ble_eq_true rfl⟩ rfl (Nat.le_of_ble_eq_true rfl) ⟨by show _ ≤ (696526 : Nat); omega, by show _ ≤ (7012671 : Nat); omega⟩ ?_
                    rintro _ _ ⟨r66, rfl, hO67, rfl⟩
                    obtain rfl : r66 = (nI aj) := hO67 _ (su_1 (by omega) (by omega) hAj)
                    show xV _ _ _ _ _ _ _ _ _ _ _ _ _ _ _ _ _ (xH D b τl) _ _ [.int (nI aj)]
                    refine xi_istore (lv' := [some (.ref a), some (.ref (b + 0)), some (.int g0), some (.int (nI u)), some (.int (nI e9)), some (.int g5), some (.int g6), some (.int (nI j7)), some (.int (nI j8)), some (.int (nI j9)), some (.int (nI 1)), some (.int (nI aj)), o12, o13, o14, o15]) hC dL_law_227 (pc' := 229) rfl (by decide) rfl ?_
                    refine xi_aload_n hC dL_law_229 (pc' := 230) rfl rfl rfl ?_
                    refine xi_iload hC dL_law_230 (pc' := 232) rfl rfl ?_
                    refine xi_iconst (v := nI 2) hC dL_law_232 (pc' := 233) rfl (by decide +kernel) ?_
                    refine xi_callV (As := [.int (nI j8), .int (nI 2)]) (rest := []) (c_X7_user l D b (b + kl) (σ := τl) (S := Tl) (N := e9) (u := u) (w := wl) hSl hRl (by omega) (x := (nI j8)) (y := (nI 2))) hC dL_law_233 (pc' := 236) rfl xw_m_L_18 xw_c_X7_user xw_ins_X7_user xw_sel_X7_user xw_ini_X7 xd_X7_user (xH_at.trans (xsh_7 kd_0)) rfl ⟨Nat.le_of_ble_eq_true rfl, Nat.le_of_ble_eq_true rfl⟩ rfl (Nat.le_of_ble_eq_true rfl) ⟨by show _ ≤ (696526 : Nat); omega, by show _ ≤ (7012671 : Nat); omega⟩ ?_
                    rintro _ _ ⟨r68, rfl, hO69, rfl⟩
                    obtain rfl : r68 = (nI 0) := hO69 _ (su_2f (by omega) (by omega) ho)
                    show xV _ _ _ _ _ _ _ _ _ _ _ _ _ _ _ _ _ (xH D b τl) _ _ [.int (nI 0)]
                    refine xi_iconst (v := nI 1) hC dL_law_236 (pc' := 237) rfl (by decide +kernel) ?_
                    refine xn_icmpne (tgt := 244) hC dL_law_237 (pc' := 240) rfl (by decide) (by omega) (by omega) (fun zc237 => ?_) (fun zc237 => ?_)
                    · skip
                      refine xi_iconst (v := nI 0) hC dL_law_244 (pc' := 245) rfl (by decide +kernel) ?_
                      refine xi_istore (lv' := [some (.ref a), some (.ref (b + 0)), some (.int g0), some (.int (nI u)), some (.int (nI e9)), some (.int g5), some (.int g6), some (.int (nI j7)), some (.int (nI j8)), some (.int (nI j9)), some (.int (nI 1)), some (.int (nI aj)), some (.int (nI 0)), o13, o14, o15]) hC dL_law_245 (pc' := 247) rfl (by decide) rfl ?_
                      refine xi_aload_n hC dL_law_247 (pc' := 248) rfl rfl rfl ?_
                      refine xi_iload hC dL_law_248 (pc' := 250) rfl rfl ?_
                      refine xi_bipush (v := nI 7) hC dL_law_250 (pc' := 252) rfl (by decide +kernel) ?_
                      refine xi_callV (As := [.int (nI j7), .int (nI 7)]) (rest := []) (c_X7_user l D b (b + kl) (σ := τl) (S := Tl) (N := e9) (u := u) (w := wl) hSl hRl (by omega) (x := (nI j7)) (y := (nI 7))) hC dL_law_252 (pc' := 255) rfl xw_m_L_18 xw_c_X7_user xw_ins_X7_user xw_sel_X7_user xw_ini_X7 xd_X7_user (xH_at.trans (xsh_7 kd_0)) rfl ⟨Nat.le_of_ble_eq_true rfl, Nat.le_of_ble_eq_true rfl⟩ rfl (Nat.le_of_ble_eq_true rfl) ⟨by show _ ≤ (696526 : Nat); omega, by show _ ≤ (7012671 : Nat); omega⟩ ?_
                      rintro _ _ ⟨r70, rfl, hO71, rfl⟩
                      obtain rfl : r70 = (nI d) := hO71 _ (su_7t (by omega) (by omega) hp eD)
                      show xV _ _ _ _ _ _ _ _ _ _ _ _ _ _ _ _ _ (xH D b τl) _ _ [.int (nI d)]
                      refine xi_istore (lv' := [some (.ref a), some (.ref (b + 0)), some (.int g0), some (.int (nI u)), some (.int (nI e9)), some (.int g5), some (.int g6), some (.int (nI j7)), some (.int (nI j8)), some (.int (nI j9)), some (.int (nI 1)), some (.int (nI aj)), some (.int (nI 0)), some (.int (nI d)), o14, o15]) hC dL_law_255 (pc' := 257) rfl (by decide) rfl ?_
                      refine xi_aload_n hC dL_law_257 (pc' := 258) rfl rfl rfl ?_
                      refine xi_iload hC dL_law_258 (pc' := 260) rfl rfl ?_
                      refine xi_bipush (v := nI 6) hC dL_law_260 (pc' := 262) rfl (by decide +kernel) ?_
                      refine xi_callV (As := [.int (nI j7), .int (nI 6)]) (rest := []) (c_X7_user l D b (b + kl) (σ := τl) (S := Tl) (N := e9) (u := u) (w := wl) hSl hRl (by omega) (x := (nI j7)) (y := (nI 6))) hC dL_law_262 (pc' := 265) rfl xw_m_L_18 xw_c_X7_user xw_ins_X7_user xw_sel_X7_user xw_ini_X7 xd_X7_user (xH_at.trans (xsh_7 kd_0)) rfl ⟨Nat.le_of_ble_eq_true rfl, Nat.le_of_ble_eq_true rfl⟩ rfl (Nat.le_of_ble_eq_true rfl) ⟨by show _ ≤ (696526 : Nat); omega, by show _ ≤ (7012671 : Nat); omega⟩ ?_
                      rintro _ _ ⟨r72, rfl, hO73, rfl⟩
                      obtain rfl : r72 = (Tl m_sentBy j7) := hO73 _ (su_6 (by omega) (by omega))
                      show xV _ _ _ _ _ _ _ _ _ _ _ _ _ _ _ _ _ (xH D b τl) _ _ [.int (Tl m_sentBy j7)]
                      refine xi_istore (lv' := [some (.ref a), some (.ref (b + 0)), some (.int g0), some (.int (nI u)), some (.int (nI e9)), some (.int g5), some (.int g6), some (.int (nI j7)), some (.int (nI j8)), some (.int (nI j9)), some (.int (nI 1)), some (.int (nI aj)), some (.int (nI 0)), some (.int (nI d)), some (.int (Tl m_sentBy j7)), o15]) hC dL_law_265 (pc' := 267) rfl (by decide) rfl ?_
                      refine xi_aload_n hC dL_law_267 (pc' := 268) rfl rfl rfl ?_
                      refine xi_iload hC dL_law_268 (pc' := 270) rfl rfl ?_
                      refine xi_iload hC dL_law_270 (pc' := 272) rfl rfl ?_
                      refine xi_callV (As := [.int (nI j7), .int (nI j8)]) (rest := []) (c_X7_passProof l D b (b + kl) (σ := τl) (S := Tl) (N := e9) (u := u) (w := wl) hSl hRl (by omega) (x := (nI j7)) (y := (nI j8))) hC dL_law_272 (pc' := 275) rfl xw_m_L_98 xw_c_X7_passProof xw_ins_X7_passProof xw_sel_X7_passProof xw_ini_X7 xd_X7_passProof (xH_at.trans (xsh_7 kd_0)) rfl ⟨Nat.le_of_ble_eq_true rfl, Nat.le_of_ble_eq_true rfl⟩ rfl (Nat.le_of_ble_eq_true rfl) ⟨by show _ ≤ (696526 : Nat); omega, by show _ ≤ (7012671 : Nat); omega⟩ ?_
                      rintro _ _ ⟨r74, σ75, rfl, hHσ75, hO77, rfl⟩
                      obtain ⟨rT76, T76, hZT76⟩ := ex_pass (S := Tl) (u := u) (w := wl) (x := (nI j7)) (y := (nI j8)) hSl.1
                      obtain ⟨eT76, hRσ75⟩ := hO77 rT76 T76 hZT76
                      obtain ⟨e2T76, fs, fa, fp, fd⟩ := p_ok hZT76 (by omega) (by omega) zc199 hp hAj haj5 eD
                      rw [if_neg (by omega)] at e2T76 fa
                      obtain rfl : r74 = nI 0 := eT76.trans e2T76
                      have hST76 := SI_pass hSl hZT76
                      have hJT76 := JJ_pass hSl.1 hJl hZT76
                      show xV _ _ _ _ _ _ _ _ _ _ _ _ _ _ _ _ _ (xH D b σ75) _ _ [.int (nI 0)]
                      refine xi_istore (lv' := [some (.ref a), some (.ref (b + 0)), some (.int g0), some (.int (nI u)), some (.int (nI e9)), some (.int g5), some (.int g6), some (.int (nI j7)), some (.int (nI j8)), some (.int (nI j9)), some (.int (nI 1)), some (.int (nI aj)), some (.int (nI 0)), some (.int (nI d)), some (.int (Tl m_sentBy j7)), some (.int (nI 0))]) hC dL_law_275 (pc' := 277) rfl (by decide) rfl ?_
                      refine xi_iload hC dL_law_277 (pc' := 279) rfl rfl ?_
                      refine xi_iload hC dL_law_279 (pc' := 281) rfl rfl ?_
                      refine xn_ifne (tgt := 290) hC dL_law_281 (pc' := 284) rfl (by decide) (by omega) (fun zc281 => ?_) (fun zc281 => ?_)
                      · skip
                        refine xi_iload hC dL_law_290 (pc' := 292) rfl rfl ?_
                        refine xn_ifne (tgt := 299) hC dL_law_292 (pc' := 295) rfl (by decide) (by omega) (fun zc292 => ?_) (fun zc292 => ?_)
                        · skip
                          refine xi_iconst (v := nI 0) hC dL_law_299 (pc' := 300) rfl (by decide +kernel) ?_
                          refine xn_icmpne (tgt := 329) hC dL_law_300 (pc' := 303) rfl (by decide) (by omega) (by omega) (fun zc300 => ?_) (fun zc300 => ?_)
                          · exact absurd zc300 (by decide)
                          · skip
                            refine xi_aload_n hC dL_law_303 (pc' := 304) rfl rfl rfl ?_
                            refine xi_iload hC dL_law_304 (pc' := 306) rfl rfl ?_
                            refine xi_bipush (v := nI 6) hC dL_law_306 (pc' := 308) rfl (by decide +kernel) ?_
                            refine xi_callV (As := [.int (nI j7), .int (nI 6)]) (rest := []) (c_X7_user l D b (b + kl) (σ := σ75) (S := T76) (N := e9) (u := u) (w := wl) hST76 hRσ75 (by omega) (x := (nI j7)) (y := (nI 6))) hC dL_law_308 (pc' := 311) rfl xw_m_L_18 xw_c_X7_user xw_ins_X7_user xw_sel_X7_user xw_ini_X7 xd_X7_user (xH_at.trans (xsh_7 kd_0)) rfl ⟨Nat.le_of_ble_eq_true rfl, Nat.le_of_ble_eq_true rfl⟩ rfl (Nat.le_of_ble_eq_true rfl) ⟨by show _ ≤ (696526 : Nat); omega, by show _ ≤ (7012671 : Nat); omega⟩ ?_
                            rintro _ _ ⟨r78, rfl, hO79, rfl⟩
                            obtain rfl : r78 = ((Tl m_sentBy j7) + (nI (2 * u))) := (hO79 _ (su_6 (by omega) (by omega))).trans (fs)
                            show xV _ _ _ _ _ _ _ _ _ _ _ _ _ _ _ _ _ (xH D b σ75) _ _ [.int ((Tl m_sentBy j7) + (nI (2 * u)))]
                            refine xi_iload hC dL_law_311 (pc' := 313) rfl rfl ?_
                            refine xi_iload hC dL_law_313 (pc' := 315) rfl rfl ?_
                            refine xn_ifeq (tgt := 324) hC dL_law_315 (pc' := 318) rfl (by decide) (by omega) (fun zc315 => ?_) (fun zc315 => ?_)
                            · exact absurd zc315 (by decide)
                            · skip
                              refine xi_iconst (v := nI 2) hC dL_law_318 (pc' := 319) rfl (by decide +kernel) ?_
                              refine xi_iload_n hC dL_law_319 (pc' := 320) rfl rfl rfl ?_
                              refine xn_imul hC dL_law_320 (pc' := 321) rfl ?_
                              refine xi_goto (tgt := 325) hC dL_law_321 (by decide) ?_
                              refine xi_iadd hC dL_law_325 (pc' := 326) rfl ?_
                              refine xi_icmpeq (tgt := 331) hC dL_law_326 (pc' := 329) rfl (by decide) (fun zc326 => ?_) (fun zc326 => ?_)
                              · skip
                                refine xi_iload hC dL_law_331 (pc' := 333) rfl rfl ?_
                                refine xn_ifeq (tgt := 379) hC dL_law_333 (pc' := 336) rfl (by decide) (by omega) (fun zc333 => ?_) (fun zc333 => ?_)
                                · exact absurd zc333 (by decide)
                                · skip
                                  refine xi_aload_n hC dL_law_336 (pc' := 337) rfl rfl rfl ?_
                                  refine xi_iload hC dL_law_337 (pc' := 339) rfl rfl ?_
                                  refine xi_iconst (v := nI 1) hC dL_law_339 (pc' := 340) rfl (by decide +kernel) ?_
                                  refine xi_callV (As := [.int (nI j8), .int (nI 1)]) (rest := []) (c_X7_user l D b (b + kl) (σ := σ75) (S := T76) (N := e9) (u := u) (w := wl) hST76 hRσ75 (by omega) (x := (nI j8)) (y := (nI 1))) hC dL_law_340 (pc' := 343) rfl xw_m_L_18 xw_c_X7_user xw_ins_X7_user xw_sel_X7_user xw_ini_X7 xd_X7_user (xH_at.trans (xsh_7 kd_0)) rfl ⟨Nat.le_of_ble_eq_true rfl, Nat.le_of_ble_eq_true rfl⟩ rfl (Nat.le_of_ble_eq_true rfl) ⟨by show _ ≤ (696526 : Nat); omega, by show _ ≤ (7012671 : Nat); omega⟩ ?_
                                  rintro _ _ ⟨r80, rfl, hO81, rfl⟩
                                  obtain rfl : r80 = (nI aj) := hO81 _ (su_1 (by omega) (by omega) fa)
                                  show xV _ _ _ _ _ _ _ _ _ _ _ _ _ _ _ _ _ (xH D b σ75) _ _ [.int (nI aj)]
                                  refine xi_iload hC dL_law_343 (pc' := 345) rfl rfl ?_
                                  refine xn_ifne (tgt := 352) hC dL_law_345 (pc' := 348) rfl (by decide) (by omega) (fun zc345 => ?_) (fun zc345 => ?_)
                                  · skip
                                    refine xi_iload hC dL_law_352 (pc' := 354) rfl rfl ?_
                                    refine xi_icmpne (tgt := 377) hC dL_law_354 (pc' := 357) rfl (by decide) (fun zc354 => ?_) (fun zc354 => ?_)
                                    · exact absurd rfl zc354
                                    · skip
                                      refine xi_iload hC dL_law_357 (pc' := 359) rfl rfl ?_
                                      refine xn_ifne (tgt := 379) hC dL_law_359 (pc' := 362) rfl (by decide) (by omega) (fun zc359 => ?_) (fun zc359 => ?_)
                                      · exact absurd zc359 (by decide)
                                      · skip
                                        refine xi_aload_n hC dL_law_362 (pc' := 363) rfl rfl rfl ?_
                                        refine xi_iload hC dL_law_363 (pc' := 365) rfl rfl ?_
                                        refine xi_bipush (v := nI 7) hC dL_law_365 (pc' := 367) rfl (by decide +kernel) ?_
                                        refine xi_callV (As := [.int (nI j8), .int (nI 7)]) (rest := []) (c_X7_user l D b (b + kl) (σ := σ75) (S := T76) (N := e9) (u := u) (w := wl) hST76 hRσ75 (by omega) (x := (nI j8)) (y := (nI 7))) hC dL_law_367 (pc' := 370) rfl xw_m_L_18 xw_c_X7_user xw_ins_X7_user xw_sel_X7_user xw_ini_X7 xd_X7_user (xH_at.trans (xsh_7 kd_0)) rfl ⟨Nat.le_of_ble_eq_true rfl, Nat.le_of_ble_eq_true rfl⟩ rfl (Nat.le_of_ble_eq_true rfl) ⟨by show _ ≤ (696526 : Nat); omega, by show _ ≤ (7012671 : Nat); omega⟩ ?_
                                        rintro _ _ ⟨r82, rfl, hO83, rfl⟩
                                        obtain rfl : r82 = (nI (d + 1)) := hO83 _ (su_7t (by omega) (by omega) fp (fd ho))
                                        show xV _ _ _ _ _ _ _ _ _ _ _ _ _ _ _ _ _ (xH D b σ75) _ _ [.int (nI (d + 1))]
                                        refine xi_iload hC dL_law_370 (pc' := 372) rfl rfl ?_
                                        refine xi_iconst (v := nI 1) hC dL_law_372 (pc' := 373) rfl (by decide +kernel) ?_
                                        refine xn_iadd hC dL_law_373 (pc' := 374) rfl ?_
                                        refine xi_icmpeq (tgt := 379) hC dL_law_374 (pc' := 377) rfl (by decide) (fun zc374 => ?_) (fun zc374 => ?_)
                                        · skip
                                          refine L379 _ T76 wl _ _ _ _ _ _ _ _ _ ?_ ?_ ?_ ?_ ?_ ?_
                                          · exact (hST76).up (by omega)
                                          · exact hRσ75
                                          · exact (hJT76).up (by omega)
                                          · omega
                                          · omega
                                          · omega
                                        · exact absurd rfl zc374
                                  · exact absurd zc345 (by omega)
                              · exact absurd rfl zc326
                        · exact absurd zc292 (by omega)
                      · exact absurd zc281 (by decide)
                    · exact absurd zc237 (by decide)
                · skip
                  obtain ⟨⟨d, hd, eD⟩, -, -⟩ := (hJl j7 (by omega)).2.2 hp
                  refine xi_aload_n hC dL_law_202 (pc' := 203) rfl rfl rfl ?_
                  refine xi_iload hC dL_law_203 (pc' := 205) rfl rfl ?_
                  refine xi_iconst (v := nI 2) hC dL_law_205 (pc' := 206) rfl (by decide +kernel) ?_
                  refine xi_callV (As := [.int (nI j7), .int (nI 2)]) (rest := []) (c_X7_user l D b (b + kl) (σ := τl) (S := Tl) (N := e9) (u := u) (w := wl) hSl hRl (by omega) (x := (nI j7)) (y := (nI 2))) hC dL_law_206 (pc' := 209) rfl xw_m_L_18 xw_c_X7_user xw_ins_X7_user xw_sel_X7_user xw_ini_X7 xd_X7_user (xH_at.trans (xsh_7 kd_0)) rfl ⟨Nat.le_of_ble_eq_true rfl, Nat.le_of_ble_eq_true rfl⟩ rfl (Nat.le_of_ble_eq_true rfl) ⟨by show _ ≤ (696526 : Nat); omega, by show _ ≤ (7012671 : Nat); omega⟩ ?_
                  rintro _ _ ⟨r84, rfl, hO85, rfl⟩
                  obtain rfl : r84 = (nI 1) := hO85 _ (su_2t (by omega) (by omega) hp)
                  show xV _ _ _ _ _ _ _ _ _ _ _ _ _ _ _ _ _ (xH D b τl) _ _ [.int (nI 1)]
                  refine xi_iconst (v := nI 1) hC dL_law_209 (pc' := 210) rfl (by decide +kernel) ?_
                  refine xn_icmpne (tgt := 217) hC dL_law_210 (pc' := 213) rfl (by decide) (by omega) (by omega) (fun zc210 => ?_) (fun zc210 => ?_)
                  · exact absurd zc210 (by decide)
                  · skip
                    refine xi_iconst (v := nI 1) hC dL_law_213 (pc' := 214) rfl (by decide +kernel) ?_
                    refine xi_goto (tgt := 218) hC dL_law_214 (by decide) ?_
                    refine xi_istore (lv' := [some (.ref a), some (.ref (b + 0)), some (.int g0), some (.int (nI u)), some (.int (nI e9)), some (.int g5), some (.int g6), some (.int (nI j7)), some (.int (nI j8)), some (.int (nI j9)), some (.int (nI 1)), o11, o12, o13, o14, o15]) hC dL_law_218 (pc' := 220) rfl (by decide) rfl ?_
                    refine xi_aload_n hC dL_law_220 (pc' := 221) rfl rfl rfl ?_
                    refine xi_iload hC dL_law_221 (pc' := 223) rfl rfl ?_
                    refine xi_iconst (v := nI 1) hC dL_law_223 (pc' := 224) rfl (by decide +kernel) ?_
                    refine xi_callV (As := [.int (nI j8), .int (nI 1)]) (rest := []) (c_X7_user l D b (b + kl) (σ := τl) (S := Tl) (N := e9) (u := u) (w := wl) hSl hRl (by omega) (x := (nI j8)) (y := (nI 1))) hC dL_law_224 (pc' := 227) rfl xw_m_L_18 xw_c_X7_user xw_ins_X7_user xw_sel_X7_user xw_ini_X7 xd_X7_user (xH_at.trans (xsh_7 kd_0)) rfl ⟨Nat.le_of_ble_eq_true rfl, Nat.le_of_ble_eq_true rfl⟩ rfl (Nat.le_of_ble_eq_true rfl) ⟨by show _ ≤ (696526 : Nat); omega, by show _ ≤ (7012671 : Nat); omega⟩ ?_
                    rintro _ _ ⟨r86, rfl, hO87, rfl⟩
                    obtain rfl : r86 = (nI 0) := hO87 _ (su_1 (by omega) (by omega) hAj)
                    show xV _ _ _ _ _ _ _ _ _ _ _ _ _ _ _ _ _ (xH D b τl) _ _ [.int (nI 0)]
                    refine xi_istore (lv' := [some (.ref a), some (.ref (b + 0)), some (.int g0), some (.int (nI u)), some (.int (nI e9)), some (.int g5), some (.int g6), some (.int (nI j7)), some (.int (nI j8)), some (.int (nI j9)), some (.int (nI 1)), some (.int (nI 0)), o12, o13, o14, o15]) hC dL_law_227 (pc' := 229) rfl (by decide) rfl ?_
                    refine xi_aload_n hC dL_law_229 (pc' := 230) rfl rfl rfl ?_
                    refine xi_iload hC dL_law_230 (pc' := 232) rfl rfl ?_
                    refine xi_iconst (v := nI 2) hC dL_law_232 (pc' := 233) rfl (by decide +kernel) ?_
                    refine xi_callV (As := [.int (nI j8), .int (nI 2)]) (rest := []) (c_X7_user l D b (b + kl) (σ := τl) (S := Tl) (N := e9) (u := u) (w := wl) hSl hRl (by omega) (x := (nI j8)) (y := (nI 2))) hC dL_law_233 (pc' := 236) rfl xw_m_L_18 xw_c_X7_user xw_ins_X7_user xw_sel_X7_user xw_ini_X7 xd_X7_user (xH_at.trans (xsh_7 kd_0)) rfl ⟨Nat.le_of_ble_eq_true rfl, Nat.le_of_ble_eq_true rfl⟩ rfl (Nat.le_of_ble_eq_true rfl) ⟨by show _ ≤ (696526 : Nat); omega, by show _ ≤ (7012671 : Nat); omega⟩ ?_
                    rintro _ _ ⟨r88, rfl, hO89, rfl⟩
                    obtain rfl : r88 = (nI 1) := hO89 _ (su_2t (by omega) (by omega) ho)
                    show xV _ _ _ _ _ _ _ _ _ _ _ _ _ _ _ _ _ (xH D b τl) _ _ [.int (nI 1)]
                    refine xi_iconst (v := nI 1) hC dL_law_236 (pc' := 237) rfl (by decide +kernel) ?_
                    refine xn_icmpne (tgt := 244) hC dL_law_237 (pc' := 240) rfl (by decide) (by omega) (by omega) (fun zc237 => ?_) (fun zc237 => ?_)
                    · exact absurd zc237 (by decide)
                    · skip
                      refine xi_iconst (v := nI 1) hC dL_law_240 (pc' := 241) rfl (by decide +kernel) ?_
                      refine xi_goto (tgt := 245) hC dL_law_241 (by decide) ?_
                      refine xi_istore (lv' := [some (.ref a), some (.ref (b + 0)), some (.int g0), some (.int (nI u)), some (.int (nI e9)), some (.int g5), some (.int g6), some (.int (nI j7)), some (.int (nI j8)), some (.int (nI j9)), some (.int (nI 1)), some (.int (nI 0)), some (.int (nI 1)), o13, o14, o15]) hC dL_law_245 (pc' := 247) rfl (by decide) rfl ?_
                      refine xi_aload_n hC dL_law_247 (pc' := 248) rfl rfl rfl ?_
                      refine xi_iload hC dL_law_248 (pc' := 250) rfl rfl ?_
                      refine xi_bipush (v := nI 7) hC dL_law_250 (pc' := 252) rfl (by decide +kernel) ?_
                      refine xi_callV (As := [.int (nI j7), .int (nI 7)]) (rest := []) (c_X7_user l D b (b + kl) (σ := τl) (S := Tl) (N := e9) (u := u) (w := wl) hSl hRl (by omega) (x := (nI j7)) (y := (nI 7))) hC dL_law_252 (pc' := 255) rfl xw_m_L_18 xw_c_X7_user xw_ins_X7_user xw_sel_X7_user xw_ini_X7 xd_X7_user (xH_at.trans (xsh_7 kd_0)) rfl ⟨Nat.le_of_ble_eq_true rfl, Nat.le_of_ble_eq_true rfl⟩ rfl (Nat.le_of_ble_eq_true rfl) ⟨by show _ ≤ (696526 : Nat); omega, by show _ ≤ (7012671 : Nat); omega⟩ ?_
                      rintro _ _ ⟨r90, rfl, hO91, rfl⟩
                      obtain rfl : r90 = (nI d) := hO91 _ (su_7t (by omega) (by omega) hp eD)
                      show xV _ _ _ _ _ _ _ _ _ _ _ _ _ _ _ _ _ (xH D b τl) _ _ [.int (nI d)]
                      refine xi_istore (lv' := [some (.ref a), some (.ref (b + 0)), some (.int g0), some (.int (nI u)), some (.int (nI e9)), some (.int g5), some (.int g6), some (.int (nI j7)), some (.int (nI j8)), some (.int (nI j9)), some (.int (nI 1)), some (.int (nI 0)), some (.int (nI 1)), some (.int (nI d)), o14, o15]) hC dL_law_255 (pc' := 257) rfl (by decide) rfl ?_
                      refine xi_aload_n hC dL_law_257 (pc' := 258) rfl rfl rfl ?_
                      refine xi_iload hC dL_law_258 (pc' := 260) rfl rfl ?_
                      refine xi_bipush (v := nI 6) hC dL_law_260 (pc' := 262) rfl (by decide +kernel) ?_
                      refine xi_callV (As := [.int (nI j7), .int (nI 6)]) (rest := []) (c_X7_user l D b (b + kl) (σ := τl) (S := Tl) (N := e9) (u := u) (w := wl) hSl hRl (by omega) (x := (nI j7)) (y := (nI 6))) hC dL_law_262 (pc' := 265) rfl xw_m_L_18 xw_c_X7_user xw_ins_X7_user xw_sel_X7_user xw_ini_X7 xd_X7_user (xH_at.trans (xsh_7 kd_0)) rfl ⟨Nat.le_of_ble_eq_true rfl, Nat.le_of_ble_eq_true rfl⟩ rfl (Nat.le_of_ble_eq_true rfl) ⟨by show _ ≤ (696526 : Nat); omega, by show _ ≤ (7012671 : Nat); omega⟩ ?_
                      rintro _ _ ⟨r92, rfl, hO93, rfl⟩
                      obtain rfl : r92 = (Tl m_sentBy j7) := hO93 _ (su_6 (by omega) (by omega))
                      show xV _ _ _ _ _ _ _ _ _ _ _ _ _ _ _ _ _ (xH D b τl) _ _ [.int (Tl m_sentBy j7)]
                      refine xi_istore (lv' := [some (.ref a), some (.ref (b + 0)), some (.int g0), some (.int (nI u)), some (.int (nI e9)), some (.int g5), some (.int g6), some (.int (nI j7)), some (.int (nI j8)), some (.int (nI j9)), some (.int (nI 1)), some (.int (nI 0)), some (.int (nI 1)), some (.int (nI d)), some (.int (Tl m_sentBy j7)), o15]) hC dL_law_265 (pc' := 267) rfl (by decide) rfl ?_
                      refine xi_aload_n hC dL_law_267 (pc' := 268) rfl rfl rfl ?_
                      refine xi_iload hC dL_law_268 (pc' := 270) rfl rfl ?_
                      refine xi_iload hC dL_law_270 (pc' := 272) rfl rfl ?_
                      refine xi_callV (As := [.int (nI j7), .int (nI j8)]) (rest := []) (c_X7_passProof l D b (b + kl) (σ := τl) (S := Tl) (N := e9) (u := u) (w := wl) hSl hRl (by omega) (x := (nI j7)) (y := (nI j8))) hC dL_law_272 (pc' := 275) rfl xw_m_L_98 xw_c_X7_passProof xw_ins_X7_passProof xw_sel_X7_passProof xw_ini_X7 xd_X7_passProof (xH_at.trans (xsh_7 kd_0)) rfl ⟨Nat.le_of_ble_eq_true rfl, Nat.le_of_ble_eq_true rfl⟩ rfl (Nat.le_of_ble_eq_true rfl) ⟨by show _ ≤ (696526 : Nat); omega, by show _ ≤ (7012671 : Nat); omega⟩ ?_
                      rintro _ _ ⟨r94, σ95, rfl, hHσ95, hO97, rfl⟩
                      obtain ⟨rT96, T96, hZT96⟩ := ex_pass (S := Tl) (u := u) (w := wl) (x := (nI j7)) (y := (nI j8)) hSl.1
                      obtain ⟨eT96, hRσ95⟩ := hO97 rT96 T96 hZT96
                      obtain ⟨e2T96, fs, fa, fp, fd⟩ := p_ok hZT96 (by omega) (by omega) zc199 hp hAj haj5 eD
                      rw [if_pos rfl] at e2T96 fa
                      obtain rfl : r94 = nI 1 := eT96.trans e2T96
                      have hST96 := SI_pass hSl hZT96
                      have hJT96 := JJ_pass hSl.1 hJl hZT96
                      show xV _ _ _ _ _ _ _ _ _ _ _ _ _ _ _ _ _ (xH D b σ95) _ _ [.int (nI 1)]
                      refine xi_istore (lv' := [some (.ref a), some (.ref (b + 0)), some (.int g0), some (.int (nI u)), some (.int (nI e9)), some (.int g5), some (.int g6), some (.int (nI j7)), some (.int (nI j8)), some (.int (nI j9)), some (.int (nI 1)), some (.int (nI 0)), some (.int (nI 1)), some (.int (nI d)), some (.int (Tl m_sentBy j7)), some (.int (nI 1))]) hC dL_law_275 (pc' := 277) rfl (by decide) rfl ?_
                      refine xi_iload hC dL_law_277 (pc' := 279) rfl rfl ?_
                      refine xi_iload hC dL_law_279 (pc' := 281) rfl rfl ?_
                      refine xn_ifne (tgt := 290) hC dL_law_281 (pc' := 284) rfl (by decide) (by omega) (fun zc281 => ?_) (fun zc281 => ?_)
                      · skip
                        refine xi_iload hC dL_law_290 (pc' := 292) rfl rfl ?_
                        refine xn_ifne (tgt := 299) hC dL_law_292 (pc' := 295) rfl (by decide) (by omega) (fun zc292 => ?_) (fun zc292 => ?_)
                        · exact absurd zc292 (by decide)
                        · skip
                          refine xi_iconst (v := nI 1) hC dL_law_295 (pc' := 296) rfl (by decide +kernel) ?_
                          refine xi_goto (tgt := 300) hC dL_law_296 (by decide) ?_
                          refine xn_icmpne (tgt := 329) hC dL_law_300 (pc' := 303) rfl (by decide) (by omega) (by omega) (fun zc300 => ?_) (fun zc300 => ?_)
                          · exact absurd zc300 (by decide)
                          · skip
                            refine xi_aload_n hC dL_law_303 (pc' := 304) rfl rfl rfl ?_
                            refine xi_iload hC dL_law_304 (pc' := 306) rfl rfl ?_
                            refine xi_bipush (v := nI 6) hC dL_law_306 (pc' := 308) rfl (by decide +kernel) ?_
                            refine xi_callV (As := [.int (nI j7), .int (nI 6)]) (rest := []) (c_X7_user l D b (b + kl) (σ := σ95) (S := T96) (N := e9) (u := u) (w := wl) hST96 hRσ95 (by omega) (x := (nI j7)) (y := (nI 6))) hC dL_law_308 (pc' := 311) rfl xw_m_L_18 xw_c_X7_user xw_ins_X7_user xw_sel_X7_user xw_ini_X7 xd_X7_user (xH_at.trans (xsh_7 kd_0)) rfl ⟨Nat.le_of_ble_eq_true rfl, Nat.le_of_ble_eq_true rfl⟩ rfl (Nat.le_of_ble_eq_true rfl) ⟨by show _ ≤ (696526 : Nat); omega, by show _ ≤ (7012671 : Nat); omega⟩ ?_
                            rintro _ _ ⟨r98, rfl, hO99, rfl⟩
                            obtain rfl : r98 = ((Tl m_sentBy j7) + (nI (2 * u))) := (hO99 _ (su_6 (by omega) (by omega))).trans (fs)
                            show xV _ _ _ _ _ _ _ _ _ _ _ _ _ _ _ _ _ (xH D b σ95) _ _ [.int ((Tl m_sentBy j7) + (nI (2 * u)))]
                            refine xi_iload hC dL_law_311 (pc' := 313) rfl rfl ?_
                            refine xi_iload hC dL_law_313 (pc' := 315) rfl rfl ?_
                            refine xn_ifeq (tgt := 324) hC dL_law_315 (pc' := 318) rfl (by decide) (by omega) (fun zc315 => ?_) (fun zc315 => ?_)
                            · exact absurd zc315 (by decide)
                            · skip
                              refine xi_iconst (v := nI 2) hC dL_law_318 (pc' := 319) rfl (by decide +kernel) ?_
                              refine xi_iload_n hC dL_law_319 (pc' := 320) rfl rfl rfl ?_
                              refine xn_imul hC dL_law_320 (pc' := 321) rfl ?_
                              refine xi_goto (tgt := 325) hC dL_law_321 (by decide) ?_
                              refine xi_iadd hC dL_law_325 (pc' := 326) rfl ?_
                              refine xi_icmpeq (tgt := 331) hC dL_law_326 (pc' := 329) rfl (by decide) (fun zc326 => ?_) (fun zc326 => ?_)
                              · skip
                                refine xi_iload hC dL_law_331 (pc' := 333) rfl rfl ?_
                                refine xn_ifeq (tgt := 379) hC dL_law_333 (pc' := 336) rfl (by decide) (by omega) (fun zc333 => ?_) (fun zc333 => ?_)
                                · exact absurd zc333 (by decide)
                                · skip
                                  refine xi_aload_n hC dL_law_336 (pc' := 337) rfl rfl rfl ?_
                                  refine xi_iload hC dL_law_337 (pc' := 339) rfl rfl ?_
                                  refine xi_iconst (v := nI 1) hC dL_law_339 (pc' := 340) rfl (by decide +kernel) ?_
                                  refine xi_callV (As := [.int (nI j8), .int (nI 1)]) (rest := []) (c_X7_user l D b (b + kl) (σ := σ95) (S := T96) (N := e9) (u := u) (w := wl) hST96 hRσ95 (by omega) (x := (nI j8)) (y := (nI 1))) hC dL_law_340 (pc' := 343) rfl xw_m_L_18 xw_c_X7_user xw_ins_X7_user xw_sel_X7_user xw_ini_X7 xd_X7_user (xH_at.trans (xsh_7 kd_0)) rfl ⟨Nat.le_of_ble_eq_true rfl, Nat.le_of_ble_eq_true rfl⟩ rfl (Nat.le_of_ble_eq_true rfl) ⟨by show _ ≤ (696526 : Nat); omega, by show _ ≤ (7012671 : Nat); omega⟩ ?_
                                  rintro _ _ ⟨r100, rfl, hO101, rfl⟩
                                  obtain rfl : r100 = (nI 5) := hO101 _ (su_1 (by omega) (by omega) fa)
                                  show xV _ _ _ _ _ _ _ _ _ _ _ _ _ _ _ _ _ (xH D b σ95) _ _ [.int (nI 5)]
                                  refine xi_iload hC dL_law_343 (pc' := 345) rfl rfl ?_
                                  refine xn_ifne (tgt := 352) hC dL_law_345 (pc' := 348) rfl (by decide) (by omega) (fun zc345 => ?_) (fun zc345 => ?_)
                                  · exact absurd zc345 (by decide)
                                  · skip
                                    refine xi_iconst (v := nI 5) hC dL_law_348 (pc' := 349) rfl (by decide +kernel) ?_
                                    refine xi_goto (tgt := 354) hC dL_law_349 (by decide) ?_
                                    refine xn_icmpne (tgt := 377) hC dL_law_354 (pc' := 357) rfl (by decide) (by omega) (by omega) (fun zc354 => ?_) (fun zc354 => ?_)
                                    · exact absurd zc354 (by decide)
                                    · skip
                                      refine xi_iload hC dL_law_357 (pc' := 359) rfl rfl ?_
                                      refine xn_ifne (tgt := 379) hC dL_law_359 (pc' := 362) rfl (by decide) (by omega) (fun zc359 => ?_) (fun zc359 => ?_)
                                      · skip
                                        refine L379 _ T96 wl _ _ _ _ _ _ _ _ _ ?_ ?_ ?_ ?_ ?_ ?_
                                        · exact (hST96).up (by omega)
                                        · exact hRσ95
                                        · exact (hJT96).up (by omega)
                                        · omega
                                        · omega
                                        · omega
                                      · exact absurd zc359 (by decide)
                              · exact absurd rfl zc326
                      · exact absurd zc281 (by decide)
                · skip
                  obtain ⟨⟨d, hd, eD⟩, -, -⟩ := (hJl j7 (by omega)).2.2 hp
                  refine xi_aload_n hC dL_law_202 (pc' := 203) rfl rfl rfl ?_
                  refine xi_iload hC dL_law_203 (pc' := 205) rfl rfl ?_
                  refine xi_iconst (v := nI 2) hC dL_law_205 (pc' := 206) rfl (by decide +kernel) ?_
                  refine xi_callV (As := [.int (nI j7), .int (nI 2)]) (rest := []) (c_X7_user l D b (b + kl) (σ := τl) (S := Tl) (N := e9) (u := u) (w := wl) hSl hRl (by omega) (x := (nI j7)) (y := (nI 2))) hC dL_law_206 (pc' := 209) rfl xw_m_L_18 xw_c_X7_user xw_ins_X7_user xw_sel_X7_user xw_ini_X7 xd_X7_user (xH_at.trans (xsh_7 kd_0)) rfl ⟨Nat.le_of_ble_eq_true rfl, Nat.le_of_ble_eq_true rfl⟩ rfl (Nat.le_of_ble_eq_true rfl) ⟨by show _ ≤ (696526 : Nat); omega, by show _ ≤ (7012671 : Nat); omega⟩ ?_
                  rintro _ _ ⟨r102, rfl, hO103, rfl⟩
                  obtain rfl : r102 = (nI 1) := hO103 _ (su_2t (by omega) (by omega) hp)
                  show xV _ _ _ _ _ _ _ _ _ _ _ _ _ _ _ _ _ (xH D b τl) _ _ [.int (nI 1)]
                  refine xi_iconst (v := nI 1) hC dL_law_209 (pc' := 210) rfl (by decide +kernel) ?_
                  refine xn_icmpne (tgt := 217) hC dL_law_210 (pc' := 213) rfl (by decide) (by omega) (by omega) (fun zc210 => ?_) (fun zc210 => ?_)
                  · exact absurd zc210 (by decide)
                  · skip
                    refine xi_iconst (v := nI 1) hC dL_law_213 (pc' := 214) rfl (by decide +kernel) ?_
                    refine xi_goto (tgt := 218) hC dL_law_214 (by decide) ?_
                    refine xi_istore (lv' := [some (.ref a), some (.ref (b + 0)), some (.int g0), some (.int (nI u)), some (.int (nI e9)), some (.int g5), some (.int g6), some (.int (nI j7)), some (.int (nI j8)), some (.int (nI j9)), some (.int (nI 1)), o11, o12, o13, o14, o15]) hC dL_law_218 (pc' := 220) rfl (by decide) rfl ?_
                    refine xi_aload_n hC dL_law_220 (pc' := 221) rfl rfl rfl ?_
                    refine xi_iload hC dL_law_221 (pc' := 223) rfl rfl ?_
                    refine xi_iconst (v := nI 1) hC dL_law_223 (pc' := 224) rfl (by decide +kernel) ?_
                    refine xi_callV (As := [.int (nI j8), .int (nI 1)]) (rest := []) (c_X7_user l D b (b + kl) (σ := τl) (S := Tl) (N := e9) (u := u) (w := wl) hSl hRl (by omega) (x := (nI j8)) (y := (nI 1))) hC dL_law_224 (pc' := 227) rfl xw_m_L_18 xw_c_X7_user xw_ins_X7_user xw_sel_X7_user xw_ini_X7 xd_X7_user (xH_at.trans (xsh_7 kd_0)) rfl ⟨Nat.le_of_ble_eq_true rfl, Nat.le_of_ble_eq_true rfl⟩ rfl (Nat.le_of_ble_eq_true rfl) ⟨by show _ ≤ (696526 : Nat); omega, by show _ ≤ (7012671 : Nat); omega⟩ ?_
                    rintro _ _ ⟨r104, rfl, hO105, rfl⟩
                    obtain rfl : r104 = (nI aj) := hO105 _ (su_1 (by omega) (by omega) hAj)
                    show xV _ _ _ _ _ _ _ _ _ _ _ _ _ _ _ _ _ (xH D b τl) _ _ [.int (nI aj)]
                    refine xi_istore (lv' := [some (.ref a), some (.ref (b + 0)), some (.int g0), some (.int (nI u)), some (.int (nI e9)), some (.int g5), some (.int g6), some (.int (nI j7)), some (.int (nI j8)), some (.int (nI j9)), some (.int (nI 1)), some (.int (nI aj)), o12, o13, o14, o15]) hC dL_law_227 (pc' := 229) rfl (by decide) rfl ?_
                    refine xi_aload_n hC dL_law_229 (pc' := 230) rfl rfl rfl ?_
                    refine xi_iload hC dL_law_230 (pc' := 232) rfl rfl ?_
                    refine xi_iconst (v := nI 2) hC dL_law_232 (pc' := 233) rfl (by decide +kernel) ?_
                    refine xi_callV (As := [.int (nI j8), .int (nI 2)]) (rest := []) (c_X7_user l D b (b + kl) (σ := τl) (S := Tl) (N := e9) (u := u) (w := wl) hSl hRl (by omega) (x := (nI j8)) (y := (nI 2))) hC dL_law_233 (pc' := 236) rfl xw_m_L_18 xw_c_X7_user xw_ins_X7_user xw_sel_X7_user xw_ini_X7 xd_X7_user (xH_at.trans (xsh_7 kd_0)) rfl ⟨Nat.le_of_ble_eq_true rfl, Nat.le_of_ble_eq_true rfl⟩ rfl (Nat.le_of_ble_eq_true rfl) ⟨by show _ ≤ (696526 : Nat); omega, by show _ ≤ (7012671 : Nat); omega⟩ ?_
                    rintro _ _ ⟨r106, rfl, hO107, rfl⟩
                    obtain rfl : r106 = (nI 1) := hO107 _ (su_2t (by omega) (by omega) ho)
                    show xV _ _ _ _ _ _ _ _ _ _ _ _ _ _ _ _ _ (xH D b τl) _ _ [.int (nI 1)]
                    refine xi_iconst (v := nI 1) hC dL_law_236 (pc' := 237) rfl (by decide +kernel) ?_
                    refine xn_icmpne (tgt := 244) hC dL_law_237 (pc' := 240) rfl (by decide) (by omega) (by omega) (fun zc237 => ?_) (fun zc237 => ?_)
                    · exact absurd zc237 (by decide)
                    · skip
                      refine xi_iconst (v := nI 1) hC dL_law_240 (pc' := 241) rfl (by decide +kernel) ?_
                      refine xi_goto (tgt := 245) hC dL_law_241 (by decide) ?_
                      refine xi_istore (lv' := [some (.ref a), some (.ref (b + 0)), some (.int g0), some (.int (nI u)), some (.int (nI e9)), some (.int g5), some (.int g6), some (.int (nI j7)), some (.int (nI j8)), some (.int (nI j9)), some (.int (nI 1)), some (.int (nI aj)), some (.int (nI 1)), o13, o14, o15]) hC dL_law_245 (pc' := 247) rfl (by decide) rfl ?_
                      refine xi_aload_n hC dL_law_247 (pc' := 248) rfl rfl rfl ?_
                      refine xi_iload hC dL_law_248 (pc' := 250) rfl rfl ?_
                      refine xi_bipush (v := nI 7) hC dL_law_250 (pc' := 252) rfl (by decide +kernel) ?_
                      refine xi_callV (As := [.int (nI j7), .int (nI 7)]) (rest := []) (c_X7_user l D b (b + kl) (σ := τl) (S := Tl) (N := e9) (u := u) (w := wl) hSl hRl (by omega) (x := (nI j7)) (y := (nI 7))) hC dL_law_252 (pc' := 255) rfl xw_m_L_18 xw_c_X7_user xw_ins_X7_user xw_sel_X7_user xw_ini_X7 xd_X7_user (xH_at.trans (xsh_7 kd_0)) rfl ⟨Nat.le_of_ble_eq_true rfl, Nat.le_of_ble_eq_true rfl⟩ rfl (Nat.le_of_ble_eq_true rfl) ⟨by show _ ≤ (696526 : Nat); omega, by show _ ≤ (7012671 : Nat); omega⟩ ?_
                      rintro _ _ ⟨r108, rfl, hO109, rfl⟩
                      obtain rfl : r108 = (nI d) := hO109 _ (su_7t (by omega) (by omega) hp eD)
                      show xV _ _ _ _ _ _ _ _ _ _ _ _ _ _ _ _ _ (xH D b τl) _ _ [.int (nI d)]
                      refine xi_istore (lv' := [some (.ref a), some (.ref (b + 0)), some (.int g0), some (.int (nI u)), some (.int (nI e9)), some (.int g5), some (.int g6), some (.int (nI j7)), some (.int (nI j8)), some (.int (nI j9)), some (.int (nI 1)), some (.int (nI aj)), some (.int (nI 1)), some (.int (nI d)), o14, o15]) hC dL_law_255 (pc' := 257) rfl (by decide) rfl ?_
                      refine xi_aload_n hC dL_law_257 (pc' := 258) rfl rfl rfl ?_
                      refine xi_iload hC dL_law_258 (pc' := 260) rfl rfl ?_
                      refine xi_bipush (v := nI 6) hC dL_law_260 (pc' := 262) rfl (by decide +kernel) ?_
                      refine xi_callV (As := [.int (nI j7), .int (nI 6)]) (rest := []) (c_X7_user l D b (b + kl) (σ := τl) (S := Tl) (N := e9) (u := u) (w := wl) hSl hRl (by omega) (x := (nI j7)) (y := (nI 6))) hC dL_law_262 (pc' := 265) rfl xw_m_L_18 xw_c_X7_user xw_ins_X7_user xw_sel_X7_user xw_ini_X7 xd_X7_user (xH_at.trans (xsh_7 kd_0)) rfl ⟨Nat.le_of_ble_eq_true rfl, Nat.le_of_ble_eq_true rfl⟩ rfl (Nat.le_of_ble_eq_true rfl) ⟨by show _ ≤ (696526 : Nat); omega, by show _ ≤ (7012671 : Nat); omega⟩ ?_
                      rintro _ _ ⟨r110, rfl, hO111, rfl⟩
                      obtain rfl : r110 = (Tl m_sentBy j7) := hO111 _ (su_6 (by omega) (by omega))
                      show xV _ _ _ _ _ _ _ _ _ _ _ _ _ _ _ _ _ (xH D b τl) _ _ [.int (Tl m_sentBy j7)]
                      refine xi_istore (lv' := [some (.ref a), some (.ref (b + 0)), some (.int g0), some (.int (nI u)), some (.int (nI e9)), some (.int g5), some (.int g6), some (.int (nI j7)), some (.int (nI j8)), some (.int (nI j9)), some (.int (nI 1)), some (.int (nI aj)), some (.int (nI 1)), some (.int (nI d)), some (.int (Tl m_sentBy j7)), o15]) hC dL_law_265 (pc' := 267) rfl (by decide) rfl ?_
                      refine xi_aload_n hC dL_law_267 (pc' := 268) rfl rfl rfl ?_
                      refine xi_iload hC dL_law_268 (pc' := 270) rfl rfl ?_
                      refine xi_iload hC dL_law_270 (pc' := 272) rfl rfl ?_
                      refine xi_callV (As := [.int (nI j7), .int (nI j8)]) (rest := []) (c_X7_passProof l D b (b + kl) (σ := τl) (S := Tl) (N := e9) (u := u) (w := wl) hSl hRl (by omega) (x := (nI j7)) (y := (nI j8))) hC dL_law_272 (pc' := 275) rfl xw_m_L_98 xw_c_X7_passProof xw_ins_X7_passProof xw_sel_X7_passProof xw_ini_X7 xd_X7_passProof (xH_at.trans (xsh_7 kd_0)) rfl ⟨Nat.le_of_ble_eq_true rfl, Nat.le_of_ble_eq_true rfl⟩ rfl (Nat.le_of_ble_eq_true rfl) ⟨by show _ ≤ (696526 : Nat); omega, by show _ ≤ (7012671 : Nat); omega⟩ ?_
                      rintro _ _ ⟨r112, σ113, rfl, hHσ113, hO115, rfl⟩
                      obtain ⟨rT114, T114, hZT114⟩ := ex_pass (S := Tl) (u := u) (w := wl) (x := (nI j7)) (y := (nI j8)) hSl.1
                      obtain ⟨eT114, hRσ113⟩ := hO115 rT114 T114 hZT114
                      obtain ⟨e2T114, fs, fa, fp, fd⟩ := p_ok hZT114 (by omega) (by omega) zc199 hp hAj haj5 eD
                      rw [if_neg (by omega)] at e2T114 fa
                      obtain rfl : r112 = nI 0 := eT114.trans e2T114
                      have hST114 := SI_pass hSl hZT114
                      have hJT114 := JJ_pass hSl.1 hJl hZT114
                      show xV _ _ _ _ _ _ _ _ _ _ _ _ _ _ _ _ _ (xH D b σ113) _ _ [.int (nI 0)]
                      refine xi_istore (lv' := [some (.ref a), some (.ref (b + 0)), some (.int g0), some (.int (nI u)), some (.int (nI e9)), some (.int g5), some (.int g6), some (.int (nI j7)), some (.int (nI j8)), some (.int (nI j9)), some (.int (nI 1)), some (.int (nI aj)), some (.int (nI 1)), some (.int (nI d)), some (.int (Tl m_sentBy j7)), some (.int (nI 0))]) hC dL_law_275 (pc' := 277) rfl (by decide) rfl ?_
                      refine xi_iload hC dL_law_277 (pc' := 279) rfl rfl ?_
                      refine xi_iload hC dL_law_279 (pc' := 281) rfl rfl ?_
                      refine xn_ifne (tgt := 290) hC dL_law_281 (pc' := 284) rfl (by decide) (by omega) (fun zc281 => ?_) (fun zc281 => ?_)
                      · skip
                        refine xi_iload hC dL_law_290 (pc' := 292) rfl rfl ?_
                        refine xn_ifne (tgt := 299) hC dL_law_292 (pc' := 295) rfl (by decide) (by omega) (fun zc292 => ?_) (fun zc292 => ?_)
                        · skip
                          refine xi_iconst (v := nI 0) hC dL_law_299 (pc' := 300) rfl (by decide +kernel) ?_
                          refine xn_icmpne (tgt := 329) hC dL_law_300 (pc' := 303) rfl (by decide) (by omega) (by omega) (fun zc300 => ?_) (fun zc300 => ?_)
                          · exact absurd zc300 (by decide)
                          · skip
                            refine xi_aload_n hC dL_law_303 (pc' := 304) rfl rfl rfl ?_
                            refine xi_iload hC dL_law_304 (pc' := 306) rfl rfl ?_
                            refine xi_bipush (v := nI 6) hC dL_law_306 (pc' := 308) rfl (by decide +kernel) ?_
                            refine xi_callV (As := [.int (nI j7), .int (nI 6)]) (rest := []) (c_X7_user l D b (b + kl) (σ := σ113) (S := T114) (N := e9) (u := u) (w := wl) hST114 hRσ113 (by omega) (x := (nI j7)) (y := (nI 6))) hC dL_law_308 (pc' := 311) rfl xw_m_L_18 xw_c_X7_user xw_ins_X7_user xw_sel_X7_user xw_ini_X7 xd_X7_user (xH_at.trans (xsh_7 kd_0)) rfl ⟨Nat.le_of_ble_eq_true rfl, Nat.le_of_ble_eq_true rfl⟩ rfl (Nat.le_of_ble_eq_true rfl) ⟨by show _ ≤ (696526 : Nat); omega, by show _ ≤ (7012671 : Nat); omega⟩ ?_
                            rintro _ _ ⟨r116, rfl, hO117, rfl⟩
                            obtain rfl : r116 = ((Tl m_sentBy j7) + (nI (2 * u))) := (hO117 _ (su_6 (by omega) (by omega))).trans (fs)
                            show xV _ _ _ _ _ _ _ _ _ _ _ _ _ _ _ _ _ (xH D b σ113) _ _ [.int ((Tl m_sentBy j7) + (nI (2 * u)))]
                            refine xi_iload hC dL_law_311 (pc' := 313) rfl rfl ?_
                            refine xi_iload hC dL_law_313 (pc' := 315) rfl rfl ?_
                            refine xn_ifeq (tgt := 324) hC dL_law_315 (pc' := 318) rfl (by decide) (by omega) (fun zc315 => ?_) (fun zc315 => ?_)
                            · exact absurd zc315 (by decide)
                            · skip
                              refine xi_iconst (v := nI 2) hC dL_law_318 (pc' := 319) rfl (by decide +kernel) ?_
                              refine xi_iload_n hC dL_law_319 (pc' := 320) rfl rfl rfl ?_
                              refine xn_imul hC dL_law_320 (pc' := 321) rfl ?_
                              refine xi_goto (tgt := 325) hC dL_law_321 (by decide) ?_
                              refine xi_iadd hC dL_law_325 (pc' := 326) rfl ?_
                              refine xi_icmpeq (tgt := 331) hC dL_law_326 (pc' := 329) rfl (by decide) (fun zc326 => ?_) (fun zc326 => ?_)
                              · skip
                                refine xi_iload hC dL_law_331 (pc' := 333) rfl rfl ?_
                                refine xn_ifeq (tgt := 379) hC dL_law_333 (pc' := 336) rfl (by decide) (by omega) (fun zc333 => ?_) (fun zc333 => ?_)
                                · exact absurd zc333 (by decide)
                                · skip
                                  refine xi_aload_n hC dL_law_336 (pc' := 337) rfl rfl rfl ?_
                                  refine xi_iload hC dL_law_337 (pc' := 339) rfl rfl ?_
                                  refine xi_iconst (v := nI 1) hC dL_law_339 (pc' := 340) rfl (by decide +kernel) ?_
                                  refine xi_callV (As := [.int (nI j8), .int (nI 1)]) (rest := []) (c_X7_user l D b (b + kl) (σ := σ113) (S := T114) (N := e9) (u := u) (w := wl) hST114 hRσ113 (by omega) (x := (nI j8)) (y := (nI 1))) hC dL_law_340 (pc' := 343) rfl xw_m_L_18 xw_c_X7_user xw_ins_X7_user xw_sel_X7_user xw_ini_X7 xd_X7_user (xH_at.trans (xsh_7 kd_0)) rfl ⟨Nat.le_of_ble_eq_true rfl, Nat.le_of_ble_eq_true rfl⟩ rfl (Nat.le_of_ble_eq_true rfl) ⟨by show _ ≤ (696526 : Nat); omega, by show _ ≤ (7012671 : Nat); omega⟩ ?_
                                  rintro _ _ ⟨r118, rfl, hO119, rfl⟩
                                  obtain rfl : r118 = (nI aj) := hO119 _ (su_1 (by omega) (by omega) fa)
                                  show xV _ _ _ _ _ _ _ _ _ _ _ _ _ _ _ _ _ (xH D b σ113) _ _ [.int (nI aj)]
                                  refine xi_iload hC dL_law_343 (pc' := 345) rfl rfl ?_
                                  refine xn_ifne (tgt := 352) hC dL_law_345 (pc' := 348) rfl (by decide) (by omega) (fun zc345 => ?_) (fun zc345 => ?_)
                                  · skip
                                    refine xi_iload hC dL_law_352 (pc' := 354) rfl rfl ?_
                                    refine xi_icmpne (tgt := 377) hC dL_law_354 (pc' := 357) rfl (by decide) (fun zc354 => ?_) (fun zc354 => ?_)
                                    · exact absurd rfl zc354
                                    · skip
                                      refine xi_iload hC dL_law_357 (pc' := 359) rfl rfl ?_
                                      refine xn_ifne (tgt := 379) hC dL_law_359 (pc' := 362) rfl (by decide) (by omega) (fun zc359 => ?_) (fun zc359 => ?_)
                                      · skip
                                        refine L379 _ T114 wl _ _ _ _ _ _ _ _ _ ?_ ?_ ?_ ?_ ?_ ?_
                                        · exact (hST114).up (by omega)
                                        · exact hRσ113
                                        · exact (hJT114).up (by omega)
                                        · omega
                                        · omega
                                        · omega
                                      · exact absurd zc359 (by decide)
                                  · exact absurd zc345 (by omega)
                              · exact absurd rfl zc326
                        · exact absurd zc292 (by omega)
                      · exact absurd zc281 (by decide)
            refine xi_iload hC dL_law_166 (pc' := 168) rfl rfl ?_
            refine xi_bipush (v := nI 9) hC dL_law_168 (pc' := 170) rfl (by decide +kernel) ?_
            refine xn_icmpge (tgt := 195) hC dL_law_170 (pc' := 173) rfl (by decide) (by omega) (by omega) (fun zc170 => ?_) (fun zc170 => ?_)
            · skip
              refine L195  
            · skip
              refine xi_iload hC dL_law_173 (pc' := 175) rfl rfl ?_
              refine xi_iconst (v := nI 3) hC dL_law_175 (pc' := 176) rfl (by decide +kernel) ?_
              refine xn_icmple (tgt := 195) hC dL_law_176 (pc' := 179) rfl (by decide) (by omega) (by omega) (fun zc176 => ?_) (fun zc176 => ?_)
              · skip
                refine L195  
              · skip
                refine xi_aload_n hC dL_law_179 (pc' := 180) rfl rfl rfl ?_
                refine xi_iload_n hC dL_law_180 (pc' := 181) rfl rfl rfl ?_
                refine xi_iload hC dL_law_181 (pc' := 183) rfl rfl ?_
                refine xi_iconst (v := nI 4) hC dL_law_183 (pc' := 184) rfl (by decide +kernel) ?_
                refine xi_ishr hC dL_law_184 (pc' := 185) rfl ?_
                refine xi_iload hC dL_law_185 (pc' := 187) rfl rfl ?_
                refine xi_callS (As := [.ref (b + 0), .int (nI u), .int (g5 >>> ((nI 4) &&& 31)), .int g6]) (rest := []) (c_L_stores l D b (kl) (σ := τl) (S := Tl) (N := e9) (u := u) (w := wl) hSl hRl hJl (by omega) (g := (g5 >>> ((nI 4) &&& 31))) (h := g6) (by omega)) hC dL_law_187 (pc' := 190) rfl xw_m_L_124 xw_c_L_stores xw_sta_L_stores xw_ini_L xd_L_stores ⟨Nat.le_of_ble_eq_true rfl, Nat.le_of_ble_eq_true rfl⟩ rfl (Nat.le_of_ble_eq_true rfl) ⟨by show _ ≤ (696526 : Nat); omega, by show _ ≤ (7012671 : Nat); omega⟩ ?_
                rintro _ _ ⟨σ120, T121, wT121, rfl, hST121, hRσ120, hJT121, rfl⟩
                show xV _ _ _ _ _ _ _ _ _ _ _ _ _ _ _ _ _ (xH D b σ120) _ _ [.int (nI 1)]
                refine xn_ifne (tgt := 379) hC dL_law_190 (pc' := 193) rfl (by decide) (by omega) (fun zc190 => ?_) (fun zc190 => ?_)
                · skip
                  refine L379 _ T121 wT121 _ _ _ _ _ _ _ _ _ ?_ ?_ ?_ ?_ ?_ ?_
                  · exact (hST121).up (by omega)
                  · exact hRσ120
                  · exact (hJT121).up (by omega)
                  · omega
                  · omega
                  · omega
                · exact absurd zc190 (by decide)
          · skip
            refine xi_aload_n hC dL_law_148 (pc' := 149) rfl rfl rfl ?_
            refine xi_iload hC dL_law_149 (pc' := 151) rfl rfl ?_
            refine xi_iload hC dL_law_151 (pc' := 153) rfl rfl ?_
            refine xi_iload_n hC dL_law_153 (pc' := 154) rfl rfl rfl ?_
            refine xi_iload hC dL_law_154 (pc' := 156) rfl rfl ?_
            refine xi_iconst (v := nI 4) hC dL_law_156 (pc' := 157) rfl (by decide +kernel) ?_
            refine xi_ishr hC dL_law_157 (pc' := 158) rfl ?_
            refine xi_callS (As := [.ref (b + 0), .int (nI j7), .int (nI j8), .int (nI u), .int (g5 >>> ((nI 4) &&& 31))]) (rest := []) (c_L_letters l D b (kl) (σ := τl) (S := Tl) (N := e9) (u := u) (w := wl) hSl hRl hJl (by omega) (i := j7) (j := j8) (g := (g5 >>> ((nI 4) &&& 31))) (by omega) (by omega) (by omega)) hC dL_law_158 (pc' := 161) rfl xw_m_L_120 xw_c_L_letters xw_sta_L_letters xw_ini_L xd_L_letters ⟨Nat.le_of_ble_eq_true rfl, Nat.le_of_ble_eq_true rfl⟩ rfl (Nat.le_of_ble_eq_true rfl) ⟨by show _ ≤ (696526 : Nat); omega, by show _ ≤ (7012671 : Nat); omega⟩ ?_
            rintro _ _ ⟨σ122, T123, rfl, hST123, hRσ122, hJT123, rfl⟩
            show xV _ _ _ _ _ _ _ _ _ _ _ _ _ _ _ _ _ (xH D b σ122) _ _ [.int (nI 1)]
            refine xn_ifne (tgt := 379) hC dL_law_161 (pc' := 164) rfl (by decide) (by omega) (fun zc161 => ?_) (fun zc161 => ?_)
            · skip
              refine L379 _ T123 wl _ _ _ _ _ _ _ _ _ ?_ ?_ ?_ ?_ ?_ ?_
              · exact (hST123).up (by omega)
              · exact hRσ122
              · exact (hJT123).up (by omega)
              · omega
              · omega
              · omega
            · exact absurd zc161 (by decide)
        · skip
          refine xi_aload_n hC dL_law_125 (pc' := 126) rfl rfl rfl ?_
          refine xi_iload hC dL_law_126 (pc' := 128) rfl rfl ?_
          refine xi_iload_n hC dL_law_128 (pc' := 129) rfl rfl rfl ?_
          refine xi_iload hC dL_law_129 (pc' := 131) rfl rfl ?_
          refine xi_iconst (v := nI 3) hC dL_law_131 (pc' := 132) rfl (by decide +kernel) ?_
          refine xi_ishr hC dL_law_132 (pc' := 133) rfl ?_
          refine xi_callS (As := [.ref (b + 0), .int (nI j7), .int (nI u), .int (g6 >>> ((nI 3) &&& 31))]) (rest := []) (c_L_operates l D b (kl) (σ := τl) (S := Tl) (N := e9) (u := u) (w := wl) hSl hRl hJl (by omega) (i := j7) (g := (g6 >>> ((nI 3) &&& 31))) (by omega) (by omega)) hC dL_law_133 (pc' := 136) rfl xw_m_L_116 xw_c_L_operates xw_sta_L_operates xw_ini_L xd_L_operates ⟨Nat.le_of_ble_eq_true rfl, Nat.le_of_ble_eq_true rfl⟩ rfl (Nat.le_of_ble_eq_true rfl) ⟨by show _ ≤ (696526 : Nat); omega, by show _ ≤ (7012671 : Nat); omega⟩ ?_
          rintro _ _ ⟨σ124, T125, rfl, hST125, hRσ124, hJT125, rfl⟩
          show xV _ _ _ _ _ _ _ _ _ _ _ _ _ _ _ _ _ (xH D b σ124) _ _ [.int (nI 1)]
          refine xn_ifne (tgt := 379) hC dL_law_136 (pc' := 139) rfl (by decide) (by omega) (fun zc136 => ?_) (fun zc136 => ?_)
          · skip
            refine L379 _ T125 wl _ _ _ _ _ _ _ _ _ ?_ ?_ ?_ ?_ ?_ ?_
            · exact (hST125).up (by omega)
            · exact hRσ124
            · exact (hJT125).up (by omega)
            · omega
            · omega
            · omega
          · exact absurd zc136 (by decide)
  refine L57 _ 0 _ T1 1 _ _ _ _ _ _ _ _ _ _ _ _ _ _ (Nat.lt_succ_self _) ?_ ?_ ?_ ?_ ?_ ?_ ?_
  · omega
  · exact hS1
  · exact hR1
  · exact hJ1
  · omega
  · omega
  · omega
set_option maxRecDepth 100000 in
set_option maxHeartbeats 8000000 in
theorem law_start {p : Program} {l : Launch} {e : Env} {s : State} {m : MethodId} {below : List Frame} {meth : Method} {c : Code} {D : XD} {a b L : Nat} {xs : Nat → Int32} (hC : xC p s m #[Value.ref a] meth c D cL_law 16 R_law) (hX : va_X a L xs s s.heap) (hal : a < b) (hb : b = s.heap.size) (hL : L ≤ 260) (hr : meth.sig.returnType = ret) : xV p l e room_1 s m #[Value.ref a] below meth c D b 16 0 0 (lw_Z below #[Value.ref a] s) b (fun _ => none) 0 [some (.ref a), none, none, none, none, none, none, none, none, none, none, none, none, none, none, none] [] := by
  refine xi_new (C := RX7) (T := TX7) (ci := 7) (N := 5) (fs := [.null, .null, .null, .int 0, .int 0]) tyX7 hC dL_law_0 (pc' := 3) rfl xw_k_L_10 xw_new_X7 xw_ini_X7 xw_lay_X7 tyX7_ok rfl (by decide) ⟨Nat.le_of_ble_eq_true rfl, Nat.le_of_ble_eq_true rfl⟩ ?_
  refine xi_dup hC dL_law_3 (pc' := 4) rfl rfl ?_
  refine xi_callI (As := []) (rest := [.ref (b + 0)]) (c_X7_init l D b (h := fun _ => none)) hC dL_law_4 (pc' := 7) rfl xw_m_L_111 xw_c_X7_init xw_ins_X7_init xw_ini_X7 rfl xd_X7_init ⟨Nat.le_of_ble_eq_true rfl, Nat.le_of_ble_eq_true rfl⟩ rfl (Nat.le_of_ble_eq_true rfl) ⟨Nat.le_of_ble_eq_true rfl, Nat.le_of_ble_eq_true rfl⟩ ?_
  rintro _ _ ⟨rfl, rfl⟩
  refine xhp (h' := xH D b C0) hA_eq ?_
  show xV _ _ _ _ _ _ _ _ _ _ _ _ _ _ _ _ _ _ _ _ [.ref (b + 0)]
  obtain ⟨T0, hT0⟩ := ex_begin Z0 3
  have hR0 := RR_begin hT0
  have hS0 : SI 0 T0 3 1 := SI_begin (t := 0) (by decide) nI_0.symm ⟨by decide, by decide⟩ hT0
  have e23 : T0 oMod 23 = nI 0 := (hT0.2.2.2.1 23 (by decide) (by decide) (by decide)).trans nI_0.symm
  refine xi_astore_n (lv' := [some (.ref a), some (.ref (b + 0)), none, none, none, none, none, none, none, none, none, none, none, none, none, none]) hC dL_law_7 (pc' := 8) rfl rfl (by decide) rfl ?_
  refine xi_aload_n hC dL_law_8 (pc' := 9) rfl rfl rfl ?_
  refine xi_iconst (v := nI 0) hC dL_law_9 (pc' := 10) rfl (by decide +kernel) ?_
  refine xi_cell (k := 0) hC hX hal (by omega) hL (by omega) dL_law_10 (pc' := 13) rfl ⟨Nat.le_of_ble_eq_true rfl, Nat.le_of_ble_eq_true rfl⟩ (Nat.le_of_ble_eq_true rfl) ⟨by show _ ≤ (696526 : Nat); omega, by show _ ≤ (7012671 : Nat); omega⟩ (fun g1 => ?_)
  refine xi_istore_n (lv' := [some (.ref a), some (.ref (b + 0)), some (.int g1), none, none, none, none, none, none, none, none, none, none, none, none, none]) hC dL_law_13 (pc' := 14) rfl rfl (by decide) rfl ?_
  refine xi_iconst (v := nI 2) hC dL_law_14 (pc' := 15) rfl (by decide +kernel) ?_
  refine xi_iload_n hC dL_law_15 (pc' := 16) rfl rfl rfl ?_
  refine xi_iconst (v := nI 4) hC dL_law_16 (pc' := 17) rfl (by decide +kernel) ?_
  refine xi_callS (As := [.int g1, .int (nI 4)]) (rest := [.int (nI 2)]) (c_L_low l D b (b + 585) (h := (xH D b C0)) (x := g1) (k := 4) (by omega) (by omega)) hC dL_law_17 (pc' := 20) rfl xw_m_L_46 xw_c_L_low xw_sta_L_low xw_ini_L xd_L_low ⟨Nat.le_of_ble_eq_true rfl, Nat.le_of_ble_eq_true rfl⟩ rfl (Nat.le_of_ble_eq_true rfl) ⟨by show _ ≤ (696526 : Nat); omega, by show _ ≤ (7012671 : Nat); omega⟩ ?_
  rintro _ _ ⟨⟨j2, hj2, rfl⟩, rfl⟩
  show xV _ _ _ _ _ _ _ _ _ _ _ _ _ _ _ _ _ (xH D b C0) _ _ [.int (nI j2), .int (nI 2)]
  refine xn_iadd hC dL_law_20 (pc' := 21) rfl ?_
  obtain ⟨u, hu9⟩ : ∃ u, 2 + j2 = u := ⟨_, rfl⟩
  refine xtop (y := nI u) (by rw [hu9]) ?_
  have hu2 : 2 ≤ u := by omega
  have hu5 : u ≤ 5 := by omega
  refine xi_istore_n (lv' := [some (.ref a), some (.ref (b + 0)), some (.int g1), some (.int (nI u)), none, none, none, none, none, none, none, none, none, none, none, none]) hC dL_law_21 (pc' := 22) rfl rfl (by decide) rfl ?_
  refine xi_aload_n hC dL_law_22 (pc' := 23) rfl rfl rfl ?_
  refine xi_iload_n hC dL_law_23 (pc' := 24) rfl rfl rfl ?_
  refine xi_callV (As := [.int (nI u)]) (rest := []) (c_X7_reset l D b (b + 585) (σ := C0) (S := T0) (N := 0) (u := 3) (w := 1) hS0 hR0 (by omega) (x := nI u)) hC dL_law_24 (pc' := 27) rfl xw_m_L_95 xw_c_X7_reset xw_ins_X7_reset xw_sel_X7_reset xw_ini_X7 xd_X7_reset (xH_at.trans (xsh_7 kd_0)) rfl ⟨Nat.le_of_ble_eq_true rfl, Nat.le_of_ble_eq_true rfl⟩ rfl (Nat.le_of_ble_eq_true rfl) ⟨by show _ ≤ (696526 : Nat); omega, by show _ ≤ (7012671 : Nat); omega⟩ ?_
  rintro _ _ ⟨r1, τ1, rfl, hH1, hO1, rfl⟩
  obtain ⟨T1, hB⟩ := ex_begin T0 u
  have hZ : s_reset T0 3 (nI u) (nI 3) T1 := ⟨fun q => absurd ⟨nI_le hu2 (by omega), nI_le hu5 (by decide)⟩ q, fun z z2 z5 ez => by
    obtain rfl := nI_inj (by omega) (by omega) ez
    exact ⟨rfl, hB⟩⟩
  obtain ⟨e1, hRf⟩ := hO1 _ _ hZ
  have hR1 := hRf u 1 hB.1 hB.2.1 (by omega) (by omega)
  have hS1 : SI 0 T1 u 1 := SI_begin (t := 0) (by decide) e23 ⟨hu2, hu5⟩ hB
  have hJ1 : JJ 0 T1 u := JJ_begin hu5 hB
  obtain rfl : r1 = nI 3 := e1
  show xV _ _ _ _ _ _ _ _ _ _ _ _ _ _ _ _ _ (xH D b τ1) _ _ [.int (nI 3)]
  refine xi_iconst (v := nI 3) hC dL_law_27 (pc' := 28) rfl (by decide +kernel) ?_
  refine xn_icmpne (tgt := 52) hC dL_law_28 (pc' := 31) rfl (by decide) (by omega) (by omega) (fun zc28 => ?_) (fun zc28 => ?_)
  · exact absurd zc28 (by decide)
  · skip
    refine xi_aload_n hC dL_law_31 (pc' := 32) rfl rfl rfl ?_
    refine xi_iconst (v := nI 1) hC dL_law_32 (pc' := 33) rfl (by decide +kernel) ?_
    refine xi_callV (As := [.int (nI 1)]) (rest := []) (c_X7_count l D b (b + 585) (σ := τ1) (S := T1) (N := 0) (u := u) (w := 1) hS1 hR1 (by omega) (x := (nI 1))) hC dL_law_33 (pc' := 36) rfl xw_m_L_40 xw_c_X7_count xw_ins_X7_count xw_sel_X7_count xw_ini_X7 xd_X7_count (xH_at.trans (xsh_7 kd_0)) rfl ⟨Nat.le_of_ble_eq_true rfl, Nat.le_of_ble_eq_true rfl⟩ rfl (Nat.le_of_ble_eq_true rfl) ⟨by show _ ≤ (696526 : Nat); omega, by show _ ≤ (7012671 : Nat); omega⟩ ?_
    rintro _ _ ⟨r3, rfl, hO4, rfl⟩
    obtain rfl : r3 = (nI 1) := hO4 _ (sc_1)
    show xV _ _ _ _ _ _ _ _ _ _ _ _ _ _ _ _ _ (xH D b τ1) _ _ [.int (nI 1)]
    refine xi_iconst (v := nI 1) hC dL_law_36 (pc' := 37) rfl (by decide +kernel) ?_
    refine xn_icmpne (tgt := 52) hC dL_law_37 (pc' := 40) rfl (by decide) (by omega) (by omega) (fun zc37 => ?_) (fun zc37 => ?_)
    · exact absurd zc37 (by decide)
    · skip
      refine xi_aload_n hC dL_law_40 (pc' := 41) rfl rfl rfl ?_
      refine xi_callV (As := []) (rest := []) (c_X7_unaware l D b (b + 585) (σ := τ1) (S := T1) (N := 0) (u := u) (w := 1) hS1 hR1 (by omega) ) hC dL_law_41 (pc' := 44) rfl xw_m_L_92 xw_c_X7_unaware xw_ins_X7_unaware xw_sel_X7_unaware xw_ini_X7 xd_X7_unaware (xH_at.trans (xsh_7 kd_0)) rfl ⟨Nat.le_of_ble_eq_true rfl, Nat.le_of_ble_eq_true rfl⟩ rfl (Nat.le_of_ble_eq_true rfl) ⟨by show _ ≤ (696526 : Nat); omega, by show _ ≤ (7012671 : Nat); omega⟩ ?_
      rintro _ _ ⟨r5, rfl, hO6, rfl⟩
      obtain rfl : r5 = (((nI 1) <<< ((nI u) &&& 31)) - (nI 1)) := (hO6 _ _ (sq_1)).trans (begin_unaware hu2 hu5 hB)
      show xV _ _ _ _ _ _ _ _ _ _ _ _ _ _ _ _ _ (xH D b τ1) _ _ [.int (((nI 1) <<< ((nI u) &&& 31)) - (nI 1))]
      refine xi_iconst (v := nI 1) hC dL_law_44 (pc' := 45) rfl (by decide +kernel) ?_
      refine xi_iload_n hC dL_law_45 (pc' := 46) rfl rfl rfl ?_
      refine xi_ishl hC dL_law_46 (pc' := 47) rfl ?_
      refine xi_iconst (v := nI 1) hC dL_law_47 (pc' := 48) rfl (by decide +kernel) ?_
      refine xi_isub hC dL_law_48 (pc' := 49) rfl ?_
      refine xi_icmpeq (tgt := 54) hC dL_law_49 (pc' := 52) rfl (by decide) (fun zc49 => ?_) (fun zc49 => ?_)
      · skip
        refine xi_iconst (v := nI 0) hC dL_law_54 (pc' := 55) rfl (by decide +kernel) ?_
        refine xi_istore (lv' := [some (.ref a), some (.ref (b + 0)), some (.int g1), some (.int (nI u)), some (.int (nI 0)), none, none, none, none, none, none, none, none, none, none, none]) hC dL_law_55 (pc' := 57) rfl (by decide) rfl ?_
        exact law_loop hC hX hal hb hL hr hS1 hR1 hJ1 (by omega) (by omega)
      · exact absurd rfl zc49
