
theorem mTake.hd {S T : XM} {i z : Nat} (h : mTake S i z T) : ∀ k, k < 5 → sl (T m_hand) 0 k = sl (S m_letter) (20 * i) k := fun k hk => by
  show T m_hand (0 + k) = _
  rw [h.1, cpy_in hk]
theorem mTake.kn {S T : XM} {i z : Nat} (h : mTake S i z T) : sl (T m_knownOf) (5 * i) = rK S i := by
  rw [h.2.2.2 m_knownOf (by decide) (by decide) (by decide)]; rfl
theorem mKeep.out' {S T : XM} {i : Nat} {d : Int32} {f1 f2 : Nat → Int32} (h : mKeep S i d f1 f2 T) {o : Nat} (h1 : o ≠ m_hasProof ∧ o ≠ m_depthOf ∧ o ≠ m_proofOf) : T o = S o := h.out h1.1 h1.2.1 h1.2.2
def fkQ (S : XM) (u i j : Nat) : Prop := rel u (rK S i) (rK S j) = 2
def unB (S : XM) (u i k : Nat) : Prop := (S m_alarmOf i = 0 ∧ ∀ v, v < 6 → S m_viewOf i = nI v → al S u v i = 0) ∧ ∀ c, c < k → ¬ rel u (rK S i) (rK S c) = 2
theorem unB_u {S : XM} {u i : Nat} : unB S u i u ↔ unQ S u i := ⟨fun h => ⟨h.1.1, h.1.2, h.2⟩, fun h => ⟨⟨h.1, h.2.1⟩, h.2.2⟩⟩
theorem unB_t {S : XM} {u i k : Nat} (h : unB S u i k) (h2 : ¬ rel u (rK S i) (rK S k) = 2) : unB S u i (k + 1) := ⟨h.1, fun c hc => by
  rcases Nat.lt_or_ge c k with z | z
  · exact h.2 c z
  · rw [show c = k by omega]; exact h2⟩
theorem unB_f {S : XM} {u i k : Nat} (h : unB S u i (k + 1)) : unB S u i k ∧ ¬ rel u (rK S i) (rK S k) = 2 := ⟨⟨h.1, fun c hc => h.2 c (by omega)⟩, h.2 k (by omega)⟩
theorem rel_ge {n : Nat} {f g : Nat → Int32} : nI 2 ≤ rel n f g ↔ rel n f g = 2 := by
  by_cases h : vle n f g <;> by_cases h2 : vle n g f
  · rw [rel_00 h h2]; decide
  · rw [rel_01 h h2]; decide
  · rw [rel_10 h h2]; decide
  · rw [rel_11 h h2]; decide
theorem fst2_one {u : Nat} {Q : Nat → Nat → Prop} {i j i' j' : Nat} (hi : i < u) (hj : j < u) (hq : Q i j) (h1 : ∀ a c, a < i → c < u → ¬ Q a c) (h2 : ∀ c, c < j → ¬ Q i c) (h : fst2 u Q i' j') : nI (10 * i + j) = nI (10 * i' + j') := by
  obtain ⟨q1, q2, q3, q4⟩ := h
  rcases q4 i j hi hj hq with z | ⟨z, z2⟩
  · exact absurd q3 (h1 i' j' z q2)
  · subst z
    rcases Nat.lt_or_ge j' j with y | y
    · exact absurd q3 (h2 j' y)
    · rw [show j' = j by omega]
set_option maxRecDepth 100000 in
set_option maxHeartbeats 4000000 in
theorem c_X8_compared (l : Launch) (D : XD) (b n : Nat) {C S : XM} {u oa i j : Nat} (hU : MU S u) (h1 : kd oa = 1000 + 25) (g1 : 585 ≤ oa) (hi : i < 5) (hj : j < 5) : xM l yX8_compared cX8_compared 6 (some .int) 1 26 0 0 D b n [.ref (b + oMod), .ref (b + oa), .int (nI i), .int (nI j)] (xH D b (jn C S)) n (fun y' h' => y' = some (.int (rel u (sl (S oa) (5 * i)) (sl (S oa) (5 * j)))) ∧ h' = xH D b (jn C S)) := by
  refine xM.of (lv := [some (.ref (b + oMod)), some (.ref (b + oa)), some (.int (nI i)), some (.int (nI j)), none, none]) (by decide +kernel) rfl (List.forall_mem_cons.mpr ⟨rfl, List.forall_mem_cons.mpr ⟨rfl, List.forall_mem_cons.mpr ⟨rfl, List.forall_mem_cons.mpr ⟨rfl, fun _ h => absurd h List.not_mem_nil⟩⟩⟩⟩) (Nat.le_of_ble_eq_true rfl) rfl ?_
  intro p e s m args below meth c hC hr hnm
  refine xi_aload_n hC dX8_compared_0 (pc' := 1) rfl rfl rfl ?_
  refine xi_aload_n hC dX8_compared_1 (pc' := 2) rfl rfl rfl ?_
  refine xi_iconst (v := nI 5) hC dX8_compared_2 (pc' := 3) rfl (by decide +kernel) ?_
  refine xi_iload_n hC dX8_compared_3 (pc' := 4) rfl rfl rfl ?_
  refine xn_imul hC dX8_compared_4 (pc' := 5) rfl ?_
  refine xi_aload_n hC dX8_compared_5 (pc' := 6) rfl rfl rfl ?_
  refine xi_iconst (v := nI 5) hC dX8_compared_6 (pc' := 7) rfl (by decide +kernel) ?_
  refine xi_iload_n hC dX8_compared_7 (pc' := 8) rfl rfl rfl ?_
  refine xn_imul hC dX8_compared_8 (pc' := 9) rfl ?_
  refine xi_callV (As := [.ref (b + oa), .int (nI (5 * i)), .ref (b + oa), .int (nI (5 * j))]) (rest := []) (c_X8_atMost l D b n (C := C) (S := S) (u := u) (oa := oa) (Na := 25) (ob := oa) (Nb := 25) (fa := 5 * i) (fb := 5 * j) hU h1 g1 (by decide) h1 g1 (by decide) (by omega) (by omega) ) hC dX8_compared_9 (pc' := 12) rfl xw_m_X8_87 xw_c_X8_atMost xw_ins_X8_atMost xw_sel_X8_atMost xw_ini_X8 xd_X8_atMost (xH_at.trans (xsh_8 kd_oMod)) rfl ⟨Nat.le_of_ble_eq_true rfl, Nat.le_of_ble_eq_true rfl⟩ rfl (Nat.le_of_ble_eq_true rfl) ⟨Nat.le_of_ble_eq_true rfl, Nat.le_of_ble_eq_true rfl⟩ ?_
  rintro _ _ ⟨rfl, rfl⟩
  show xV _ _ _ _ _ _ _ _ _ _ _ _ _ _ _ _ _ (xH D b (jn C S)) _ _ [.int (bI (vle u (sl (S oa) (5 * i)) (sl (S oa) (5 * j))))]
  refine xi_istore (lv' := [some (.ref (b + oMod)), some (.ref (b + oa)), some (.int (nI i)), some (.int (nI j)), some (.int (bI (vle u (sl (S oa) (5 * i)) (sl (S oa) (5 * j))))), none]) hC dX8_compared_12 (pc' := 14) rfl (by decide) rfl ?_
  refine xi_aload_n hC dX8_compared_14 (pc' := 15) rfl rfl rfl ?_
  refine xi_aload_n hC dX8_compared_15 (pc' := 16) rfl rfl rfl ?_
  refine xi_iconst (v := nI 5) hC dX8_compared_16 (pc' := 17) rfl (by decide +kernel) ?_
  refine xi_iload_n hC dX8_compared_17 (pc' := 18) rfl rfl rfl ?_
  refine xn_imul hC dX8_compared_18 (pc' := 19) rfl ?_
  refine xi_aload_n hC dX8_compared_19 (pc' := 20) rfl rfl rfl ?_
  refine xi_iconst (v := nI 5) hC dX8_compared_20 (pc' := 21) rfl (by decide +kernel) ?_
  refine xi_iload_n hC dX8_compared_21 (pc' := 22) rfl rfl rfl ?_
  refine xn_imul hC dX8_compared_22 (pc' := 23) rfl ?_
  refine xi_callV (As := [.ref (b + oa), .int (nI (5 * j)), .ref (b + oa), .int (nI (5 * i))]) (rest := []) (c_X8_atMost l D b n (C := C) (S := S) (u := u) (oa := oa) (Na := 25) (ob := oa) (Nb := 25) (fa := 5 * j) (fb := 5 * i) hU h1 g1 (by decide) h1 g1 (by decide) (by omega) (by omega) ) hC dX8_compared_23 (pc' := 26) rfl xw_m_X8_87 xw_c_X8_atMost xw_ins_X8_atMost xw_sel_X8_atMost xw_ini_X8 xd_X8_atMost (xH_at.trans (xsh_8 kd_oMod)) rfl ⟨Nat.le_of_ble_eq_true rfl, Nat.le_of_ble_eq_true rfl⟩ rfl (Nat.le_of_ble_eq_true rfl) ⟨Nat.le_of_ble_eq_true rfl, Nat.le_of_ble_eq_true rfl⟩ ?_
  rintro _ _ ⟨rfl, rfl⟩
  show xV _ _ _ _ _ _ _ _ _ _ _ _ _ _ _ _ _ (xH D b (jn C S)) _ _ [.int (bI (vle u (sl (S oa) (5 * j)) (sl (S oa) (5 * i))))]
  refine xi_istore (lv' := [some (.ref (b + oMod)), some (.ref (b + oa)), some (.int (nI i)), some (.int (nI j)), some (.int (bI (vle u (sl (S oa) (5 * i)) (sl (S oa) (5 * j))))), some (.int (bI (vle u (sl (S oa) (5 * j)) (sl (S oa) (5 * i)))))]) hC dX8_compared_26 (pc' := 28) rfl (by decide) rfl ?_
  refine xi_iload hC dX8_compared_28 (pc' := 30) rfl rfl ?_
  refine xb_ifeq (tgt := 42) hC dX8_compared_30 (pc' := 33) rfl (by decide) (fun zc30 => ?_) (fun zc30 => ?_)
  · skip
    refine xi_iload hC dX8_compared_42 (pc' := 44) rfl rfl ?_
    refine xb_ifeq (tgt := 51) hC dX8_compared_44 (pc' := 47) rfl (by decide) (fun zc44 => ?_) (fun zc44 => ?_)
    · skip
      refine xi_iload hC dX8_compared_51 (pc' := 53) rfl rfl ?_
      refine xb_ifeq (tgt := 60) hC dX8_compared_53 (pc' := 56) rfl (by decide) (fun zc53 => ?_) (fun zc53 => ?_)
      · skip
        refine xi_iconst (v := nI 2) hC dX8_compared_60 (pc' := 61) rfl (by decide +kernel) ?_
        refine xi_ireturn hC dX8_compared_61 hr rfl ?_
        first
          | exact ⟨(congrArg (fun z => some (Value.int z)) (rel_00 zc30 zc35)).symm, rfl⟩
          | exact ⟨(congrArg (fun z => some (Value.int z)) (rel_01 zc44 zc35)).symm, rfl⟩
          | exact ⟨(congrArg (fun z => some (Value.int z)) (rel_10 zc44 zc53)).symm, rfl⟩
          | exact ⟨(congrArg (fun z => some (Value.int z)) (rel_11 zc44 zc53)).symm, rfl⟩
          | exact absurd zc44 zc30
          | exact absurd zc30 zc44
      · skip
        refine xi_iconst (v := nI 1) hC dX8_compared_56 (pc' := 57) rfl (by decide +kernel) ?_
        refine xi_goto (tgt := 61) hC dX8_compared_57 (by decide) ?_
        refine xi_ireturn hC dX8_compared_61 hr rfl ?_
        first
          | exact ⟨(congrArg (fun z => some (Value.int z)) (rel_00 zc30 zc35)).symm, rfl⟩
          | exact ⟨(congrArg (fun z => some (Value.int z)) (rel_01 zc44 zc35)).symm, rfl⟩
          | exact ⟨(congrArg (fun z => some (Value.int z)) (rel_10 zc44 zc53)).symm, rfl⟩
          | exact ⟨(congrArg (fun z => some (Value.int z)) (rel_11 zc44 zc53)).symm, rfl⟩
          | exact absurd zc44 zc30
          | exact absurd zc30 zc44
    · skip
      refine xi_iconst (v := -1) hC dX8_compared_47 (pc' := 48) rfl (by decide +kernel) ?_
      refine xi_goto (tgt := 61) hC dX8_compared_48 (by decide) ?_
      refine xi_ireturn hC dX8_compared_61 hr rfl ?_
      first
        | exact ⟨(congrArg (fun z => some (Value.int z)) (rel_00 zc30 zc35)).symm, rfl⟩
        | exact ⟨(congrArg (fun z => some (Value.int z)) (rel_01 zc44 zc35)).symm, rfl⟩
        | exact ⟨(congrArg (fun z => some (Value.int z)) (rel_10 zc44 zc53)).symm, rfl⟩
        | exact ⟨(congrArg (fun z => some (Value.int z)) (rel_11 zc44 zc53)).symm, rfl⟩
        | exact absurd zc44 zc30
        | exact absurd zc30 zc44
  · skip
    refine xi_iload hC dX8_compared_33 (pc' := 35) rfl rfl ?_
    refine xb_ifeq (tgt := 42) hC dX8_compared_35 (pc' := 38) rfl (by decide) (fun zc35 => ?_) (fun zc35 => ?_)
    · skip
      refine xi_iload hC dX8_compared_42 (pc' := 44) rfl rfl ?_
      refine xb_ifeq (tgt := 51) hC dX8_compared_44 (pc' := 47) rfl (by decide) (fun zc44 => ?_) (fun zc44 => ?_)
      · skip
        refine xi_iload hC dX8_compared_51 (pc' := 53) rfl rfl ?_
        refine xb_ifeq (tgt := 60) hC dX8_compared_53 (pc' := 56) rfl (by decide) (fun zc53 => ?_) (fun zc53 => ?_)
        · skip
          refine xi_iconst (v := nI 2) hC dX8_compared_60 (pc' := 61) rfl (by decide +kernel) ?_
          refine xi_ireturn hC dX8_compared_61 hr rfl ?_
          first
            | exact ⟨(congrArg (fun z => some (Value.int z)) (rel_00 zc30 zc35)).symm, rfl⟩
            | exact ⟨(congrArg (fun z => some (Value.int z)) (rel_01 zc44 zc35)).symm, rfl⟩
            | exact ⟨(congrArg (fun z => some (Value.int z)) (rel_10 zc44 zc53)).symm, rfl⟩
            | exact ⟨(congrArg (fun z => some (Value.int z)) (rel_11 zc44 zc53)).symm, rfl⟩
            | exact absurd zc44 zc30
            | exact absurd zc30 zc44
        · skip
          refine xi_iconst (v := nI 1) hC dX8_compared_56 (pc' := 57) rfl (by decide +kernel) ?_
          refine xi_goto (tgt := 61) hC dX8_compared_57 (by decide) ?_
          refine xi_ireturn hC dX8_compared_61 hr rfl ?_
          first
            | exact ⟨(congrArg (fun z => some (Value.int z)) (rel_00 zc30 zc35)).symm, rfl⟩
            | exact ⟨(congrArg (fun z => some (Value.int z)) (rel_01 zc44 zc35)).symm, rfl⟩
            | exact ⟨(congrArg (fun z => some (Value.int z)) (rel_10 zc44 zc53)).symm, rfl⟩
            | exact ⟨(congrArg (fun z => some (Value.int z)) (rel_11 zc44 zc53)).symm, rfl⟩
            | exact absurd zc44 zc30
            | exact absurd zc30 zc44
      · skip
        refine xi_iconst (v := -1) hC dX8_compared_47 (pc' := 48) rfl (by decide +kernel) ?_
        refine xi_goto (tgt := 61) hC dX8_compared_48 (by decide) ?_
        refine xi_ireturn hC dX8_compared_61 hr rfl ?_
        first
          | exact ⟨(congrArg (fun z => some (Value.int z)) (rel_00 zc30 zc35)).symm, rfl⟩
          | exact ⟨(congrArg (fun z => some (Value.int z)) (rel_01 zc44 zc35)).symm, rfl⟩
          | exact ⟨(congrArg (fun z => some (Value.int z)) (rel_10 zc44 zc53)).symm, rfl⟩
          | exact ⟨(congrArg (fun z => some (Value.int z)) (rel_11 zc44 zc53)).symm, rfl⟩
          | exact absurd zc44 zc30
          | exact absurd zc30 zc44
    · skip
      refine xi_iconst (v := nI 0) hC dX8_compared_38 (pc' := 39) rfl (by decide +kernel) ?_
      refine xi_goto (tgt := 61) hC dX8_compared_39 (by decide) ?_
      refine xi_ireturn hC dX8_compared_61 hr rfl ?_
      first
        | exact ⟨(congrArg (fun z => some (Value.int z)) (rel_00 zc30 zc35)).symm, rfl⟩
        | exact ⟨(congrArg (fun z => some (Value.int z)) (rel_01 zc44 zc35)).symm, rfl⟩
        | exact ⟨(congrArg (fun z => some (Value.int z)) (rel_10 zc44 zc53)).symm, rfl⟩
        | exact ⟨(congrArg (fun z => some (Value.int z)) (rel_11 zc44 zc53)).symm, rfl⟩
        | exact absurd zc44 zc30
        | exact absurd zc30 zc44

set_option maxRecDepth 100000 in
set_option maxHeartbeats 4000000 in
theorem c_X8_readLetter (l : Launch) (D : XD) (b n : Nat) {C S : XM} {u w : Nat} (hW : MW S u w) {x : Int32} : xM l yX8_readLetter cX8_readLetter 2 (some .int) 2 51 0 0 D b n [.ref (b + oMod), .int x] (xH D b (jn C S)) n (fun y' h' => ∃ (r : Int32) (T : XM), y' = some (.int r) ∧ s_readL S u x r T ∧ h' = xH D b (jn C T)) := by
  refine xM.of (lv := [some (.ref (b + oMod)), some (.int x)]) (by decide +kernel) rfl (List.forall_mem_cons.mpr ⟨rfl, List.forall_mem_cons.mpr ⟨rfl, fun _ h => absurd h List.not_mem_nil⟩⟩) (Nat.le_of_ble_eq_true rfl) rfl ?_
  intro p e s m args below meth c hC hr hnm
  obtain ⟨hU, hN, hVw, hKp, hLt, hTx, hAl⟩ := id hW
  obtain ⟨hu, hu2, hu5⟩ := id hU
  obtain ⟨hn, hw1, hw6⟩ := id hN
  refine xi_aload_n hC dX8_readLetter_0 (pc' := 1) rfl rfl rfl ?_
  refine xi_iload_n hC dX8_readLetter_1 (pc' := 2) rfl rfl rfl ?_
  refine xi_callV (As := [.int x]) (rest := []) (c_X8_noUser l D b n (C := C) (S := S) (x := x) hU) hC dX8_readLetter_2 (pc' := 5) rfl xw_m_X8_126 xw_c_X8_noUser xw_ins_X8_noUser xw_sel_X8_noUser xw_ini_X8 xd_X8_noUser (xH_at.trans (xsh_8 kd_oMod)) rfl ⟨Nat.le_of_ble_eq_true rfl, Nat.le_of_ble_eq_true rfl⟩ rfl (Nat.le_of_ble_eq_true rfl) ⟨Nat.le_of_ble_eq_true rfl, Nat.le_of_ble_eq_true rfl⟩ ?_
  rintro _ _ ⟨rfl, rfl⟩
  show xV _ _ _ _ _ _ _ _ _ _ _ _ _ _ _ _ _ (xH D b (jn C S)) _ _ [.int (bI (¬ isU u x))]
  refine xb_ifeq (tgt := 12) hC dX8_readLetter_5 (pc' := 8) rfl (by decide) (fun zc5 => ?_) (fun zc5 => ?_)
  · skip
    obtain ⟨i, hi, rfl⟩ := Classical.not_not.mp zc5
    obtain ⟨z, hz4, hz⟩ := hLt i (by omega)
    obtain ⟨a, ha5, hae⟩ := hAl i (by omega)
    refine xi_aload_n hC dX8_readLetter_12 (pc' := 13) rfl rfl rfl ?_
    refine xg8_lettersOf hC dX8_readLetter_13 (pc' := 16) rfl xw_f_X8_56 kd_oMod ?_
    refine xi_iload_n hC dX8_readLetter_16 (pc' := 17) rfl rfl rfl ?_
    refine xt_l_i hC dX8_readLetter_17 (pc' := 18) rfl (N := 5) kd_m_lettersOf (by decide) (by decide) rfl (by omega) ?_
    refine xtop (y := (nI z)) (hz) ?_
    refine xn_ifne (tgt := 25) hC dX8_readLetter_18 (pc' := 21) rfl (by decide) (by omega) (fun zc18 => ?_) (fun zc18 => ?_)
    · skip
      refine xi_aload_n hC dX8_readLetter_25 (pc' := 26) rfl rfl rfl ?_
      refine xi_iload_n hC dX8_readLetter_26 (pc' := 27) rfl rfl rfl ?_
      refine xi_callV (As := [.int (nI i)]) (rest := []) (c_X8_takesLetter l D b n (C := C) (S := S) (i := i) (z := z) (by omega) hz (by assumption) hz4) hC dX8_readLetter_27 (pc' := 30) rfl xw_m_X8_139 xw_c_X8_takesLetter xw_ins_X8_takesLetter xw_sel_X8_takesLetter xw_ini_X8 xd_X8_takesLetter (xH_at.trans (xsh_8 kd_oMod)) rfl ⟨Nat.le_of_ble_eq_true rfl, Nat.le_of_ble_eq_true rfl⟩ rfl (Nat.le_of_ble_eq_true rfl) ⟨Nat.le_of_ble_eq_true rfl, Nat.le_of_ble_eq_true rfl⟩ ?_
      rintro _ _ ⟨rfl, T_1, hTk_2, rfl⟩
      show xV _ _ _ _ _ _ _ _ _ _ _ _ _ _ _ _ _ (xH D b (jn C T_1)) _ _ []
      have kA : vle u (sl (T_1 m_hand) 0) (sl (T_1 m_knownOf) (5 * i)) ↔ vle u (sl (S m_letter) (20 * i)) (rK S i) := by rw [hTk_2.kn]; exact vle_congr (fun k hk => hTk_2.hd k (by omega)) (fun _ _ => rfl)
      have kB : vle u (sl (T_1 m_knownOf) (5 * i)) (sl (T_1 m_hand) 0) ↔ vle u (rK S i) (sl (S m_letter) (20 * i)) := by rw [hTk_2.kn]; exact vle_congr (fun _ _ => rfl) (fun k hk => hTk_2.hd k (by omega))
      refine xi_aload_n hC dX8_readLetter_30 (pc' := 31) rfl rfl rfl ?_
      refine xi_aload_n hC dX8_readLetter_31 (pc' := 32) rfl rfl rfl ?_
      refine xg8_hand hC dX8_readLetter_32 (pc' := 35) rfl xw_f_X8_62 kd_oMod ?_
      refine xi_iconst (v := nI 0) hC dX8_readLetter_35 (pc' := 36) rfl (by decide +kernel) ?_
      refine xi_aload_n hC dX8_readLetter_36 (pc' := 37) rfl rfl rfl ?_
      refine xg8_knownOf hC dX8_readLetter_37 (pc' := 40) rfl xw_f_X8_38 kd_oMod ?_
      refine xi_iconst (v := nI 5) hC dX8_readLetter_40 (pc' := 41) rfl (by decide +kernel) ?_
      refine xi_iload_n hC dX8_readLetter_41 (pc' := 42) rfl rfl rfl ?_
      refine xn_imul hC dX8_readLetter_42 (pc' := 43) rfl ?_
      refine xi_callV (As := [.ref (b + m_hand), .int (nI 0), .ref (b + m_knownOf), .int (nI (5 * i))]) (rest := []) (c_X8_atMost l D b n (C := C) (S := T_1) (u := u) (oa := m_hand) (Na := 5) (ob := m_knownOf) (Nb := 25) (fa := 0) (fb := 5 * i) (show MU T_1 u from ⟨(congrFun (hTk_2.2.2.2 oMod (by decide) (by decide) (by decide)) 0).trans hU.1, hU.2⟩) kd_m_hand (by decide) (by decide) kd_m_knownOf (by decide) (by decide) (by omega) (by omega) ) hC dX8_readLetter_43 (pc' := 46) rfl xw_m_X8_87 xw_c_X8_atMost xw_ins_X8_atMost xw_sel_X8_atMost xw_ini_X8 xd_X8_atMost (xH_at.trans (xsh_8 kd_oMod)) rfl ⟨Nat.le_of_ble_eq_true rfl, Nat.le_of_ble_eq_true rfl⟩ rfl (Nat.le_of_ble_eq_true rfl) ⟨Nat.le_of_ble_eq_true rfl, Nat.le_of_ble_eq_true rfl⟩ ?_
      rintro _ _ ⟨rfl, rfl⟩
      show xV _ _ _ _ _ _ _ _ _ _ _ _ _ _ _ _ _ (xH D b (jn C T_1)) _ _ [.int (bI (vle u (sl (T_1 m_hand) 0) (sl (T_1 m_knownOf) (5 * i))))]
      refine xb_ifeq (tgt := 51) hC dX8_readLetter_46 (pc' := 49) rfl (by decide) (fun zc46 => ?_) (fun zc46 => ?_)
      · skip
        refine xi_aload_n hC dX8_readLetter_51 (pc' := 52) rfl rfl rfl ?_
        refine xi_aload_n hC dX8_readLetter_52 (pc' := 53) rfl rfl rfl ?_
        refine xg8_knownOf hC dX8_readLetter_53 (pc' := 56) rfl xw_f_X8_38 kd_oMod ?_
        refine xi_iconst (v := nI 5) hC dX8_readLetter_56 (pc' := 57) rfl (by decide +kernel) ?_
        refine xi_iload_n hC dX8_readLetter_57 (pc' := 58) rfl rfl rfl ?_
        refine xn_imul hC dX8_readLetter_58 (pc' := 59) rfl ?_
        refine xi_aload_n hC dX8_readLetter_59 (pc' := 60) rfl rfl rfl ?_
        refine xg8_hand hC dX8_readLetter_60 (pc' := 63) rfl xw_f_X8_62 kd_oMod ?_
        refine xi_iconst (v := nI 0) hC dX8_readLetter_63 (pc' := 64) rfl (by decide +kernel) ?_
        refine xi_callV (As := [.ref (b + m_knownOf), .int (nI (5 * i)), .ref (b + m_hand), .int (nI 0)]) (rest := []) (c_X8_atMost l D b n (C := C) (S := T_1) (u := u) (oa := m_knownOf) (Na := 25) (ob := m_hand) (Nb := 5) (fa := 5 * i) (fb := 0) (show MU T_1 u from ⟨(congrFun (hTk_2.2.2.2 oMod (by decide) (by decide) (by decide)) 0).trans hU.1, hU.2⟩) kd_m_knownOf (by decide) (by decide) kd_m_hand (by decide) (by decide) (by omega) (by omega) ) hC dX8_readLetter_64 (pc' := 67) rfl xw_m_X8_87 xw_c_X8_atMost xw_ins_X8_atMost xw_sel_X8_atMost xw_ini_X8 xd_X8_atMost (xH_at.trans (xsh_8 kd_oMod)) rfl ⟨Nat.le_of_ble_eq_true rfl, Nat.le_of_ble_eq_true rfl⟩ rfl (Nat.le_of_ble_eq_true rfl) ⟨Nat.le_of_ble_eq_true rfl, Nat.le_of_ble_eq_true rfl⟩ ?_
        rintro _ _ ⟨rfl, rfl⟩
        show xV _ _ _ _ _ _ _ _ _ _ _ _ _ _ _ _ _ (xH D b (jn C T_1)) _ _ [.int (bI (vle u (sl (T_1 m_knownOf) (5 * i)) (sl (T_1 m_hand) 0)))]
        refine xb_ifeq (tgt := 88) hC dX8_readLetter_67 (pc' := 70) rfl (by decide) (fun zc67 => ?_) (fun zc67 => ?_)
        · skip
          refine xi_aload_n hC dX8_readLetter_88 (pc' := 89) rfl rfl rfl ?_
          refine xg8_alarmOf hC dX8_readLetter_89 (pc' := 92) rfl xw_f_X8_22 kd_oMod ?_
          refine xi_iload_n hC dX8_readLetter_92 (pc' := 93) rfl rfl rfl ?_
          refine xi_aload_n hC dX8_readLetter_93 (pc' := 94) rfl rfl rfl ?_
          refine xg8_alarmOf hC dX8_readLetter_94 (pc' := 97) rfl xw_f_X8_22 kd_oMod ?_
          refine xi_iload_n hC dX8_readLetter_97 (pc' := 98) rfl rfl rfl ?_
          refine xt_l_i hC dX8_readLetter_98 (pc' := 99) rfl (N := 5) kd_m_alarmOf (by decide) (by decide) rfl (by omega) ?_
          refine xtop (y := (S m_alarmOf i)) (by rw [hTk_2.2.2.2 m_alarmOf (by first | (simp only [oMs, oVws, oScr, oSgn, oMod, oMem, oSig, oKno, oPro, oBox, oFst, oSnd, oLts, oLet, oNum, oVw, oEnt, oBef, oBk, oVs, oCon, oVec, m_row, m_keptOf, m_keptRow, m_viewOf, m_alarmOf, m_hasProof, m_depthOf, m_proofOf, m_signedOf, m_knownOf, m_doneOf, m_shownTo, m_sentBy, m_hasRead, m_readOf, m_lettersOf, m_letter, m_hand, m_text] <;> omega) | decide | omega | (simp only [oMs, oVws, oScr, oSgn, oMod, oMem, oSig, oKno, oPro, oBox, oFst, oSnd, oLts, oLet, oNum, oVw, oEnt, oBef, oBk, oVs, oCon, oVec, m_row, m_keptOf, m_keptRow, m_viewOf, m_alarmOf, m_hasProof, m_depthOf, m_proofOf, m_signedOf, m_knownOf, m_doneOf, m_shownTo, m_sentBy, m_hasRead, m_readOf, m_lettersOf, m_letter, m_hand, m_text] at * <;> omega)) (by first | (simp only [oMs, oVws, oScr, oSgn, oMod, oMem, oSig, oKno, oPro, oBox, oFst, oSnd, oLts, oLet, oNum, oVw, oEnt, oBef, oBk, oVs, oCon, oVec, m_row, m_keptOf, m_keptRow, m_viewOf, m_alarmOf, m_hasProof, m_depthOf, m_proofOf, m_signedOf, m_knownOf, m_doneOf, m_shownTo, m_sentBy, m_hasRead, m_readOf, m_lettersOf, m_letter, m_hand, m_text] <;> omega) | decide | omega | (simp only [oMs, oVws, oScr, oSgn, oMod, oMem, oSig, oKno, oPro, oBox, oFst, oSnd, oLts, oLet, oNum, oVw, oEnt, oBef, oBk, oVs, oCon, oVec, m_row, m_keptOf, m_keptRow, m_viewOf, m_alarmOf, m_hasProof, m_depthOf, m_proofOf, m_signedOf, m_knownOf, m_doneOf, m_shownTo, m_sentBy, m_hasRead, m_readOf, m_lettersOf, m_letter, m_hand, m_text] at * <;> omega)) (by first | (simp only [oMs, oVws, oScr, oSgn, oMod, oMem, oSig, oKno, oPro, oBox, oFst, oSnd, oLts, oLet, oNum, oVw, oEnt, oBef, oBk, oVs, oCon, oVec, m_row, m_keptOf, m_keptRow, m_viewOf, m_alarmOf, m_hasProof, m_depthOf, m_proofOf, m_signedOf, m_knownOf, m_doneOf, m_shownTo, m_sentBy, m_hasRead, m_readOf, m_lettersOf, m_letter, m_hand, m_text] <;> omega) | decide | omega | (simp only [oMs, oVws, oScr, oSgn, oMod, oMem, oSig, oKno, oPro, oBox, oFst, oSnd, oLts, oLet, oNum, oVw, oEnt, oBef, oBk, oVs, oCon, oVec, m_row, m_keptOf, m_keptRow, m_viewOf, m_alarmOf, m_hasProof, m_depthOf, m_proofOf, m_signedOf, m_knownOf, m_doneOf, m_shownTo, m_sentBy, m_hasRead, m_readOf, m_lettersOf, m_letter, m_hand, m_text] at * <;> omega))]) ?_
          refine xtop (y := (nI a)) (hae) ?_
          refine xn_ifle (tgt := 111) hC dX8_readLetter_99 (pc' := 102) rfl (by decide) (by omega) (fun zc99 => ?_) (fun zc99 => ?_)
          · skip
            refine xi_iconst (v := nI 4) hC dX8_readLetter_111 (pc' := 112) rfl (by decide +kernel) ?_
            refine xt_s_i hC dX8_readLetter_112 (pc' := 113) rfl (N := 5) kd_m_alarmOf (by decide) (by decide) rfl (by omega) ?_
            refine xi_aload_n hC dX8_readLetter_113 (pc' := 114) rfl rfl rfl ?_
            refine xi_iload_n hC dX8_readLetter_114 (pc' := 115) rfl rfl rfl ?_
            refine xi_aload_n hC dX8_readLetter_115 (pc' := 116) rfl rfl rfl ?_
            refine xg8_knownOf hC dX8_readLetter_116 (pc' := 119) rfl xw_f_X8_38 kd_oMod ?_
            refine xi_iconst (v := nI 5) hC dX8_readLetter_119 (pc' := 120) rfl (by decide +kernel) ?_
            refine xi_iload_n hC dX8_readLetter_120 (pc' := 121) rfl rfl rfl ?_
            refine xn_imul hC dX8_readLetter_121 (pc' := 122) rfl ?_
            refine xi_aload_n hC dX8_readLetter_122 (pc' := 123) rfl rfl rfl ?_
            refine xg8_hand hC dX8_readLetter_123 (pc' := 126) rfl xw_f_X8_62 kd_oMod ?_
            refine xi_iconst (v := nI 0) hC dX8_readLetter_126 (pc' := 127) rfl (by decide +kernel) ?_
            refine xi_iconst (v := nI 0) hC dX8_readLetter_127 (pc' := 128) rfl (by decide +kernel) ?_
            refine xi_callV (As := [.int (nI i), .ref (b + m_knownOf), .int (nI (5 * i)), .ref (b + m_hand), .int (nI 0), .int (nI 0)]) (rest := []) (c_X8_proves l D b n (C := C) (S := (sw T_1 m_alarmOf i (nI 4))) (oa := m_knownOf) (Na := 25) (ob := m_hand) (Nb := 5) (fa := 5 * i) (fb := 0) (i := i) (d := (nI 0)) kd_m_knownOf (by decide) (by decide) kd_m_hand (by decide) (by decide) (by omega) (by omega) (by omega) (by refine ⟨by decide, by decide, Or.inl (by decide)⟩) (by refine ⟨by decide, by decide, Or.inl (by decide)⟩)) hC dX8_readLetter_128 (pc' := 131) rfl xw_m_X8_112 xw_c_X8_proves xw_ins_X8_proves xw_sel_X8_proves xw_ini_X8 xd_X8_proves (xH_at.trans (xsh_8 kd_oMod)) rfl ⟨Nat.le_of_ble_eq_true rfl, Nat.le_of_ble_eq_true rfl⟩ rfl (Nat.le_of_ble_eq_true rfl) ⟨Nat.le_of_ble_eq_true rfl, Nat.le_of_ble_eq_true rfl⟩ ?_
            rintro _ _ ⟨rfl, T_3, hM_4, rfl⟩
            show xV _ _ _ _ _ _ _ _ _ _ _ _ _ _ _ _ _ (xH D b (jn C T_3)) _ _ []
            refine xi_iconst (v := nI 2) hC dX8_readLetter_131 (pc' := 132) rfl (by decide +kernel) ?_
            refine xi_ireturn hC dX8_readLetter_132 hr rfl ?_
            refine ⟨_, _, rfl, ⟨fun q => absurd ⟨i, hi, rfl⟩ q, fun i' hi' e1 z' hz' e2 => ?_⟩, rfl⟩
            obtain rfl := nI_inj (by omega) (by omega) e1
            obtain rfl := nI_inj (by omega) (by omega) (hz.symm.trans e2)
            refine ⟨fun q => absurd q zc18, fun _ => ⟨_, hTk_2, fun q => absurd (kA.mpr q) zc46, fun _ => ⟨fun q => absurd (kB.mpr q) zc67, fun _ => ⟨rfl, (sw T_1 m_alarmOf i (nI 4)), ?_, ?_, ?_⟩⟩⟩⟩
            rotate_left 2
            · have := hM_4
              rw [sw_n (q := m_knownOf) (by decide), hTk_2.kn, sw_n (q := m_hand) (by decide)] at this
              exact this
            · intro q
              first
                | exact absurd ((alm_pos hae (by omega)).mp q) (by omega)
                | rw [hae]
            · intro q
              first
                | rfl
                | exact absurd ((alm_pos hae (by omega)).mpr (by omega)) q
          · skip
            refine xi_aload_n hC dX8_readLetter_102 (pc' := 103) rfl rfl rfl ?_
            refine xg8_alarmOf hC dX8_readLetter_103 (pc' := 106) rfl xw_f_X8_22 kd_oMod ?_
            refine xi_iload_n hC dX8_readLetter_106 (pc' := 107) rfl rfl rfl ?_
            refine xt_l_i hC dX8_readLetter_107 (pc' := 108) rfl (N := 5) kd_m_alarmOf (by decide) (by decide) rfl (by omega) ?_
            refine xtop (y := (S m_alarmOf i)) (by rw [hTk_2.2.2.2 m_alarmOf (by first | (simp only [oMs, oVws, oScr, oSgn, oMod, oMem, oSig, oKno, oPro, oBox, oFst, oSnd, oLts, oLet, oNum, oVw, oEnt, oBef, oBk, oVs, oCon, oVec, m_row, m_keptOf, m_keptRow, m_viewOf, m_alarmOf, m_hasProof, m_depthOf, m_proofOf, m_signedOf, m_knownOf, m_doneOf, m_shownTo, m_sentBy, m_hasRead, m_readOf, m_lettersOf, m_letter, m_hand, m_text] <;> omega) | decide | omega | (simp only [oMs, oVws, oScr, oSgn, oMod, oMem, oSig, oKno, oPro, oBox, oFst, oSnd, oLts, oLet, oNum, oVw, oEnt, oBef, oBk, oVs, oCon, oVec, m_row, m_keptOf, m_keptRow, m_viewOf, m_alarmOf, m_hasProof, m_depthOf, m_proofOf, m_signedOf, m_knownOf, m_doneOf, m_shownTo, m_sentBy, m_hasRead, m_readOf, m_lettersOf, m_letter, m_hand, m_text] at * <;> omega)) (by first | (simp only [oMs, oVws, oScr, oSgn, oMod, oMem, oSig, oKno, oPro, oBox, oFst, oSnd, oLts, oLet, oNum, oVw, oEnt, oBef, oBk, oVs, oCon, oVec, m_row, m_keptOf, m_keptRow, m_viewOf, m_alarmOf, m_hasProof, m_depthOf, m_proofOf, m_signedOf, m_knownOf, m_doneOf, m_shownTo, m_sentBy, m_hasRead, m_readOf, m_lettersOf, m_letter, m_hand, m_text] <;> omega) | decide | omega | (simp only [oMs, oVws, oScr, oSgn, oMod, oMem, oSig, oKno, oPro, oBox, oFst, oSnd, oLts, oLet, oNum, oVw, oEnt, oBef, oBk, oVs, oCon, oVec, m_row, m_keptOf, m_keptRow, m_viewOf, m_alarmOf, m_hasProof, m_depthOf, m_proofOf, m_signedOf, m_knownOf, m_doneOf, m_shownTo, m_sentBy, m_hasRead, m_readOf, m_lettersOf, m_letter, m_hand, m_text] at * <;> omega)) (by first | (simp only [oMs, oVws, oScr, oSgn, oMod, oMem, oSig, oKno, oPro, oBox, oFst, oSnd, oLts, oLet, oNum, oVw, oEnt, oBef, oBk, oVs, oCon, oVec, m_row, m_keptOf, m_keptRow, m_viewOf, m_alarmOf, m_hasProof, m_depthOf, m_proofOf, m_signedOf, m_knownOf, m_doneOf, m_shownTo, m_sentBy, m_hasRead, m_readOf, m_lettersOf, m_letter, m_hand, m_text] <;> omega) | decide | omega | (simp only [oMs, oVws, oScr, oSgn, oMod, oMem, oSig, oKno, oPro, oBox, oFst, oSnd, oLts, oLet, oNum, oVw, oEnt, oBef, oBk, oVs, oCon, oVec, m_row, m_keptOf, m_keptRow, m_viewOf, m_alarmOf, m_hasProof, m_depthOf, m_proofOf, m_signedOf, m_knownOf, m_doneOf, m_shownTo, m_sentBy, m_hasRead, m_readOf, m_lettersOf, m_letter, m_hand, m_text] at * <;> omega))]) ?_
            refine xtop (y := (nI a)) (hae) ?_
            refine xi_goto (tgt := 112) hC dX8_readLetter_108 (by decide) ?_
            refine xt_s_i hC dX8_readLetter_112 (pc' := 113) rfl (N := 5) kd_m_alarmOf (by decide) (by decide) rfl (by omega) ?_
            refine xi_aload_n hC dX8_readLetter_113 (pc' := 114) rfl rfl rfl ?_
            refine xi_iload_n hC dX8_readLetter_114 (pc' := 115) rfl rfl rfl ?_
            refine xi_aload_n hC dX8_readLetter_115 (pc' := 116) rfl rfl rfl ?_
            refine xg8_knownOf hC dX8_readLetter_116 (pc' := 119) rfl xw_f_X8_38 kd_oMod ?_
            refine xi_iconst (v := nI 5) hC dX8_readLetter_119 (pc' := 120) rfl (by decide +kernel) ?_
            refine xi_iload_n hC dX8_readLetter_120 (pc' := 121) rfl rfl rfl ?_
            refine xn_imul hC dX8_readLetter_121 (pc' := 122) rfl ?_
            refine xi_aload_n hC dX8_readLetter_122 (pc' := 123) rfl rfl rfl ?_
            refine xg8_hand hC dX8_readLetter_123 (pc' := 126) rfl xw_f_X8_62 kd_oMod ?_
            refine xi_iconst (v := nI 0) hC dX8_readLetter_126 (pc' := 127) rfl (by decide +kernel) ?_
            refine xi_iconst (v := nI 0) hC dX8_readLetter_127 (pc' := 128) rfl (by decide +kernel) ?_
            refine xi_callV (As := [.int (nI i), .ref (b + m_knownOf), .int (nI (5 * i)), .ref (b + m_hand), .int (nI 0), .int (nI 0)]) (rest := []) (c_X8_proves l D b n (C := C) (S := (sw T_1 m_alarmOf i (nI a))) (oa := m_knownOf) (Na := 25) (ob := m_hand) (Nb := 5) (fa := 5 * i) (fb := 0) (i := i) (d := (nI 0)) kd_m_knownOf (by decide) (by decide) kd_m_hand (by decide) (by decide) (by omega) (by omega) (by omega) (by refine ⟨by decide, by decide, Or.inl (by decide)⟩) (by refine ⟨by decide, by decide, Or.inl (by decide)⟩)) hC dX8_readLetter_128 (pc' := 131) rfl xw_m_X8_112 xw_c_X8_proves xw_ins_X8_proves xw_sel_X8_proves xw_ini_X8 xd_X8_proves (xH_at.trans (xsh_8 kd_oMod)) rfl ⟨Nat.le_of_ble_eq_true rfl, Nat.le_of_ble_eq_true rfl⟩ rfl (Nat.le_of_ble_eq_true rfl) ⟨Nat.le_of_ble_eq_true rfl, Nat.le_of_ble_eq_true rfl⟩ ?_
            rintro _ _ ⟨rfl, T_5, hM_6, rfl⟩
            show xV _ _ _ _ _ _ _ _ _ _ _ _ _ _ _ _ _ (xH D b (jn C T_5)) _ _ []
            refine xi_iconst (v := nI 2) hC dX8_readLetter_131 (pc' := 132) rfl (by decide +kernel) ?_
            refine xi_ireturn hC dX8_readLetter_132 hr rfl ?_
            refine ⟨_, _, rfl, ⟨fun q => absurd ⟨i, hi, rfl⟩ q, fun i' hi' e1 z' hz' e2 => ?_⟩, rfl⟩
            obtain rfl := nI_inj (by omega) (by omega) e1
            obtain rfl := nI_inj (by omega) (by omega) (hz.symm.trans e2)
            refine ⟨fun q => absurd q zc18, fun _ => ⟨_, hTk_2, fun q => absurd (kA.mpr q) zc46, fun _ => ⟨fun q => absurd (kB.mpr q) zc67, fun _ => ⟨rfl, (sw T_1 m_alarmOf i (nI a)), ?_, ?_, ?_⟩⟩⟩⟩
            rotate_left 2
            · have := hM_6
              rw [sw_n (q := m_knownOf) (by decide), hTk_2.kn, sw_n (q := m_hand) (by decide)] at this
              exact this
            · intro q
              first
                | exact absurd ((alm_pos hae (by omega)).mp q) (by omega)
                | rw [hae]
            · intro q
              first
                | rfl
                | exact absurd ((alm_pos hae (by omega)).mpr (by omega)) q
        · skip
          refine xi_aload_n hC dX8_readLetter_70 (pc' := 71) rfl rfl rfl ?_
          refine xi_aload_n hC dX8_readLetter_71 (pc' := 72) rfl rfl rfl ?_
          refine xg8_hand hC dX8_readLetter_72 (pc' := 75) rfl xw_f_X8_62 kd_oMod ?_
          refine xi_iconst (v := nI 0) hC dX8_readLetter_75 (pc' := 76) rfl (by decide +kernel) ?_
          refine xi_aload_n hC dX8_readLetter_76 (pc' := 77) rfl rfl rfl ?_
          refine xg8_knownOf hC dX8_readLetter_77 (pc' := 80) rfl xw_f_X8_38 kd_oMod ?_
          refine xi_iconst (v := nI 5) hC dX8_readLetter_80 (pc' := 81) rfl (by decide +kernel) ?_
          refine xi_iload_n hC dX8_readLetter_81 (pc' := 82) rfl rfl rfl ?_
          refine xn_imul hC dX8_readLetter_82 (pc' := 83) rfl ?_
          refine xi_callV (As := [.ref (b + m_hand), .int (nI 0), .ref (b + m_knownOf), .int (nI (5 * i))]) (rest := []) (c_X8_copy l D b n (C := C) (S := T_1) (oa := m_hand) (Na := 5) (ob := m_knownOf) (Nb := 25) (fa := 0) (fb := 5 * i) kd_m_hand (by decide) (by decide) kd_m_knownOf (by decide) (by decide) (by omega) (by omega)  (Or.inl (by decide))) hC dX8_readLetter_83 (pc' := 86) rfl xw_m_X8_108 xw_c_X8_copy xw_ins_X8_copy xw_sel_X8_copy xw_ini_X8 xd_X8_copy (xH_at.trans (xsh_8 kd_oMod)) rfl ⟨Nat.le_of_ble_eq_true rfl, Nat.le_of_ble_eq_true rfl⟩ rfl (Nat.le_of_ble_eq_true rfl) ⟨Nat.le_of_ble_eq_true rfl, Nat.le_of_ble_eq_true rfl⟩ ?_
          rintro _ _ ⟨rfl, T_7, eT_8, fT_9, rfl⟩
          show xV _ _ _ _ _ _ _ _ _ _ _ _ _ _ _ _ _ (xH D b (jn C T_7)) _ _ []
          refine xi_iconst (v := nI 1) hC dX8_readLetter_86 (pc' := 87) rfl (by decide +kernel) ?_
          refine xi_ireturn hC dX8_readLetter_87 hr rfl ?_
          refine ⟨_, _, rfl, ⟨fun q => absurd ⟨i, hi, rfl⟩ q, fun i' hi' e1 z' hz' e2 => ?_⟩, rfl⟩
          obtain rfl := nI_inj (by omega) (by omega) e1
          obtain rfl := nI_inj (by omega) (by omega) (hz.symm.trans e2)
          refine ⟨fun q => absurd q zc18, fun _ => ⟨_, hTk_2, fun q => absurd (kA.mpr q) zc46, fun _ => ⟨fun _ => ⟨rfl, ?_, fun q q1 => ?_⟩, fun q => absurd (kB.mp zc67) q⟩⟩⟩
          · rw [eT_8, hTk_2.2.2.2 m_knownOf (by decide) (by decide) (by decide)]
            exact cpy_congr (fun k hk => hTk_2.hd k hk)
          · exact fT_9 q q1
      · skip
        refine xi_iconst (v := nI 0) hC dX8_readLetter_49 (pc' := 50) rfl (by decide +kernel) ?_
        refine xi_ireturn hC dX8_readLetter_50 hr rfl ?_
        refine ⟨_, _, rfl, ⟨fun q => absurd ⟨i, hi, rfl⟩ q, fun i' hi' e1 z' hz' e2 => ?_⟩, rfl⟩
        obtain rfl := nI_inj (by omega) (by omega) e1
        obtain rfl := nI_inj (by omega) (by omega) (hz.symm.trans e2)
        exact ⟨fun q => absurd q zc18, fun _ => ⟨_, hTk_2, fun _ => ⟨rfl, rfl⟩, fun q => absurd (kA.mp zc46) q⟩⟩
    · skip
      refine xi_sipush (v := -10005) hC dX8_readLetter_21 (pc' := 24) rfl (by decide +kernel) ?_
      refine xi_ireturn hC dX8_readLetter_24 hr rfl ?_
      refine ⟨_, S, rfl, ⟨fun q => absurd ⟨i, hi, rfl⟩ q, fun i' hi' e1 z' hz' e2 => ?_⟩, rfl⟩
      obtain rfl := nI_inj (by omega) (by omega) e1
      obtain rfl := nI_inj (by omega) (by omega) (hz.symm.trans e2)
      exact ⟨fun _ => ⟨rfl, rfl⟩, fun q => absurd zc18 q⟩
  · skip
    refine xi_sipush (v := -10001) hC dX8_readLetter_8 (pc' := 11) rfl (by decide +kernel) ?_
    refine xi_ireturn hC dX8_readLetter_11 hr rfl ?_
    exact ⟨_, S, rfl, ⟨fun _ => ⟨rfl, rfl⟩, fun i h e => absurd ⟨i, h, e⟩ zc5⟩, rfl⟩

set_option maxRecDepth 100000 in
set_option maxHeartbeats 4000000 in
theorem c_X8_loseLetter (l : Launch) (D : XD) (b n : Nat) {C S : XM} {u w : Nat} (hW : MW S u w) {x : Int32} : xM l yX8_loseLetter cX8_loseLetter 2 (some .int) 2 47 0 0 D b n [.ref (b + oMod), .int x] (xH D b (jn C S)) n (fun y' h' => ∃ (r : Int32) (T : XM), y' = some (.int r) ∧ s_lose S u x r T ∧ h' = xH D b (jn C T)) := by
  refine xM.of (lv := [some (.ref (b + oMod)), some (.int x)]) (by decide +kernel) rfl (List.forall_mem_cons.mpr ⟨rfl, List.forall_mem_cons.mpr ⟨rfl, fun _ h => absurd h List.not_mem_nil⟩⟩) (Nat.le_of_ble_eq_true rfl) rfl ?_
  intro p e s m args below meth c hC hr hnm
  obtain ⟨hU, hN, hVw, hKp, hLt, hTx, hAl⟩ := id hW
  obtain ⟨hu, hu2, hu5⟩ := id hU
  obtain ⟨hn, hw1, hw6⟩ := id hN
  refine xi_aload_n hC dX8_loseLetter_0 (pc' := 1) rfl rfl rfl ?_
  refine xi_iload_n hC dX8_loseLetter_1 (pc' := 2) rfl rfl rfl ?_
  refine xi_callV (As := [.int x]) (rest := []) (c_X8_noUser l D b n (C := C) (S := S) (x := x) hU) hC dX8_loseLetter_2 (pc' := 5) rfl xw_m_X8_126 xw_c_X8_noUser xw_ins_X8_noUser xw_sel_X8_noUser xw_ini_X8 xd_X8_noUser (xH_at.trans (xsh_8 kd_oMod)) rfl ⟨Nat.le_of_ble_eq_true rfl, Nat.le_of_ble_eq_true rfl⟩ rfl (Nat.le_of_ble_eq_true rfl) ⟨Nat.le_of_ble_eq_true rfl, Nat.le_of_ble_eq_true rfl⟩ ?_
  rintro _ _ ⟨rfl, rfl⟩
  show xV _ _ _ _ _ _ _ _ _ _ _ _ _ _ _ _ _ (xH D b (jn C S)) _ _ [.int (bI (¬ isU u x))]
  refine xb_ifeq (tgt := 12) hC dX8_loseLetter_5 (pc' := 8) rfl (by decide) (fun zc5 => ?_) (fun zc5 => ?_)
  · skip
    obtain ⟨i, hi, rfl⟩ := Classical.not_not.mp zc5
    obtain ⟨z, hz4, hz⟩ := hLt i (by omega)
    refine xi_aload_n hC dX8_loseLetter_12 (pc' := 13) rfl rfl rfl ?_
    refine xg8_lettersOf hC dX8_loseLetter_13 (pc' := 16) rfl xw_f_X8_56 kd_oMod ?_
    refine xi_iload_n hC dX8_loseLetter_16 (pc' := 17) rfl rfl rfl ?_
    refine xt_l_i hC dX8_loseLetter_17 (pc' := 18) rfl (N := 5) kd_m_lettersOf (by decide) (by decide) rfl (by omega) ?_
    refine xtop (y := (nI z)) (hz) ?_
    refine xn_ifne (tgt := 25) hC dX8_loseLetter_18 (pc' := 21) rfl (by decide) (by omega) (fun zc18 => ?_) (fun zc18 => ?_)
    · skip
      refine xi_aload_n hC dX8_loseLetter_25 (pc' := 26) rfl rfl rfl ?_
      refine xi_iload_n hC dX8_loseLetter_26 (pc' := 27) rfl rfl rfl ?_
      refine xi_callV (As := [.int (nI i)]) (rest := []) (c_X8_takesLetter l D b n (C := C) (S := S) (i := i) (z := z) (by omega) hz (by assumption) hz4) hC dX8_loseLetter_27 (pc' := 30) rfl xw_m_X8_139 xw_c_X8_takesLetter xw_ins_X8_takesLetter xw_sel_X8_takesLetter xw_ini_X8 xd_X8_takesLetter (xH_at.trans (xsh_8 kd_oMod)) rfl ⟨Nat.le_of_ble_eq_true rfl, Nat.le_of_ble_eq_true rfl⟩ rfl (Nat.le_of_ble_eq_true rfl) ⟨Nat.le_of_ble_eq_true rfl, Nat.le_of_ble_eq_true rfl⟩ ?_
      rintro _ _ ⟨rfl, T_1, hTk_2, rfl⟩
      show xV _ _ _ _ _ _ _ _ _ _ _ _ _ _ _ _ _ (xH D b (jn C T_1)) _ _ []
      refine xi_aload_n hC dX8_loseLetter_30 (pc' := 31) rfl rfl rfl ?_
      refine xg8_lettersOf hC dX8_loseLetter_31 (pc' := 34) rfl xw_f_X8_56 kd_oMod ?_
      refine xi_iload_n hC dX8_loseLetter_34 (pc' := 35) rfl rfl rfl ?_
      refine xt_l_i hC dX8_loseLetter_35 (pc' := 36) rfl (N := 5) kd_m_lettersOf (by decide) (by decide) rfl (by omega) ?_
      refine xi_ireturn hC dX8_loseLetter_36 hr rfl ?_
      refine ⟨_, _, rfl, ⟨fun q => absurd ⟨i, hi, rfl⟩ q, fun i' hi' e1 z' hz' e2 => ?_⟩, rfl⟩
      obtain rfl := nI_inj (by omega) (by omega) e1
      obtain rfl := nI_inj (by omega) (by omega) (hz.symm.trans e2)
      exact ⟨fun q => absurd q zc18, fun _ => ⟨by rw [hTk_2.2.1, upd_s], hTk_2⟩⟩
    · skip
      refine xi_sipush (v := -10005) hC dX8_loseLetter_21 (pc' := 24) rfl (by decide +kernel) ?_
      refine xi_ireturn hC dX8_loseLetter_24 hr rfl ?_
      refine ⟨_, S, rfl, ⟨fun q => absurd ⟨i, hi, rfl⟩ q, fun i' hi' e1 z' hz' e2 => ?_⟩, rfl⟩
      obtain rfl := nI_inj (by omega) (by omega) e1
      obtain rfl := nI_inj (by omega) (by omega) (hz.symm.trans e2)
      exact ⟨fun _ => ⟨rfl, rfl⟩, fun q => absurd zc18 q⟩
  · skip
    refine xi_sipush (v := -10001) hC dX8_loseLetter_8 (pc' := 11) rfl (by decide +kernel) ?_
    refine xi_ireturn hC dX8_loseLetter_11 hr rfl ?_
    exact ⟨_, S, rfl, ⟨fun _ => ⟨rfl, rfl⟩, fun i h e => absurd ⟨i, h, e⟩ zc5⟩, rfl⟩

set_option maxRecDepth 100000 in
set_option maxHeartbeats 4000000 in
theorem c_X8_passProof (l : Launch) (D : XD) (b n : Nat) {C S : XM} {u w : Nat} (hW : MW S u w) {x y : Int32} : xM l yX8_passProof cX8_passProof 3 (some .int) 2 51 0 0 D b n [.ref (b + oMod), .int x, .int y] (xH D b (jn C S)) n (fun y' h' => ∃ (r : Int32) (T : XM), y' = some (.int r) ∧ s_pass S u x y r T ∧ h' = xH D b (jn C T)) := by
  refine xM.of (lv := [some (.ref (b + oMod)), some (.int x), some (.int y)]) (by decide +kernel) rfl (List.forall_mem_cons.mpr ⟨rfl, List.forall_mem_cons.mpr ⟨rfl, List.forall_mem_cons.mpr ⟨rfl, fun _ h => absurd h List.not_mem_nil⟩⟩⟩) (Nat.le_of_ble_eq_true rfl) rfl ?_
  intro p e s m args below meth c hC hr hnm
  obtain ⟨hU, hN, hVw, hKp, hLt, hTx, hAl⟩ := id hW
  obtain ⟨hu, hu2, hu5⟩ := id hU
  obtain ⟨hn, hw1, hw6⟩ := id hN
  refine xi_aload_n hC dX8_passProof_0 (pc' := 1) rfl rfl rfl ?_
  refine xi_iload_n hC dX8_passProof_1 (pc' := 2) rfl rfl rfl ?_
  refine xi_callV (As := [.int x]) (rest := []) (c_X8_noUser l D b n (C := C) (S := S) (x := x) hU) hC dX8_passProof_2 (pc' := 5) rfl xw_m_X8_126 xw_c_X8_noUser xw_ins_X8_noUser xw_sel_X8_noUser xw_ini_X8 xd_X8_noUser (xH_at.trans (xsh_8 kd_oMod)) rfl ⟨Nat.le_of_ble_eq_true rfl, Nat.le_of_ble_eq_true rfl⟩ rfl (Nat.le_of_ble_eq_true rfl) ⟨Nat.le_of_ble_eq_true rfl, Nat.le_of_ble_eq_true rfl⟩ ?_
  rintro _ _ ⟨rfl, rfl⟩
  show xV _ _ _ _ _ _ _ _ _ _ _ _ _ _ _ _ _ (xH D b (jn C S)) _ _ [.int (bI (¬ isU u x))]
  refine xb_ifne (tgt := 16) hC dX8_passProof_5 (pc' := 8) rfl (by decide) (fun zc5 => ?_) (fun zc5 => ?_)
  · skip
    refine xi_sipush (v := -10001) hC dX8_passProof_16 (pc' := 19) rfl (by decide +kernel) ?_
    refine xi_ireturn hC dX8_passProof_19 hr rfl ?_
    exact ⟨_, S, rfl, ⟨fun _ => ⟨rfl, rfl⟩, fun i j h1 h2 e1 e2 => by first | exact absurd (show ∃ k, _ from ⟨j, h2, e2⟩) zc13 | exact absurd (show ∃ k, _ from ⟨i, h1, e1⟩) zc5⟩, rfl⟩
  · skip
    refine xi_aload_n hC dX8_passProof_8 (pc' := 9) rfl rfl rfl ?_
    refine xi_iload_n hC dX8_passProof_9 (pc' := 10) rfl rfl rfl ?_
    refine xi_callV (As := [.int y]) (rest := []) (c_X8_noUser l D b n (C := C) (S := S) (x := y) hU) hC dX8_passProof_10 (pc' := 13) rfl xw_m_X8_126 xw_c_X8_noUser xw_ins_X8_noUser xw_sel_X8_noUser xw_ini_X8 xd_X8_noUser (xH_at.trans (xsh_8 kd_oMod)) rfl ⟨Nat.le_of_ble_eq_true rfl, Nat.le_of_ble_eq_true rfl⟩ rfl (Nat.le_of_ble_eq_true rfl) ⟨Nat.le_of_ble_eq_true rfl, Nat.le_of_ble_eq_true rfl⟩ ?_
    rintro _ _ ⟨rfl, rfl⟩
    show xV _ _ _ _ _ _ _ _ _ _ _ _ _ _ _ _ _ (xH D b (jn C S)) _ _ [.int (bI (¬ isU u y))]
    refine xb_ifeq (tgt := 20) hC dX8_passProof_13 (pc' := 16) rfl (by decide) (fun zc13 => ?_) (fun zc13 => ?_)
    · skip
      obtain ⟨i, hi, rfl⟩ := Classical.not_not.mp zc5
      obtain ⟨j, hj, rfl⟩ := Classical.not_not.mp zc13
      refine xi_iload_n hC dX8_passProof_20 (pc' := 21) rfl rfl rfl ?_
      refine xi_iload_n hC dX8_passProof_21 (pc' := 22) rfl rfl rfl ?_
      refine xn_icmpne (tgt := 29) hC dX8_passProof_22 (pc' := 25) rfl (by decide) (by omega) (by omega) (fun zc22 => ?_) (fun zc22 => ?_)
      · skip
        refine xi_aload_n hC dX8_passProof_29 (pc' := 30) rfl rfl rfl ?_
        refine xg8_hasProof hC dX8_passProof_30 (pc' := 33) rfl xw_f_X8_25 kd_oMod ?_
        refine xi_iload_n hC dX8_passProof_33 (pc' := 34) rfl rfl rfl ?_
        refine xt_l_b hC dX8_passProof_34 (pc' := 35) rfl (N := 5) kd_m_hasProof (by decide) (by decide) rfl (by omega) ?_
        refine xi_ifne (tgt := 42) hC dX8_passProof_35 (pc' := 38) rfl (by decide) (fun zc35 => ?_) (fun zc35 => ?_)
        · skip
          refine xi_aload_n hC dX8_passProof_42 (pc' := 43) rfl rfl rfl ?_
          refine xg8_sentBy hC dX8_passProof_43 (pc' := 46) rfl xw_f_X8_47 kd_oMod ?_
          refine xi_iload_n hC dX8_passProof_46 (pc' := 47) rfl rfl rfl ?_
          refine xi_dup2 hC dX8_passProof_47 (pc' := 48) rfl rfl rfl ?_
          refine xt_l_i hC dX8_passProof_48 (pc' := 49) rfl (N := 5) kd_m_sentBy (by decide) (by decide) rfl (by omega) ?_
          refine xi_iconst (v := nI 2) hC dX8_passProof_49 (pc' := 50) rfl (by decide +kernel) ?_
          refine xi_aload_n hC dX8_passProof_50 (pc' := 51) rfl rfl rfl ?_
          refine xt_g_users hC dX8_passProof_51 (pc' := 54) rfl xw_f_X8_73 ?_
          refine xtop (y := (nI u)) (hu) ?_
          refine xn_imul hC dX8_passProof_54 (pc' := 55) rfl ?_
          refine xi_iadd hC dX8_passProof_55 (pc' := 56) rfl ?_
          refine xt_s_i hC dX8_passProof_56 (pc' := 57) rfl (N := 5) kd_m_sentBy (by decide) (by decide) rfl (by omega) ?_
          refine xi_aload_n hC dX8_passProof_57 (pc' := 58) rfl rfl rfl ?_
          refine xi_iload_n hC dX8_passProof_58 (pc' := 59) rfl rfl rfl ?_
          refine xi_aload_n hC dX8_passProof_59 (pc' := 60) rfl rfl rfl ?_
          refine xg8_proofOf hC dX8_passProof_60 (pc' := 63) rfl xw_f_X8_32 kd_oMod ?_
          refine xi_bipush (v := nI 10) hC dX8_passProof_63 (pc' := 65) rfl (by decide +kernel) ?_
          refine xi_iload_n hC dX8_passProof_65 (pc' := 66) rfl rfl rfl ?_
          refine xn_imul hC dX8_passProof_66 (pc' := 67) rfl ?_
          refine xi_aload_n hC dX8_passProof_67 (pc' := 68) rfl rfl rfl ?_
          refine xg8_proofOf hC dX8_passProof_68 (pc' := 71) rfl xw_f_X8_32 kd_oMod ?_
          refine xi_bipush (v := nI 10) hC dX8_passProof_71 (pc' := 73) rfl (by decide +kernel) ?_
          refine xi_iload_n hC dX8_passProof_73 (pc' := 74) rfl rfl rfl ?_
          refine xn_imul hC dX8_passProof_74 (pc' := 75) rfl ?_
          refine xi_iconst (v := nI 5) hC dX8_passProof_75 (pc' := 76) rfl (by decide +kernel) ?_
          refine xn_iadd hC dX8_passProof_76 (pc' := 77) rfl ?_
          refine xi_aload_n hC dX8_passProof_77 (pc' := 78) rfl rfl rfl ?_
          refine xg8_depthOf hC dX8_passProof_78 (pc' := 81) rfl xw_f_X8_29 kd_oMod ?_
          refine xi_iload_n hC dX8_passProof_81 (pc' := 82) rfl rfl rfl ?_
          refine xt_l_i hC dX8_passProof_82 (pc' := 83) rfl (N := 5) kd_m_depthOf (by decide) (by decide) rfl (by omega) ?_
          refine xtop (y := (S m_depthOf i)) (by rw [sw_n (q := m_depthOf) (o := m_sentBy) (by first | (simp only [oMs, oVws, oScr, oSgn, oMod, oMem, oSig, oKno, oPro, oBox, oFst, oSnd, oLts, oLet, oNum, oVw, oEnt, oBef, oBk, oVs, oCon, oVec, m_row, m_keptOf, m_keptRow, m_viewOf, m_alarmOf, m_hasProof, m_depthOf, m_proofOf, m_signedOf, m_knownOf, m_doneOf, m_shownTo, m_sentBy, m_hasRead, m_readOf, m_lettersOf, m_letter, m_hand, m_text] <;> omega) | decide | omega | (simp only [oMs, oVws, oScr, oSgn, oMod, oMem, oSig, oKno, oPro, oBox, oFst, oSnd, oLts, oLet, oNum, oVw, oEnt, oBef, oBk, oVs, oCon, oVec, m_row, m_keptOf, m_keptRow, m_viewOf, m_alarmOf, m_hasProof, m_depthOf, m_proofOf, m_signedOf, m_knownOf, m_doneOf, m_shownTo, m_sentBy, m_hasRead, m_readOf, m_lettersOf, m_letter, m_hand, m_text] at * <;> omega))]) ?_
          refine xi_iconst (v := nI 1) hC dX8_passProof_83 (pc' := 84) rfl (by decide +kernel) ?_
          refine xi_iadd hC dX8_passProof_84 (pc' := 85) rfl ?_
          refine xi_callV (As := [.int (nI j), .ref (b + m_proofOf), .int (nI (10 * i)), .ref (b + m_proofOf), .int (nI ((10 * i) + 5)), .int ((S m_depthOf i) + (nI 1))]) (rest := []) (c_X8_proves l D b n (C := C) (S := (sw S m_sentBy i ((S m_sentBy i) + (nI (2 * u))))) (oa := m_proofOf) (Na := 50) (ob := m_proofOf) (Nb := 50) (fa := 10 * i) (fb := (10 * i) + 5) (i := j) (d := ((S m_depthOf i) + (nI 1))) kd_m_proofOf (by decide) (by decide) kd_m_proofOf (by decide) (by decide) (by omega) (by omega) (by omega) (by refine ⟨by decide, by decide, Or.inr (by omega)⟩) (by refine ⟨by decide, by decide, Or.inr (by omega)⟩)) hC dX8_passProof_85 (pc' := 88) rfl xw_m_X8_112 xw_c_X8_proves xw_ins_X8_proves xw_sel_X8_proves xw_ini_X8 xd_X8_proves (xH_at.trans (xsh_8 kd_oMod)) rfl ⟨Nat.le_of_ble_eq_true rfl, Nat.le_of_ble_eq_true rfl⟩ rfl (Nat.le_of_ble_eq_true rfl) ⟨Nat.le_of_ble_eq_true rfl, Nat.le_of_ble_eq_true rfl⟩ ?_
          rintro _ _ ⟨rfl, T_1, hM_2, rfl⟩
          show xV _ _ _ _ _ _ _ _ _ _ _ _ _ _ _ _ _ (xH D b (jn C T_1)) _ _ []
          refine xi_aload_n hC dX8_passProof_88 (pc' := 89) rfl rfl rfl ?_
          refine xg8_alarmOf hC dX8_passProof_89 (pc' := 92) rfl xw_f_X8_22 kd_oMod ?_
          refine xi_iload_n hC dX8_passProof_92 (pc' := 93) rfl rfl rfl ?_
          refine xt_l_i hC dX8_passProof_93 (pc' := 94) rfl (N := 5) kd_m_alarmOf (by decide) (by decide) rfl (by omega) ?_
          refine xi_ifle (tgt := 99) hC dX8_passProof_94 (pc' := 97) rfl (by decide) (fun zc94 => ?_) (fun zc94 => ?_)
          · skip
            refine xi_aload_n hC dX8_passProof_99 (pc' := 100) rfl rfl rfl ?_
            refine xg8_alarmOf hC dX8_passProof_100 (pc' := 103) rfl xw_f_X8_22 kd_oMod ?_
            refine xi_iload_n hC dX8_passProof_103 (pc' := 104) rfl rfl rfl ?_
            refine xi_iconst (v := nI 5) hC dX8_passProof_104 (pc' := 105) rfl (by decide +kernel) ?_
            refine xt_s_i hC dX8_passProof_105 (pc' := 106) rfl (N := 5) kd_m_alarmOf (by decide) (by decide) rfl (by omega) ?_
            refine xi_iconst (v := nI 1) hC dX8_passProof_106 (pc' := 107) rfl (by decide +kernel) ?_
            refine xi_ireturn hC dX8_passProof_107 hr rfl ?_
            refine ⟨_, _, rfl, ⟨fun q => absurd ⟨⟨i, hi, rfl⟩, ⟨j, hj, rfl⟩⟩ q, fun i' j' hi' hj' e1 e2 => ?_⟩, rfl⟩
            obtain rfl := nI_inj (by omega) (by omega) e1
            obtain rfl := nI_inj (by omega) (by omega) e2
            refine ⟨fun q => absurd q zc22, fun _ => ⟨fun q => absurd q zc35, fun _ => ⟨T_1, ?_, ?_, ?_⟩⟩⟩
            · have := hM_2
              rw [sw_n (q := m_proofOf) (by decide)] at this
              exact this
            · intro q
              rw [(show S m_alarmOf j = T_1 m_alarmOf j from by rw [hM_2.out' (o := m_alarmOf) ⟨by decide, by decide, by decide⟩, sw_n (by decide)])] at q
              exact absurd q (i_not_lt.mpr zc94)
            · intro q
              rw [(show S m_alarmOf j = T_1 m_alarmOf j from by rw [hM_2.out' (o := m_alarmOf) ⟨by decide, by decide, by decide⟩, sw_n (by decide)])] at q
              exact ⟨rfl, rfl⟩
          · skip
            refine xi_iconst (v := nI 0) hC dX8_passProof_97 (pc' := 98) rfl (by decide +kernel) ?_
            refine xi_ireturn hC dX8_passProof_98 hr rfl ?_
            refine ⟨_, _, rfl, ⟨fun q => absurd ⟨⟨i, hi, rfl⟩, ⟨j, hj, rfl⟩⟩ q, fun i' j' hi' hj' e1 e2 => ?_⟩, rfl⟩
            obtain rfl := nI_inj (by omega) (by omega) e1
            obtain rfl := nI_inj (by omega) (by omega) e2
            refine ⟨fun q => absurd q zc22, fun _ => ⟨fun q => absurd q zc35, fun _ => ⟨T_1, ?_, ?_, ?_⟩⟩⟩
            · have := hM_2
              rw [sw_n (q := m_proofOf) (by decide)] at this
              exact this
            · intro q
              rw [(show S m_alarmOf j = T_1 m_alarmOf j from by rw [hM_2.out' (o := m_alarmOf) ⟨by decide, by decide, by decide⟩, sw_n (by decide)])] at q
              exact ⟨rfl, rfl⟩
            · intro q
              rw [(show S m_alarmOf j = T_1 m_alarmOf j from by rw [hM_2.out' (o := m_alarmOf) ⟨by decide, by decide, by decide⟩, sw_n (by decide)])] at q
              exact absurd (i_not_le.mp zc94) q
        · skip
          refine xi_sipush (v := -10003) hC dX8_passProof_38 (pc' := 41) rfl (by decide +kernel) ?_
          refine xi_ireturn hC dX8_passProof_41 hr rfl ?_
          refine ⟨_, S, rfl, ⟨fun q => absurd ⟨⟨i, hi, rfl⟩, ⟨j, hj, rfl⟩⟩ q, fun i' j' hi' hj' e1 e2 => ?_⟩, rfl⟩
          obtain rfl := nI_inj (by omega) (by omega) e1
          obtain rfl := nI_inj (by omega) (by omega) e2
          exact ⟨fun q => absurd q zc22, fun _ => ⟨fun _ => ⟨rfl, rfl⟩, fun q => absurd zc35 q⟩⟩
      · skip
        refine xi_sipush (v := -10002) hC dX8_passProof_25 (pc' := 28) rfl (by decide +kernel) ?_
        refine xi_ireturn hC dX8_passProof_28 hr rfl ?_
        refine ⟨_, S, rfl, ⟨fun q => absurd ⟨⟨i, hi, rfl⟩, ⟨j, hj, rfl⟩⟩ q, fun i' j' hi' hj' e1 e2 => ?_⟩, rfl⟩
        obtain rfl := nI_inj (by omega) (by omega) e1
        obtain rfl := nI_inj (by omega) (by omega) e2
        exact ⟨fun _ => ⟨rfl, rfl⟩, fun q => absurd zc22 q⟩
    · skip
      refine xi_sipush (v := -10001) hC dX8_passProof_16 (pc' := 19) rfl (by decide +kernel) ?_
      refine xi_ireturn hC dX8_passProof_19 hr rfl ?_
      exact ⟨_, S, rfl, ⟨fun _ => ⟨rfl, rfl⟩, fun i j h1 h2 e1 e2 => by first | exact absurd (show ∃ k, _ from ⟨j, h2, e2⟩) zc13 | exact absurd (show ∃ k, _ from ⟨i, h1, e1⟩) zc5⟩, rfl⟩

set_option maxRecDepth 100000 in
set_option maxHeartbeats 4000000 in
theorem c_X8_count (l : Launch) (D : XD) (b n : Nat) {C S : XM} {u w : Nat} (hW : MW S u w) {x : Int32} : xM l yX8_count cX8_count 6 (some .int) 0 0 0 0 D b n [.ref (b + oMod), .int x] (xH D b (jn C S)) n (fun y' h' => ∃ r : Int32, y' = some (.int r) ∧ s_count S u w x r ∧ h' = xH D b (jn C S)) := by
  refine xM.of (lv := [some (.ref (b + oMod)), some (.int x), none, none, none, none]) (by decide +kernel) rfl (List.forall_mem_cons.mpr ⟨rfl, List.forall_mem_cons.mpr ⟨rfl, fun _ h => absurd h List.not_mem_nil⟩⟩) (Nat.le_of_ble_eq_true rfl) rfl ?_
  intro p e s m args below meth c hC hr hnm
  obtain ⟨hU, hN, hVw, hKp, hLt, hTx, hAl⟩ := id hW
  obtain ⟨hu, hu2, hu5⟩ := id hU
  obtain ⟨hn, hw1, hw6⟩ := id hN
  refine xi_iconst (v := nI 0) hC dX8_count_0 (pc' := 1) rfl (by decide +kernel) ?_
  refine xi_istore_n (lv' := [some (.ref (b + oMod)), some (.int x), some (.int (nI 0)), none, none, none]) hC dX8_count_1 (pc' := 2) rfl rfl (by decide) rfl ?_
  refine xi_iconst (v := nI 0) hC dX8_count_2 (pc' := 3) rfl (by decide +kernel) ?_
  refine xi_istore_n (lv' := [some (.ref (b + oMod)), some (.int x), some (.int (nI 0)), some (.int (nI 0)), none, none]) hC dX8_count_3 (pc' := 4) rfl rfl (by decide) rfl ?_
  refine xi_iconst (v := nI 0) hC dX8_count_4 (pc' := 5) rfl (by decide +kernel) ?_
  refine xi_istore (lv' := [some (.ref (b + oMod)), some (.int x), some (.int (nI 0)), some (.int (nI 0)), some (.int (nI 0)), none]) hC dX8_count_5 (pc' := 7) rfl (by decide) rfl ?_
  refine xi_iconst (v := nI 0) hC dX8_count_7 (pc' := 8) rfl (by decide +kernel) ?_
  refine xi_istore (lv' := [some (.ref (b + oMod)), some (.int x), some (.int (nI 0)), some (.int (nI 0)), some (.int (nI 0)), some (.int (nI 0))]) hC dX8_count_8 (pc' := 10) rfl (by decide) rfl ?_
  have L10 : ∀ (d : Nat) (j : Nat) (ca : Nat) (cp : Nat) (le : Int32), u - j < d → (j ≤ u) → (ca = xcnt (fun i => 0 < S m_alarmOf i) j) → (cp = xcnt (fun i => S m_hasProof i ≠ 0) j) → (le = xsum (S m_lettersOf) j) → xV p l e (xR 0 0 0 0) s m args below meth c D b 6 0 0 (MQ below (xQ D b n (fun y' h' => ∃ r : Int32, y' = some (.int r) ∧ s_count S u w x r ∧ h' = xH D b (jn C S))) args s 0 0 (fun q => b ≤ q)) n (xH D b (jn C S)) 10 [some (.ref (b + oMod)), some (.int x), some (.int (nI ca)), some (.int (nI cp)), some (.int le), some (.int (nI j))] [] := by
    intro d
    induction d with
    | zero => intro j ca cp le h; exact absurd h (Nat.not_lt_zero _)
    | succ d ih10 =>
      intro j ca cp le hd10 hj ea ep el
      refine xi_iload hC dX8_count_10 (pc' := 12) rfl rfl ?_
      refine xi_aload_n hC dX8_count_12 (pc' := 13) rfl rfl rfl ?_
      refine xt_g_users hC dX8_count_13 (pc' := 16) rfl xw_f_X8_73 ?_
      refine xtop (y := (nI u)) (hu) ?_
      refine xn_icmpge (tgt := 73) hC dX8_count_16 (pc' := 19) rfl (by decide) (by omega) (by omega) (fun zc16 => ?_) (fun zc16 => ?_)
      · skip
        have ej : j = u := by omega
        rw [ej] at ea ep el
        refine xi_iload_n hC dX8_count_73 (pc' := 74) rfl rfl rfl ?_
        by_cases zt74 : x.toInt < 0 ∨ 5 < x.toInt
        · refine xi_tableOut (tgt := 134) hC dX8_count_74 zt74 (by decide) ?_
          refine xi_sipush (v := -10002) hC dX8_count_134 (pc' := 137) rfl (by decide +kernel) ?_
          refine xi_ireturn hC dX8_count_137 hr rfl ?_
          exact ⟨_, rfl, ⟨(by first | exact fun q => absurd (zx74.symm.trans q) (by decide) | exact fun _ => rfl | exact fun q => absurd zt74 (by rw [q]; decide) | exact fun q => absurd q (by rw [zx74]; decide) | exact fun _ => by rw [ea] | exact fun _ => by rw [ep] | exact fun _ => el), (by first | exact fun q => absurd (zx74.symm.trans q) (by decide) | exact fun _ => rfl | exact fun q => absurd zt74 (by rw [q]; decide) | exact fun q => absurd q (by rw [zx74]; decide) | exact fun _ => by rw [ea] | exact fun _ => by rw [ep] | exact fun _ => el), (by first | exact fun q => absurd (zx74.symm.trans q) (by decide) | exact fun _ => rfl | exact fun q => absurd zt74 (by rw [q]; decide) | exact fun q => absurd q (by rw [zx74]; decide) | exact fun _ => by rw [ea] | exact fun _ => by rw [ep] | exact fun _ => el), (by first | exact fun q => absurd (zx74.symm.trans q) (by decide) | exact fun _ => rfl | exact fun q => absurd zt74 (by rw [q]; decide) | exact fun q => absurd q (by rw [zx74]; decide) | exact fun _ => by rw [ea] | exact fun _ => by rw [ep] | exact fun _ => el), (by first | exact fun q => absurd (zx74.symm.trans q) (by decide) | exact fun _ => rfl | exact fun q => absurd zt74 (by rw [q]; decide) | exact fun q => absurd q (by rw [zx74]; decide) | exact fun _ => by rw [ea] | exact fun _ => by rw [ep] | exact fun _ => el), (by first | exact fun q => absurd (zx74.symm.trans q) (by decide) | exact fun _ => rfl | exact fun q => absurd zt74 (by rw [q]; decide) | exact fun q => absurd q (by rw [zx74]; decide) | exact fun _ => by rw [ea] | exact fun _ => by rw [ep] | exact fun _ => el), (by first | exact fun q => absurd (zx74.symm.trans q) (by decide) | exact fun _ => rfl | exact fun q => absurd zt74 (by rw [q]; decide) | exact fun q => absurd q (by rw [zx74]; decide) | exact fun _ => by rw [ea] | exact fun _ => by rw [ep] | exact fun _ => el)⟩, rfl⟩
        · rcases xtab_0_5 zt74 with zx74 | zx74 | zx74 | zx74 | zx74 | zx74
          · refine xi_tableIn (tgt := 112) (off := 38) hC dX8_count_74 (by rw [zx74]; decide) (by rw [zx74]; decide) (by rw [zx74]; rfl) (by decide) ?_
            refine xi_aload_n hC dX8_count_112 (pc' := 113) rfl rfl rfl ?_
            refine xt_g_users hC dX8_count_113 (pc' := 116) rfl xw_f_X8_73 ?_
            refine xtop (y := (nI u)) (hu) ?_
            refine xi_ireturn hC dX8_count_116 hr rfl ?_
            exact ⟨_, rfl, ⟨(by first | exact fun q => absurd (zx74.symm.trans q) (by decide) | exact fun _ => rfl | exact fun q => absurd zt74 (by rw [q]; decide) | exact fun q => absurd q (by rw [zx74]; decide) | exact fun _ => by rw [ea] | exact fun _ => by rw [ep] | exact fun _ => el), (by first | exact fun q => absurd (zx74.symm.trans q) (by decide) | exact fun _ => rfl | exact fun q => absurd zt74 (by rw [q]; decide) | exact fun q => absurd q (by rw [zx74]; decide) | exact fun _ => by rw [ea] | exact fun _ => by rw [ep] | exact fun _ => el), (by first | exact fun q => absurd (zx74.symm.trans q) (by decide) | exact fun _ => rfl | exact fun q => absurd zt74 (by rw [q]; decide) | exact fun q => absurd q (by rw [zx74]; decide) | exact fun _ => by rw [ea] | exact fun _ => by rw [ep] | exact fun _ => el), (by first | exact fun q => absurd (zx74.symm.trans q) (by decide) | exact fun _ => rfl | exact fun q => absurd zt74 (by rw [q]; decide) | exact fun q => absurd q (by rw [zx74]; decide) | exact fun _ => by rw [ea] | exact fun _ => by rw [ep] | exact fun _ => el), (by first | exact fun q => absurd (zx74.symm.trans q) (by decide) | exact fun _ => rfl | exact fun q => absurd zt74 (by rw [q]; decide) | exact fun q => absurd q (by rw [zx74]; decide) | exact fun _ => by rw [ea] | exact fun _ => by rw [ep] | exact fun _ => el), (by first | exact fun q => absurd (zx74.symm.trans q) (by decide) | exact fun _ => rfl | exact fun q => absurd zt74 (by rw [q]; decide) | exact fun q => absurd q (by rw [zx74]; decide) | exact fun _ => by rw [ea] | exact fun _ => by rw [ep] | exact fun _ => el), (by first | exact fun q => absurd (zx74.symm.trans q) (by decide) | exact fun _ => rfl | exact fun q => absurd zt74 (by rw [q]; decide) | exact fun q => absurd q (by rw [zx74]; decide) | exact fun _ => by rw [ea] | exact fun _ => by rw [ep] | exact fun _ => el)⟩, rfl⟩
          · refine xi_tableIn (tgt := 117) (off := 43) hC dX8_count_74 (by rw [zx74]; decide) (by rw [zx74]; decide) (by rw [zx74]; rfl) (by decide) ?_
            refine xi_aload_n hC dX8_count_117 (pc' := 118) rfl rfl rfl ?_
            refine xt_g_views hC dX8_count_118 (pc' := 121) rfl xw_f_X8_77 ?_
            refine xtop (y := (nI w)) (hn) ?_
            refine xi_ireturn hC dX8_count_121 hr rfl ?_
            exact ⟨_, rfl, ⟨(by first | exact fun q => absurd (zx74.symm.trans q) (by decide) | exact fun _ => rfl | exact fun q => absurd zt74 (by rw [q]; decide) | exact fun q => absurd q (by rw [zx74]; decide) | exact fun _ => by rw [ea] | exact fun _ => by rw [ep] | exact fun _ => el), (by first | exact fun q => absurd (zx74.symm.trans q) (by decide) | exact fun _ => rfl | exact fun q => absurd zt74 (by rw [q]; decide) | exact fun q => absurd q (by rw [zx74]; decide) | exact fun _ => by rw [ea] | exact fun _ => by rw [ep] | exact fun _ => el), (by first | exact fun q => absurd (zx74.symm.trans q) (by decide) | exact fun _ => rfl | exact fun q => absurd zt74 (by rw [q]; decide) | exact fun q => absurd q (by rw [zx74]; decide) | exact fun _ => by rw [ea] | exact fun _ => by rw [ep] | exact fun _ => el), (by first | exact fun q => absurd (zx74.symm.trans q) (by decide) | exact fun _ => rfl | exact fun q => absurd zt74 (by rw [q]; decide) | exact fun q => absurd q (by rw [zx74]; decide) | exact fun _ => by rw [ea] | exact fun _ => by rw [ep] | exact fun _ => el), (by first | exact fun q => absurd (zx74.symm.trans q) (by decide) | exact fun _ => rfl | exact fun q => absurd zt74 (by rw [q]; decide) | exact fun q => absurd q (by rw [zx74]; decide) | exact fun _ => by rw [ea] | exact fun _ => by rw [ep] | exact fun _ => el), (by first | exact fun q => absurd (zx74.symm.trans q) (by decide) | exact fun _ => rfl | exact fun q => absurd zt74 (by rw [q]; decide) | exact fun q => absurd q (by rw [zx74]; decide) | exact fun _ => by rw [ea] | exact fun _ => by rw [ep] | exact fun _ => el), (by first | exact fun q => absurd (zx74.symm.trans q) (by decide) | exact fun _ => rfl | exact fun q => absurd zt74 (by rw [q]; decide) | exact fun q => absurd q (by rw [zx74]; decide) | exact fun _ => by rw [ea] | exact fun _ => by rw [ep] | exact fun _ => el)⟩, rfl⟩
          · refine xi_tableIn (tgt := 122) (off := 48) hC dX8_count_74 (by rw [zx74]; decide) (by rw [zx74]; decide) (by rw [zx74]; rfl) (by decide) ?_
            refine xi_iload_n hC dX8_count_122 (pc' := 123) rfl rfl rfl ?_
            refine xi_ireturn hC dX8_count_123 hr rfl ?_
            exact ⟨_, rfl, ⟨(by first | exact fun q => absurd (zx74.symm.trans q) (by decide) | exact fun _ => rfl | exact fun q => absurd zt74 (by rw [q]; decide) | exact fun q => absurd q (by rw [zx74]; decide) | exact fun _ => by rw [ea] | exact fun _ => by rw [ep] | exact fun _ => el), (by first | exact fun q => absurd (zx74.symm.trans q) (by decide) | exact fun _ => rfl | exact fun q => absurd zt74 (by rw [q]; decide) | exact fun q => absurd q (by rw [zx74]; decide) | exact fun _ => by rw [ea] | exact fun _ => by rw [ep] | exact fun _ => el), (by first | exact fun q => absurd (zx74.symm.trans q) (by decide) | exact fun _ => rfl | exact fun q => absurd zt74 (by rw [q]; decide) | exact fun q => absurd q (by rw [zx74]; decide) | exact fun _ => by rw [ea] | exact fun _ => by rw [ep] | exact fun _ => el), (by first | exact fun q => absurd (zx74.symm.trans q) (by decide) | exact fun _ => rfl | exact fun q => absurd zt74 (by rw [q]; decide) | exact fun q => absurd q (by rw [zx74]; decide) | exact fun _ => by rw [ea] | exact fun _ => by rw [ep] | exact fun _ => el), (by first | exact fun q => absurd (zx74.symm.trans q) (by decide) | exact fun _ => rfl | exact fun q => absurd zt74 (by rw [q]; decide) | exact fun q => absurd q (by rw [zx74]; decide) | exact fun _ => by rw [ea] | exact fun _ => by rw [ep] | exact fun _ => el), (by first | exact fun q => absurd (zx74.symm.trans q) (by decide) | exact fun _ => rfl | exact fun q => absurd zt74 (by rw [q]; decide) | exact fun q => absurd q (by rw [zx74]; decide) | exact fun _ => by rw [ea] | exact fun _ => by rw [ep] | exact fun _ => el), (by first | exact fun q => absurd (zx74.symm.trans q) (by decide) | exact fun _ => rfl | exact fun q => absurd zt74 (by rw [q]; decide) | exact fun q => absurd q (by rw [zx74]; decide) | exact fun _ => by rw [ea] | exact fun _ => by rw [ep] | exact fun _ => el)⟩, rfl⟩
          · refine xi_tableIn (tgt := 124) (off := 50) hC dX8_count_74 (by rw [zx74]; decide) (by rw [zx74]; decide) (by rw [zx74]; rfl) (by decide) ?_
            refine xi_iload_n hC dX8_count_124 (pc' := 125) rfl rfl rfl ?_
            refine xi_ireturn hC dX8_count_125 hr rfl ?_
            exact ⟨_, rfl, ⟨(by first | exact fun q => absurd (zx74.symm.trans q) (by decide) | exact fun _ => rfl | exact fun q => absurd zt74 (by rw [q]; decide) | exact fun q => absurd q (by rw [zx74]; decide) | exact fun _ => by rw [ea] | exact fun _ => by rw [ep] | exact fun _ => el), (by first | exact fun q => absurd (zx74.symm.trans q) (by decide) | exact fun _ => rfl | exact fun q => absurd zt74 (by rw [q]; decide) | exact fun q => absurd q (by rw [zx74]; decide) | exact fun _ => by rw [ea] | exact fun _ => by rw [ep] | exact fun _ => el), (by first | exact fun q => absurd (zx74.symm.trans q) (by decide) | exact fun _ => rfl | exact fun q => absurd zt74 (by rw [q]; decide) | exact fun q => absurd q (by rw [zx74]; decide) | exact fun _ => by rw [ea] | exact fun _ => by rw [ep] | exact fun _ => el), (by first | exact fun q => absurd (zx74.symm.trans q) (by decide) | exact fun _ => rfl | exact fun q => absurd zt74 (by rw [q]; decide) | exact fun q => absurd q (by rw [zx74]; decide) | exact fun _ => by rw [ea] | exact fun _ => by rw [ep] | exact fun _ => el), (by first | exact fun q => absurd (zx74.symm.trans q) (by decide) | exact fun _ => rfl | exact fun q => absurd zt74 (by rw [q]; decide) | exact fun q => absurd q (by rw [zx74]; decide) | exact fun _ => by rw [ea] | exact fun _ => by rw [ep] | exact fun _ => el), (by first | exact fun q => absurd (zx74.symm.trans q) (by decide) | exact fun _ => rfl | exact fun q => absurd zt74 (by rw [q]; decide) | exact fun q => absurd q (by rw [zx74]; decide) | exact fun _ => by rw [ea] | exact fun _ => by rw [ep] | exact fun _ => el), (by first | exact fun q => absurd (zx74.symm.trans q) (by decide) | exact fun _ => rfl | exact fun q => absurd zt74 (by rw [q]; decide) | exact fun q => absurd q (by rw [zx74]; decide) | exact fun _ => by rw [ea] | exact fun _ => by rw [ep] | exact fun _ => el)⟩, rfl⟩
          · refine xi_tableIn (tgt := 126) (off := 52) hC dX8_count_74 (by rw [zx74]; decide) (by rw [zx74]; decide) (by rw [zx74]; rfl) (by decide) ?_
            refine xi_aload_n hC dX8_count_126 (pc' := 127) rfl rfl rfl ?_
            refine xt_g_operations hC dX8_count_127 (pc' := 130) rfl xw_f_X8_80 ?_
            refine xi_ireturn hC dX8_count_130 hr rfl ?_
            exact ⟨_, rfl, ⟨(by first | exact fun q => absurd (zx74.symm.trans q) (by decide) | exact fun _ => rfl | exact fun q => absurd zt74 (by rw [q]; decide) | exact fun q => absurd q (by rw [zx74]; decide) | exact fun _ => by rw [ea] | exact fun _ => by rw [ep] | exact fun _ => el), (by first | exact fun q => absurd (zx74.symm.trans q) (by decide) | exact fun _ => rfl | exact fun q => absurd zt74 (by rw [q]; decide) | exact fun q => absurd q (by rw [zx74]; decide) | exact fun _ => by rw [ea] | exact fun _ => by rw [ep] | exact fun _ => el), (by first | exact fun q => absurd (zx74.symm.trans q) (by decide) | exact fun _ => rfl | exact fun q => absurd zt74 (by rw [q]; decide) | exact fun q => absurd q (by rw [zx74]; decide) | exact fun _ => by rw [ea] | exact fun _ => by rw [ep] | exact fun _ => el), (by first | exact fun q => absurd (zx74.symm.trans q) (by decide) | exact fun _ => rfl | exact fun q => absurd zt74 (by rw [q]; decide) | exact fun q => absurd q (by rw [zx74]; decide) | exact fun _ => by rw [ea] | exact fun _ => by rw [ep] | exact fun _ => el), (by first | exact fun q => absurd (zx74.symm.trans q) (by decide) | exact fun _ => rfl | exact fun q => absurd zt74 (by rw [q]; decide) | exact fun q => absurd q (by rw [zx74]; decide) | exact fun _ => by rw [ea] | exact fun _ => by rw [ep] | exact fun _ => el), (by first | exact fun q => absurd (zx74.symm.trans q) (by decide) | exact fun _ => rfl | exact fun q => absurd zt74 (by rw [q]; decide) | exact fun q => absurd q (by rw [zx74]; decide) | exact fun _ => by rw [ea] | exact fun _ => by rw [ep] | exact fun _ => el), (by first | exact fun q => absurd (zx74.symm.trans q) (by decide) | exact fun _ => rfl | exact fun q => absurd zt74 (by rw [q]; decide) | exact fun q => absurd q (by rw [zx74]; decide) | exact fun _ => by rw [ea] | exact fun _ => by rw [ep] | exact fun _ => el)⟩, rfl⟩
          · refine xi_tableIn (tgt := 131) (off := 57) hC dX8_count_74 (by rw [zx74]; decide) (by rw [zx74]; decide) (by rw [zx74]; rfl) (by decide) ?_
            refine xi_iload hC dX8_count_131 (pc' := 133) rfl rfl ?_
            refine xi_ireturn hC dX8_count_133 hr rfl ?_
            exact ⟨_, rfl, ⟨(by first | exact fun q => absurd (zx74.symm.trans q) (by decide) | exact fun _ => rfl | exact fun q => absurd zt74 (by rw [q]; decide) | exact fun q => absurd q (by rw [zx74]; decide) | exact fun _ => by rw [ea] | exact fun _ => by rw [ep] | exact fun _ => el), (by first | exact fun q => absurd (zx74.symm.trans q) (by decide) | exact fun _ => rfl | exact fun q => absurd zt74 (by rw [q]; decide) | exact fun q => absurd q (by rw [zx74]; decide) | exact fun _ => by rw [ea] | exact fun _ => by rw [ep] | exact fun _ => el), (by first | exact fun q => absurd (zx74.symm.trans q) (by decide) | exact fun _ => rfl | exact fun q => absurd zt74 (by rw [q]; decide) | exact fun q => absurd q (by rw [zx74]; decide) | exact fun _ => by rw [ea] | exact fun _ => by rw [ep] | exact fun _ => el), (by first | exact fun q => absurd (zx74.symm.trans q) (by decide) | exact fun _ => rfl | exact fun q => absurd zt74 (by rw [q]; decide) | exact fun q => absurd q (by rw [zx74]; decide) | exact fun _ => by rw [ea] | exact fun _ => by rw [ep] | exact fun _ => el), (by first | exact fun q => absurd (zx74.symm.trans q) (by decide) | exact fun _ => rfl | exact fun q => absurd zt74 (by rw [q]; decide) | exact fun q => absurd q (by rw [zx74]; decide) | exact fun _ => by rw [ea] | exact fun _ => by rw [ep] | exact fun _ => el), (by first | exact fun q => absurd (zx74.symm.trans q) (by decide) | exact fun _ => rfl | exact fun q => absurd zt74 (by rw [q]; decide) | exact fun q => absurd q (by rw [zx74]; decide) | exact fun _ => by rw [ea] | exact fun _ => by rw [ep] | exact fun _ => el), (by first | exact fun q => absurd (zx74.symm.trans q) (by decide) | exact fun _ => rfl | exact fun q => absurd zt74 (by rw [q]; decide) | exact fun q => absurd q (by rw [zx74]; decide) | exact fun _ => by rw [ea] | exact fun _ => by rw [ep] | exact fun _ => el)⟩, rfl⟩
      · skip
        refine xi_iload_n hC dX8_count_19 (pc' := 20) rfl rfl rfl ?_
        refine xi_aload_n hC dX8_count_20 (pc' := 21) rfl rfl rfl ?_
        refine xg8_alarmOf hC dX8_count_21 (pc' := 24) rfl xw_f_X8_22 kd_oMod ?_
        refine xi_iload hC dX8_count_24 (pc' := 26) rfl rfl ?_
        refine xt_l_i hC dX8_count_26 (pc' := 27) rfl (N := 5) kd_m_alarmOf (by decide) (by decide) rfl (by omega) ?_
        refine xi_ifle (tgt := 34) hC dX8_count_27 (pc' := 30) rfl (by decide) (fun zc27 => ?_) (fun zc27 => ?_)
        · skip
          refine xi_iconst (v := nI 0) hC dX8_count_34 (pc' := 35) rfl (by decide +kernel) ?_
          refine xn_iadd hC dX8_count_35 (pc' := 36) rfl ?_
          refine xi_istore_n (lv' := [some (.ref (b + oMod)), some (.int x), some (.int (nI (ca + 0))), some (.int (nI cp)), some (.int le), some (.int (nI j))]) hC dX8_count_36 (pc' := 37) rfl rfl (by decide) rfl ?_
          refine xi_iload_n hC dX8_count_37 (pc' := 38) rfl rfl rfl ?_
          refine xi_aload_n hC dX8_count_38 (pc' := 39) rfl rfl rfl ?_
          refine xg8_hasProof hC dX8_count_39 (pc' := 42) rfl xw_f_X8_25 kd_oMod ?_
          refine xi_iload hC dX8_count_42 (pc' := 44) rfl rfl ?_
          refine xt_l_b hC dX8_count_44 (pc' := 45) rfl (N := 5) kd_m_hasProof (by decide) (by decide) rfl (by omega) ?_
          refine xi_ifeq (tgt := 52) hC dX8_count_45 (pc' := 48) rfl (by decide) (fun zc45 => ?_) (fun zc45 => ?_)
          · skip
            refine xi_iconst (v := nI 0) hC dX8_count_52 (pc' := 53) rfl (by decide +kernel) ?_
            refine xn_iadd hC dX8_count_53 (pc' := 54) rfl ?_
            refine xi_istore_n (lv' := [some (.ref (b + oMod)), some (.int x), some (.int (nI (ca + 0))), some (.int (nI (cp + 0))), some (.int le), some (.int (nI j))]) hC dX8_count_54 (pc' := 55) rfl rfl (by decide) rfl ?_
            refine xi_iload hC dX8_count_55 (pc' := 57) rfl rfl ?_
            refine xi_aload_n hC dX8_count_57 (pc' := 58) rfl rfl rfl ?_
            refine xg8_lettersOf hC dX8_count_58 (pc' := 61) rfl xw_f_X8_56 kd_oMod ?_
            refine xi_iload hC dX8_count_61 (pc' := 63) rfl rfl ?_
            refine xt_l_i hC dX8_count_63 (pc' := 64) rfl (N := 5) kd_m_lettersOf (by decide) (by decide) rfl (by omega) ?_
            refine xi_iadd hC dX8_count_64 (pc' := 65) rfl ?_
            refine xi_istore (lv' := [some (.ref (b + oMod)), some (.int x), some (.int (nI (ca + 0))), some (.int (nI (cp + 0))), some (.int (le + (S m_lettersOf j))), some (.int (nI j))]) hC dX8_count_65 (pc' := 67) rfl (by decide) rfl ?_
            refine xn_iinc (lv' := [some (.ref (b + oMod)), some (.int x), some (.int (nI (ca + 0))), some (.int (nI (cp + 0))), some (.int (le + (S m_lettersOf j))), some (.int (nI (j + 1)))]) hC dX8_count_67 (pc' := 70) rfl rfl (by decide) rfl ?_
            refine xi_goto (tgt := 10) hC dX8_count_70 (by decide) ?_
            refine ih10 _ _ _ _ (by omega) ?_ ?_ ?_ ?_
            · omega
            · first
                | (rw [xcnt_t (P := fun i => 0 < S m_alarmOf i) (i_not_le.mp zc27), ea])
                | (rw [xcnt_f (P := fun i => 0 < S m_alarmOf i) (fun q => i_not_lt.mpr zc27 q), ea, Nat.add_zero])
            · first
                | (rw [xcnt_t (P := fun i => S m_hasProof i ≠ 0) zc45, ep])
                | (rw [xcnt_f (P := fun i => S m_hasProof i ≠ 0) (fun q => q zc45), ep, Nat.add_zero])
            · rw [el]; rfl
          · skip
            refine xi_iconst (v := nI 1) hC dX8_count_48 (pc' := 49) rfl (by decide +kernel) ?_
            refine xi_goto (tgt := 53) hC dX8_count_49 (by decide) ?_
            refine xn_iadd hC dX8_count_53 (pc' := 54) rfl ?_
            refine xi_istore_n (lv' := [some (.ref (b + oMod)), some (.int x), some (.int (nI (ca + 0))), some (.int (nI (cp + 1))), some (.int le), some (.int (nI j))]) hC dX8_count_54 (pc' := 55) rfl rfl (by decide) rfl ?_
            refine xi_iload hC dX8_count_55 (pc' := 57) rfl rfl ?_
            refine xi_aload_n hC dX8_count_57 (pc' := 58) rfl rfl rfl ?_
            refine xg8_lettersOf hC dX8_count_58 (pc' := 61) rfl xw_f_X8_56 kd_oMod ?_
            refine xi_iload hC dX8_count_61 (pc' := 63) rfl rfl ?_
            refine xt_l_i hC dX8_count_63 (pc' := 64) rfl (N := 5) kd_m_lettersOf (by decide) (by decide) rfl (by omega) ?_
            refine xi_iadd hC dX8_count_64 (pc' := 65) rfl ?_
            refine xi_istore (lv' := [some (.ref (b + oMod)), some (.int x), some (.int (nI (ca + 0))), some (.int (nI (cp + 1))), some (.int (le + (S m_lettersOf j))), some (.int (nI j))]) hC dX8_count_65 (pc' := 67) rfl (by decide) rfl ?_
            refine xn_iinc (lv' := [some (.ref (b + oMod)), some (.int x), some (.int (nI (ca + 0))), some (.int (nI (cp + 1))), some (.int (le + (S m_lettersOf j))), some (.int (nI (j + 1)))]) hC dX8_count_67 (pc' := 70) rfl rfl (by decide) rfl ?_
            refine xi_goto (tgt := 10) hC dX8_count_70 (by decide) ?_
            refine ih10 _ _ _ _ (by omega) ?_ ?_ ?_ ?_
            · omega
            · first
                | (rw [xcnt_t (P := fun i => 0 < S m_alarmOf i) (i_not_le.mp zc27), ea])
                | (rw [xcnt_f (P := fun i => 0 < S m_alarmOf i) (fun q => i_not_lt.mpr zc27 q), ea, Nat.add_zero])
            · first
                | (rw [xcnt_t (P := fun i => S m_hasProof i ≠ 0) zc45, ep])
                | (rw [xcnt_f (P := fun i => S m_hasProof i ≠ 0) (fun q => q zc45), ep, Nat.add_zero])
            · rw [el]; rfl
        · skip
          refine xi_iconst (v := nI 1) hC dX8_count_30 (pc' := 31) rfl (by decide +kernel) ?_
          refine xi_goto (tgt := 35) hC dX8_count_31 (by decide) ?_
          refine xn_iadd hC dX8_count_35 (pc' := 36) rfl ?_
          refine xi_istore_n (lv' := [some (.ref (b + oMod)), some (.int x), some (.int (nI (ca + 1))), some (.int (nI cp)), some (.int le), some (.int (nI j))]) hC dX8_count_36 (pc' := 37) rfl rfl (by decide) rfl ?_
          refine xi_iload_n hC dX8_count_37 (pc' := 38) rfl rfl rfl ?_
          refine xi_aload_n hC dX8_count_38 (pc' := 39) rfl rfl rfl ?_
          refine xg8_hasProof hC dX8_count_39 (pc' := 42) rfl xw_f_X8_25 kd_oMod ?_
          refine xi_iload hC dX8_count_42 (pc' := 44) rfl rfl ?_
          refine xt_l_b hC dX8_count_44 (pc' := 45) rfl (N := 5) kd_m_hasProof (by decide) (by decide) rfl (by omega) ?_
          refine xi_ifeq (tgt := 52) hC dX8_count_45 (pc' := 48) rfl (by decide) (fun zc45 => ?_) (fun zc45 => ?_)
          · skip
            refine xi_iconst (v := nI 0) hC dX8_count_52 (pc' := 53) rfl (by decide +kernel) ?_
            refine xn_iadd hC dX8_count_53 (pc' := 54) rfl ?_
            refine xi_istore_n (lv' := [some (.ref (b + oMod)), some (.int x), some (.int (nI (ca + 1))), some (.int (nI (cp + 0))), some (.int le), some (.int (nI j))]) hC dX8_count_54 (pc' := 55) rfl rfl (by decide) rfl ?_
            refine xi_iload hC dX8_count_55 (pc' := 57) rfl rfl ?_
            refine xi_aload_n hC dX8_count_57 (pc' := 58) rfl rfl rfl ?_
            refine xg8_lettersOf hC dX8_count_58 (pc' := 61) rfl xw_f_X8_56 kd_oMod ?_
            refine xi_iload hC dX8_count_61 (pc' := 63) rfl rfl ?_
            refine xt_l_i hC dX8_count_63 (pc' := 64) rfl (N := 5) kd_m_lettersOf (by decide) (by decide) rfl (by omega) ?_
            refine xi_iadd hC dX8_count_64 (pc' := 65) rfl ?_
            refine xi_istore (lv' := [some (.ref (b + oMod)), some (.int x), some (.int (nI (ca + 1))), some (.int (nI (cp + 0))), some (.int (le + (S m_lettersOf j))), some (.int (nI j))]) hC dX8_count_65 (pc' := 67) rfl (by decide) rfl ?_
            refine xn_iinc (lv' := [some (.ref (b + oMod)), some (.int x), some (.int (nI (ca + 1))), some (.int (nI (cp + 0))), some (.int (le + (S m_lettersOf j))), some (.int (nI (j + 1)))]) hC dX8_count_67 (pc' := 70) rfl rfl (by decide) rfl ?_
            refine xi_goto (tgt := 10) hC dX8_count_70 (by decide) ?_
            refine ih10 _ _ _ _ (by omega) ?_ ?_ ?_ ?_
            · omega
            · first
                | (rw [xcnt_t (P := fun i => 0 < S m_alarmOf i) (i_not_le.mp zc27), ea])
                | (rw [xcnt_f (P := fun i => 0 < S m_alarmOf i) (fun q => i_not_lt.mpr zc27 q), ea, Nat.add_zero])
            · first
                | (rw [xcnt_t (P := fun i => S m_hasProof i ≠ 0) zc45, ep])
                | (rw [xcnt_f (P := fun i => S m_hasProof i ≠ 0) (fun q => q zc45), ep, Nat.add_zero])
            · rw [el]; rfl
          · skip
            refine xi_iconst (v := nI 1) hC dX8_count_48 (pc' := 49) rfl (by decide +kernel) ?_
            refine xi_goto (tgt := 53) hC dX8_count_49 (by decide) ?_
            refine xn_iadd hC dX8_count_53 (pc' := 54) rfl ?_
            refine xi_istore_n (lv' := [some (.ref (b + oMod)), some (.int x), some (.int (nI (ca + 1))), some (.int (nI (cp + 1))), some (.int le), some (.int (nI j))]) hC dX8_count_54 (pc' := 55) rfl rfl (by decide) rfl ?_
            refine xi_iload hC dX8_count_55 (pc' := 57) rfl rfl ?_
            refine xi_aload_n hC dX8_count_57 (pc' := 58) rfl rfl rfl ?_
            refine xg8_lettersOf hC dX8_count_58 (pc' := 61) rfl xw_f_X8_56 kd_oMod ?_
            refine xi_iload hC dX8_count_61 (pc' := 63) rfl rfl ?_
            refine xt_l_i hC dX8_count_63 (pc' := 64) rfl (N := 5) kd_m_lettersOf (by decide) (by decide) rfl (by omega) ?_
            refine xi_iadd hC dX8_count_64 (pc' := 65) rfl ?_
            refine xi_istore (lv' := [some (.ref (b + oMod)), some (.int x), some (.int (nI (ca + 1))), some (.int (nI (cp + 1))), some (.int (le + (S m_lettersOf j))), some (.int (nI j))]) hC dX8_count_65 (pc' := 67) rfl (by decide) rfl ?_
            refine xn_iinc (lv' := [some (.ref (b + oMod)), some (.int x), some (.int (nI (ca + 1))), some (.int (nI (cp + 1))), some (.int (le + (S m_lettersOf j))), some (.int (nI (j + 1)))]) hC dX8_count_67 (pc' := 70) rfl rfl (by decide) rfl ?_
            refine xi_goto (tgt := 10) hC dX8_count_70 (by decide) ?_
            refine ih10 _ _ _ _ (by omega) ?_ ?_ ?_ ?_
            · omega
            · first
                | (rw [xcnt_t (P := fun i => 0 < S m_alarmOf i) (i_not_le.mp zc27), ea])
                | (rw [xcnt_f (P := fun i => 0 < S m_alarmOf i) (fun q => i_not_lt.mpr zc27 q), ea, Nat.add_zero])
            · first
                | (rw [xcnt_t (P := fun i => S m_hasProof i ≠ 0) zc45, ep])
                | (rw [xcnt_f (P := fun i => S m_hasProof i ≠ 0) (fun q => q zc45), ep, Nat.add_zero])
            · rw [el]; rfl
  refine L10 _ _ _ _ _ (Nat.lt_succ_self _) ?_ ?_ ?_ ?_
  · omega
  · rfl
  · rfl
  · exact nI_0

set_option maxRecDepth 100000 in
set_option maxHeartbeats 4000000 in
theorem c_X8_user (l : Launch) (D : XD) (b n : Nat) {C S : XM} {u w : Nat} (hW : MW S u w) {x y : Int32} : xM l yX8_user cX8_user 3 (some .int) 2 43 0 0 D b n [.ref (b + oMod), .int x, .int y] (xH D b (jn C S)) n (fun y' h' => ∃ r : Int32, y' = some (.int r) ∧ s_user S u x y r ∧ h' = xH D b (jn C S)) := by
  refine xM.of (lv := [some (.ref (b + oMod)), some (.int x), some (.int y)]) (by decide +kernel) rfl (List.forall_mem_cons.mpr ⟨rfl, List.forall_mem_cons.mpr ⟨rfl, List.forall_mem_cons.mpr ⟨rfl, fun _ h => absurd h List.not_mem_nil⟩⟩⟩) (Nat.le_of_ble_eq_true rfl) rfl ?_
  intro p e s m args below meth c hC hr hnm
  obtain ⟨hU, hN, hVw, hKp, hLt, hTx, hAl⟩ := id hW
  obtain ⟨hu, hu2, hu5⟩ := id hU
  obtain ⟨hn, hw1, hw6⟩ := id hN
  refine xi_aload_n hC dX8_user_0 (pc' := 1) rfl rfl rfl ?_
  refine xi_iload_n hC dX8_user_1 (pc' := 2) rfl rfl rfl ?_
  refine xi_callV (As := [.int x]) (rest := []) (c_X8_noUser l D b n (C := C) (S := S) (x := x) hU) hC dX8_user_2 (pc' := 5) rfl xw_m_X8_126 xw_c_X8_noUser xw_ins_X8_noUser xw_sel_X8_noUser xw_ini_X8 xd_X8_noUser (xH_at.trans (xsh_8 kd_oMod)) rfl ⟨Nat.le_of_ble_eq_true rfl, Nat.le_of_ble_eq_true rfl⟩ rfl (Nat.le_of_ble_eq_true rfl) ⟨Nat.le_of_ble_eq_true rfl, Nat.le_of_ble_eq_true rfl⟩ ?_
  rintro _ _ ⟨rfl, rfl⟩
  show xV _ _ _ _ _ _ _ _ _ _ _ _ _ _ _ _ _ (xH D b (jn C S)) _ _ [.int (bI (¬ isU u x))]
  refine xb_ifeq (tgt := 12) hC dX8_user_5 (pc' := 8) rfl (by decide) (fun zc5 => ?_) (fun zc5 => ?_)
  · skip
    obtain ⟨i, hi, rfl⟩ := Classical.not_not.mp zc5
    refine xi_iload_n hC dX8_user_12 (pc' := 13) rfl rfl rfl ?_
    by_cases zt13 : y.toInt < 0 ∨ 7 < y.toInt
    · refine xi_tableOut (tgt := 139) hC dX8_user_13 zt13 (by decide) ?_
      refine xi_sipush (v := -10002) hC dX8_user_139 (pc' := 142) rfl (by decide +kernel) ?_
      refine xi_ireturn hC dX8_user_142 hr rfl ?_
      refine ⟨_, rfl, ⟨fun q => absurd ⟨i, hi, rfl⟩ q, fun i' hi' e1 => ?_⟩, rfl⟩
      obtain rfl := nI_inj (by omega) (by omega) e1
      exact ⟨(by first | exact fun q => absurd (zx13.symm.trans q) (by decide) | exact fun _ => rfl | exact fun q => absurd zt13 (by rw [q]; decide) | exact fun q => absurd q (by rw [zx13]; decide) | exact fun _ => ⟨fun q => absurd q zc80, fun _ => rfl⟩ | exact fun _ => ⟨fun _ => rfl, fun q => absurd zc80 q⟩ | exact fun _ => ⟨fun q => absurd q zc123, fun _ => rfl⟩ | exact fun _ => ⟨fun _ => rfl, fun q => absurd zc123 q⟩), (by first | exact fun q => absurd (zx13.symm.trans q) (by decide) | exact fun _ => rfl | exact fun q => absurd zt13 (by rw [q]; decide) | exact fun q => absurd q (by rw [zx13]; decide) | exact fun _ => ⟨fun q => absurd q zc80, fun _ => rfl⟩ | exact fun _ => ⟨fun _ => rfl, fun q => absurd zc80 q⟩ | exact fun _ => ⟨fun q => absurd q zc123, fun _ => rfl⟩ | exact fun _ => ⟨fun _ => rfl, fun q => absurd zc123 q⟩), (by first | exact fun q => absurd (zx13.symm.trans q) (by decide) | exact fun _ => rfl | exact fun q => absurd zt13 (by rw [q]; decide) | exact fun q => absurd q (by rw [zx13]; decide) | exact fun _ => ⟨fun q => absurd q zc80, fun _ => rfl⟩ | exact fun _ => ⟨fun _ => rfl, fun q => absurd zc80 q⟩ | exact fun _ => ⟨fun q => absurd q zc123, fun _ => rfl⟩ | exact fun _ => ⟨fun _ => rfl, fun q => absurd zc123 q⟩), (by first | exact fun q => absurd (zx13.symm.trans q) (by decide) | exact fun _ => rfl | exact fun q => absurd zt13 (by rw [q]; decide) | exact fun q => absurd q (by rw [zx13]; decide) | exact fun _ => ⟨fun q => absurd q zc80, fun _ => rfl⟩ | exact fun _ => ⟨fun _ => rfl, fun q => absurd zc80 q⟩ | exact fun _ => ⟨fun q => absurd q zc123, fun _ => rfl⟩ | exact fun _ => ⟨fun _ => rfl, fun q => absurd zc123 q⟩), (by first | exact fun q => absurd (zx13.symm.trans q) (by decide) | exact fun _ => rfl | exact fun q => absurd zt13 (by rw [q]; decide) | exact fun q => absurd q (by rw [zx13]; decide) | exact fun _ => ⟨fun q => absurd q zc80, fun _ => rfl⟩ | exact fun _ => ⟨fun _ => rfl, fun q => absurd zc80 q⟩ | exact fun _ => ⟨fun q => absurd q zc123, fun _ => rfl⟩ | exact fun _ => ⟨fun _ => rfl, fun q => absurd zc123 q⟩), (by first | exact fun q => absurd (zx13.symm.trans q) (by decide) | exact fun _ => rfl | exact fun q => absurd zt13 (by rw [q]; decide) | exact fun q => absurd q (by rw [zx13]; decide) | exact fun _ => ⟨fun q => absurd q zc80, fun _ => rfl⟩ | exact fun _ => ⟨fun _ => rfl, fun q => absurd zc80 q⟩ | exact fun _ => ⟨fun q => absurd q zc123, fun _ => rfl⟩ | exact fun _ => ⟨fun _ => rfl, fun q => absurd zc123 q⟩), (by first | exact fun q => absurd (zx13.symm.trans q) (by decide) | exact fun _ => rfl | exact fun q => absurd zt13 (by rw [q]; decide) | exact fun q => absurd q (by rw [zx13]; decide) | exact fun _ => ⟨fun q => absurd q zc80, fun _ => rfl⟩ | exact fun _ => ⟨fun _ => rfl, fun q => absurd zc80 q⟩ | exact fun _ => ⟨fun q => absurd q zc123, fun _ => rfl⟩ | exact fun _ => ⟨fun _ => rfl, fun q => absurd zc123 q⟩), (by first | exact fun q => absurd (zx13.symm.trans q) (by decide) | exact fun _ => rfl | exact fun q => absurd zt13 (by rw [q]; decide) | exact fun q => absurd q (by rw [zx13]; decide) | exact fun _ => ⟨fun q => absurd q zc80, fun _ => rfl⟩ | exact fun _ => ⟨fun _ => rfl, fun q => absurd zc80 q⟩ | exact fun _ => ⟨fun q => absurd q zc123, fun _ => rfl⟩ | exact fun _ => ⟨fun _ => rfl, fun q => absurd zc123 q⟩), (by first | exact fun q => absurd (zx13.symm.trans q) (by decide) | exact fun _ => rfl | exact fun q => absurd zt13 (by rw [q]; decide) | exact fun q => absurd q (by rw [zx13]; decide) | exact fun _ => ⟨fun q => absurd q zc80, fun _ => rfl⟩ | exact fun _ => ⟨fun _ => rfl, fun q => absurd zc80 q⟩ | exact fun _ => ⟨fun q => absurd q zc123, fun _ => rfl⟩ | exact fun _ => ⟨fun _ => rfl, fun q => absurd zc123 q⟩)⟩
    · rcases xtab_0_7 zt13 with zx13 | zx13 | zx13 | zx13 | zx13 | zx13 | zx13 | zx13
      · refine xi_tableIn (tgt := 60) (off := 47) hC dX8_user_13 (by rw [zx13]; decide) (by rw [zx13]; decide) (by rw [zx13]; rfl) (by decide) ?_
        refine xi_aload_n hC dX8_user_60 (pc' := 61) rfl rfl rfl ?_
        refine xg8_viewOf hC dX8_user_61 (pc' := 64) rfl xw_f_X8_19 kd_oMod ?_
        refine xi_iload_n hC dX8_user_64 (pc' := 65) rfl rfl rfl ?_
        refine xt_l_i hC dX8_user_65 (pc' := 66) rfl (N := 5) kd_m_viewOf (by decide) (by decide) rfl (by omega) ?_
        refine xi_ireturn hC dX8_user_66 hr rfl ?_
        refine ⟨_, rfl, ⟨fun q => absurd ⟨i, hi, rfl⟩ q, fun i' hi' e1 => ?_⟩, rfl⟩
        obtain rfl := nI_inj (by omega) (by omega) e1
        exact ⟨(by first | exact fun q => absurd (zx13.symm.trans q) (by decide) | exact fun _ => rfl | exact fun q => absurd zt13 (by rw [q]; decide) | exact fun q => absurd q (by rw [zx13]; decide) | exact fun _ => ⟨fun q => absurd q zc80, fun _ => rfl⟩ | exact fun _ => ⟨fun _ => rfl, fun q => absurd zc80 q⟩ | exact fun _ => ⟨fun q => absurd q zc123, fun _ => rfl⟩ | exact fun _ => ⟨fun _ => rfl, fun q => absurd zc123 q⟩), (by first | exact fun q => absurd (zx13.symm.trans q) (by decide) | exact fun _ => rfl | exact fun q => absurd zt13 (by rw [q]; decide) | exact fun q => absurd q (by rw [zx13]; decide) | exact fun _ => ⟨fun q => absurd q zc80, fun _ => rfl⟩ | exact fun _ => ⟨fun _ => rfl, fun q => absurd zc80 q⟩ | exact fun _ => ⟨fun q => absurd q zc123, fun _ => rfl⟩ | exact fun _ => ⟨fun _ => rfl, fun q => absurd zc123 q⟩), (by first | exact fun q => absurd (zx13.symm.trans q) (by decide) | exact fun _ => rfl | exact fun q => absurd zt13 (by rw [q]; decide) | exact fun q => absurd q (by rw [zx13]; decide) | exact fun _ => ⟨fun q => absurd q zc80, fun _ => rfl⟩ | exact fun _ => ⟨fun _ => rfl, fun q => absurd zc80 q⟩ | exact fun _ => ⟨fun q => absurd q zc123, fun _ => rfl⟩ | exact fun _ => ⟨fun _ => rfl, fun q => absurd zc123 q⟩), (by first | exact fun q => absurd (zx13.symm.trans q) (by decide) | exact fun _ => rfl | exact fun q => absurd zt13 (by rw [q]; decide) | exact fun q => absurd q (by rw [zx13]; decide) | exact fun _ => ⟨fun q => absurd q zc80, fun _ => rfl⟩ | exact fun _ => ⟨fun _ => rfl, fun q => absurd zc80 q⟩ | exact fun _ => ⟨fun q => absurd q zc123, fun _ => rfl⟩ | exact fun _ => ⟨fun _ => rfl, fun q => absurd zc123 q⟩), (by first | exact fun q => absurd (zx13.symm.trans q) (by decide) | exact fun _ => rfl | exact fun q => absurd zt13 (by rw [q]; decide) | exact fun q => absurd q (by rw [zx13]; decide) | exact fun _ => ⟨fun q => absurd q zc80, fun _ => rfl⟩ | exact fun _ => ⟨fun _ => rfl, fun q => absurd zc80 q⟩ | exact fun _ => ⟨fun q => absurd q zc123, fun _ => rfl⟩ | exact fun _ => ⟨fun _ => rfl, fun q => absurd zc123 q⟩), (by first | exact fun q => absurd (zx13.symm.trans q) (by decide) | exact fun _ => rfl | exact fun q => absurd zt13 (by rw [q]; decide) | exact fun q => absurd q (by rw [zx13]; decide) | exact fun _ => ⟨fun q => absurd q zc80, fun _ => rfl⟩ | exact fun _ => ⟨fun _ => rfl, fun q => absurd zc80 q⟩ | exact fun _ => ⟨fun q => absurd q zc123, fun _ => rfl⟩ | exact fun _ => ⟨fun _ => rfl, fun q => absurd zc123 q⟩), (by first | exact fun q => absurd (zx13.symm.trans q) (by decide) | exact fun _ => rfl | exact fun q => absurd zt13 (by rw [q]; decide) | exact fun q => absurd q (by rw [zx13]; decide) | exact fun _ => ⟨fun q => absurd q zc80, fun _ => rfl⟩ | exact fun _ => ⟨fun _ => rfl, fun q => absurd zc80 q⟩ | exact fun _ => ⟨fun q => absurd q zc123, fun _ => rfl⟩ | exact fun _ => ⟨fun _ => rfl, fun q => absurd zc123 q⟩), (by first | exact fun q => absurd (zx13.symm.trans q) (by decide) | exact fun _ => rfl | exact fun q => absurd zt13 (by rw [q]; decide) | exact fun q => absurd q (by rw [zx13]; decide) | exact fun _ => ⟨fun q => absurd q zc80, fun _ => rfl⟩ | exact fun _ => ⟨fun _ => rfl, fun q => absurd zc80 q⟩ | exact fun _ => ⟨fun q => absurd q zc123, fun _ => rfl⟩ | exact fun _ => ⟨fun _ => rfl, fun q => absurd zc123 q⟩), (by first | exact fun q => absurd (zx13.symm.trans q) (by decide) | exact fun _ => rfl | exact fun q => absurd zt13 (by rw [q]; decide) | exact fun q => absurd q (by rw [zx13]; decide) | exact fun _ => ⟨fun q => absurd q zc80, fun _ => rfl⟩ | exact fun _ => ⟨fun _ => rfl, fun q => absurd zc80 q⟩ | exact fun _ => ⟨fun q => absurd q zc123, fun _ => rfl⟩ | exact fun _ => ⟨fun _ => rfl, fun q => absurd zc123 q⟩)⟩
      · refine xi_tableIn (tgt := 67) (off := 54) hC dX8_user_13 (by rw [zx13]; decide) (by rw [zx13]; decide) (by rw [zx13]; rfl) (by decide) ?_
        refine xi_aload_n hC dX8_user_67 (pc' := 68) rfl rfl rfl ?_
        refine xg8_alarmOf hC dX8_user_68 (pc' := 71) rfl xw_f_X8_22 kd_oMod ?_
        refine xi_iload_n hC dX8_user_71 (pc' := 72) rfl rfl rfl ?_
        refine xt_l_i hC dX8_user_72 (pc' := 73) rfl (N := 5) kd_m_alarmOf (by decide) (by decide) rfl (by omega) ?_
        refine xi_ireturn hC dX8_user_73 hr rfl ?_
        refine ⟨_, rfl, ⟨fun q => absurd ⟨i, hi, rfl⟩ q, fun i' hi' e1 => ?_⟩, rfl⟩
        obtain rfl := nI_inj (by omega) (by omega) e1
        exact ⟨(by first | exact fun q => absurd (zx13.symm.trans q) (by decide) | exact fun _ => rfl | exact fun q => absurd zt13 (by rw [q]; decide) | exact fun q => absurd q (by rw [zx13]; decide) | exact fun _ => ⟨fun q => absurd q zc80, fun _ => rfl⟩ | exact fun _ => ⟨fun _ => rfl, fun q => absurd zc80 q⟩ | exact fun _ => ⟨fun q => absurd q zc123, fun _ => rfl⟩ | exact fun _ => ⟨fun _ => rfl, fun q => absurd zc123 q⟩), (by first | exact fun q => absurd (zx13.symm.trans q) (by decide) | exact fun _ => rfl | exact fun q => absurd zt13 (by rw [q]; decide) | exact fun q => absurd q (by rw [zx13]; decide) | exact fun _ => ⟨fun q => absurd q zc80, fun _ => rfl⟩ | exact fun _ => ⟨fun _ => rfl, fun q => absurd zc80 q⟩ | exact fun _ => ⟨fun q => absurd q zc123, fun _ => rfl⟩ | exact fun _ => ⟨fun _ => rfl, fun q => absurd zc123 q⟩), (by first | exact fun q => absurd (zx13.symm.trans q) (by decide) | exact fun _ => rfl | exact fun q => absurd zt13 (by rw [q]; decide) | exact fun q => absurd q (by rw [zx13]; decide) | exact fun _ => ⟨fun q => absurd q zc80, fun _ => rfl⟩ | exact fun _ => ⟨fun _ => rfl, fun q => absurd zc80 q⟩ | exact fun _ => ⟨fun q => absurd q zc123, fun _ => rfl⟩ | exact fun _ => ⟨fun _ => rfl, fun q => absurd zc123 q⟩), (by first | exact fun q => absurd (zx13.symm.trans q) (by decide) | exact fun _ => rfl | exact fun q => absurd zt13 (by rw [q]; decide) | exact fun q => absurd q (by rw [zx13]; decide) | exact fun _ => ⟨fun q => absurd q zc80, fun _ => rfl⟩ | exact fun _ => ⟨fun _ => rfl, fun q => absurd zc80 q⟩ | exact fun _ => ⟨fun q => absurd q zc123, fun _ => rfl⟩ | exact fun _ => ⟨fun _ => rfl, fun q => absurd zc123 q⟩), (by first | exact fun q => absurd (zx13.symm.trans q) (by decide) | exact fun _ => rfl | exact fun q => absurd zt13 (by rw [q]; decide) | exact fun q => absurd q (by rw [zx13]; decide) | exact fun _ => ⟨fun q => absurd q zc80, fun _ => rfl⟩ | exact fun _ => ⟨fun _ => rfl, fun q => absurd zc80 q⟩ | exact fun _ => ⟨fun q => absurd q zc123, fun _ => rfl⟩ | exact fun _ => ⟨fun _ => rfl, fun q => absurd zc123 q⟩), (by first | exact fun q => absurd (zx13.symm.trans q) (by decide) | exact fun _ => rfl | exact fun q => absurd zt13 (by rw [q]; decide) | exact fun q => absurd q (by rw [zx13]; decide) | exact fun _ => ⟨fun q => absurd q zc80, fun _ => rfl⟩ | exact fun _ => ⟨fun _ => rfl, fun q => absurd zc80 q⟩ | exact fun _ => ⟨fun q => absurd q zc123, fun _ => rfl⟩ | exact fun _ => ⟨fun _ => rfl, fun q => absurd zc123 q⟩), (by first | exact fun q => absurd (zx13.symm.trans q) (by decide) | exact fun _ => rfl | exact fun q => absurd zt13 (by rw [q]; decide) | exact fun q => absurd q (by rw [zx13]; decide) | exact fun _ => ⟨fun q => absurd q zc80, fun _ => rfl⟩ | exact fun _ => ⟨fun _ => rfl, fun q => absurd zc80 q⟩ | exact fun _ => ⟨fun q => absurd q zc123, fun _ => rfl⟩ | exact fun _ => ⟨fun _ => rfl, fun q => absurd zc123 q⟩), (by first | exact fun q => absurd (zx13.symm.trans q) (by decide) | exact fun _ => rfl | exact fun q => absurd zt13 (by rw [q]; decide) | exact fun q => absurd q (by rw [zx13]; decide) | exact fun _ => ⟨fun q => absurd q zc80, fun _ => rfl⟩ | exact fun _ => ⟨fun _ => rfl, fun q => absurd zc80 q⟩ | exact fun _ => ⟨fun q => absurd q zc123, fun _ => rfl⟩ | exact fun _ => ⟨fun _ => rfl, fun q => absurd zc123 q⟩), (by first | exact fun q => absurd (zx13.symm.trans q) (by decide) | exact fun _ => rfl | exact fun q => absurd zt13 (by rw [q]; decide) | exact fun q => absurd q (by rw [zx13]; decide) | exact fun _ => ⟨fun q => absurd q zc80, fun _ => rfl⟩ | exact fun _ => ⟨fun _ => rfl, fun q => absurd zc80 q⟩ | exact fun _ => ⟨fun q => absurd q zc123, fun _ => rfl⟩ | exact fun _ => ⟨fun _ => rfl, fun q => absurd zc123 q⟩)⟩
      · refine xi_tableIn (tgt := 74) (off := 61) hC dX8_user_13 (by rw [zx13]; decide) (by rw [zx13]; decide) (by rw [zx13]; rfl) (by decide) ?_
        refine xi_aload_n hC dX8_user_74 (pc' := 75) rfl rfl rfl ?_
        refine xg8_hasProof hC dX8_user_75 (pc' := 78) rfl xw_f_X8_25 kd_oMod ?_
        refine xi_iload_n hC dX8_user_78 (pc' := 79) rfl rfl rfl ?_
        refine xt_l_b hC dX8_user_79 (pc' := 80) rfl (N := 5) kd_m_hasProof (by decide) (by decide) rfl (by omega) ?_
        refine xi_ifeq (tgt := 87) hC dX8_user_80 (pc' := 83) rfl (by decide) (fun zc80 => ?_) (fun zc80 => ?_)
        · skip
          refine xi_iconst (v := nI 0) hC dX8_user_87 (pc' := 88) rfl (by decide +kernel) ?_
          refine xi_ireturn hC dX8_user_88 hr rfl ?_
          refine ⟨_, rfl, ⟨fun q => absurd ⟨i, hi, rfl⟩ q, fun i' hi' e1 => ?_⟩, rfl⟩
          obtain rfl := nI_inj (by omega) (by omega) e1
          exact ⟨(by first | exact fun q => absurd (zx13.symm.trans q) (by decide) | exact fun _ => rfl | exact fun q => absurd zt13 (by rw [q]; decide) | exact fun q => absurd q (by rw [zx13]; decide) | exact fun _ => ⟨fun q => absurd q zc80, fun _ => rfl⟩ | exact fun _ => ⟨fun _ => rfl, fun q => absurd zc80 q⟩ | exact fun _ => ⟨fun q => absurd q zc123, fun _ => rfl⟩ | exact fun _ => ⟨fun _ => rfl, fun q => absurd zc123 q⟩), (by first | exact fun q => absurd (zx13.symm.trans q) (by decide) | exact fun _ => rfl | exact fun q => absurd zt13 (by rw [q]; decide) | exact fun q => absurd q (by rw [zx13]; decide) | exact fun _ => ⟨fun q => absurd q zc80, fun _ => rfl⟩ | exact fun _ => ⟨fun _ => rfl, fun q => absurd zc80 q⟩ | exact fun _ => ⟨fun q => absurd q zc123, fun _ => rfl⟩ | exact fun _ => ⟨fun _ => rfl, fun q => absurd zc123 q⟩), (by first | exact fun q => absurd (zx13.symm.trans q) (by decide) | exact fun _ => rfl | exact fun q => absurd zt13 (by rw [q]; decide) | exact fun q => absurd q (by rw [zx13]; decide) | exact fun _ => ⟨fun q => absurd q zc80, fun _ => rfl⟩ | exact fun _ => ⟨fun _ => rfl, fun q => absurd zc80 q⟩ | exact fun _ => ⟨fun q => absurd q zc123, fun _ => rfl⟩ | exact fun _ => ⟨fun _ => rfl, fun q => absurd zc123 q⟩), (by first | exact fun q => absurd (zx13.symm.trans q) (by decide) | exact fun _ => rfl | exact fun q => absurd zt13 (by rw [q]; decide) | exact fun q => absurd q (by rw [zx13]; decide) | exact fun _ => ⟨fun q => absurd q zc80, fun _ => rfl⟩ | exact fun _ => ⟨fun _ => rfl, fun q => absurd zc80 q⟩ | exact fun _ => ⟨fun q => absurd q zc123, fun _ => rfl⟩ | exact fun _ => ⟨fun _ => rfl, fun q => absurd zc123 q⟩), (by first | exact fun q => absurd (zx13.symm.trans q) (by decide) | exact fun _ => rfl | exact fun q => absurd zt13 (by rw [q]; decide) | exact fun q => absurd q (by rw [zx13]; decide) | exact fun _ => ⟨fun q => absurd q zc80, fun _ => rfl⟩ | exact fun _ => ⟨fun _ => rfl, fun q => absurd zc80 q⟩ | exact fun _ => ⟨fun q => absurd q zc123, fun _ => rfl⟩ | exact fun _ => ⟨fun _ => rfl, fun q => absurd zc123 q⟩), (by first | exact fun q => absurd (zx13.symm.trans q) (by decide) | exact fun _ => rfl | exact fun q => absurd zt13 (by rw [q]; decide) | exact fun q => absurd q (by rw [zx13]; decide) | exact fun _ => ⟨fun q => absurd q zc80, fun _ => rfl⟩ | exact fun _ => ⟨fun _ => rfl, fun q => absurd zc80 q⟩ | exact fun _ => ⟨fun q => absurd q zc123, fun _ => rfl⟩ | exact fun _ => ⟨fun _ => rfl, fun q => absurd zc123 q⟩), (by first | exact fun q => absurd (zx13.symm.trans q) (by decide) | exact fun _ => rfl | exact fun q => absurd zt13 (by rw [q]; decide) | exact fun q => absurd q (by rw [zx13]; decide) | exact fun _ => ⟨fun q => absurd q zc80, fun _ => rfl⟩ | exact fun _ => ⟨fun _ => rfl, fun q => absurd zc80 q⟩ | exact fun _ => ⟨fun q => absurd q zc123, fun _ => rfl⟩ | exact fun _ => ⟨fun _ => rfl, fun q => absurd zc123 q⟩), (by first | exact fun q => absurd (zx13.symm.trans q) (by decide) | exact fun _ => rfl | exact fun q => absurd zt13 (by rw [q]; decide) | exact fun q => absurd q (by rw [zx13]; decide) | exact fun _ => ⟨fun q => absurd q zc80, fun _ => rfl⟩ | exact fun _ => ⟨fun _ => rfl, fun q => absurd zc80 q⟩ | exact fun _ => ⟨fun q => absurd q zc123, fun _ => rfl⟩ | exact fun _ => ⟨fun _ => rfl, fun q => absurd zc123 q⟩), (by first | exact fun q => absurd (zx13.symm.trans q) (by decide) | exact fun _ => rfl | exact fun q => absurd zt13 (by rw [q]; decide) | exact fun q => absurd q (by rw [zx13]; decide) | exact fun _ => ⟨fun q => absurd q zc80, fun _ => rfl⟩ | exact fun _ => ⟨fun _ => rfl, fun q => absurd zc80 q⟩ | exact fun _ => ⟨fun q => absurd q zc123, fun _ => rfl⟩ | exact fun _ => ⟨fun _ => rfl, fun q => absurd zc123 q⟩)⟩
        · skip
          refine xi_iconst (v := nI 1) hC dX8_user_83 (pc' := 84) rfl (by decide +kernel) ?_
          refine xi_goto (tgt := 88) hC dX8_user_84 (by decide) ?_
          refine xi_ireturn hC dX8_user_88 hr rfl ?_
          refine ⟨_, rfl, ⟨fun q => absurd ⟨i, hi, rfl⟩ q, fun i' hi' e1 => ?_⟩, rfl⟩
          obtain rfl := nI_inj (by omega) (by omega) e1
          exact ⟨(by first | exact fun q => absurd (zx13.symm.trans q) (by decide) | exact fun _ => rfl | exact fun q => absurd zt13 (by rw [q]; decide) | exact fun q => absurd q (by rw [zx13]; decide) | exact fun _ => ⟨fun q => absurd q zc80, fun _ => rfl⟩ | exact fun _ => ⟨fun _ => rfl, fun q => absurd zc80 q⟩ | exact fun _ => ⟨fun q => absurd q zc123, fun _ => rfl⟩ | exact fun _ => ⟨fun _ => rfl, fun q => absurd zc123 q⟩), (by first | exact fun q => absurd (zx13.symm.trans q) (by decide) | exact fun _ => rfl | exact fun q => absurd zt13 (by rw [q]; decide) | exact fun q => absurd q (by rw [zx13]; decide) | exact fun _ => ⟨fun q => absurd q zc80, fun _ => rfl⟩ | exact fun _ => ⟨fun _ => rfl, fun q => absurd zc80 q⟩ | exact fun _ => ⟨fun q => absurd q zc123, fun _ => rfl⟩ | exact fun _ => ⟨fun _ => rfl, fun q => absurd zc123 q⟩), (by first | exact fun q => absurd (zx13.symm.trans q) (by decide) | exact fun _ => rfl | exact fun q => absurd zt13 (by rw [q]; decide) | exact fun q => absurd q (by rw [zx13]; decide) | exact fun _ => ⟨fun q => absurd q zc80, fun _ => rfl⟩ | exact fun _ => ⟨fun _ => rfl, fun q => absurd zc80 q⟩ | exact fun _ => ⟨fun q => absurd q zc123, fun _ => rfl⟩ | exact fun _ => ⟨fun _ => rfl, fun q => absurd zc123 q⟩), (by first | exact fun q => absurd (zx13.symm.trans q) (by decide) | exact fun _ => rfl | exact fun q => absurd zt13 (by rw [q]; decide) | exact fun q => absurd q (by rw [zx13]; decide) | exact fun _ => ⟨fun q => absurd q zc80, fun _ => rfl⟩ | exact fun _ => ⟨fun _ => rfl, fun q => absurd zc80 q⟩ | exact fun _ => ⟨fun q => absurd q zc123, fun _ => rfl⟩ | exact fun _ => ⟨fun _ => rfl, fun q => absurd zc123 q⟩), (by first | exact fun q => absurd (zx13.symm.trans q) (by decide) | exact fun _ => rfl | exact fun q => absurd zt13 (by rw [q]; decide) | exact fun q => absurd q (by rw [zx13]; decide) | exact fun _ => ⟨fun q => absurd q zc80, fun _ => rfl⟩ | exact fun _ => ⟨fun _ => rfl, fun q => absurd zc80 q⟩ | exact fun _ => ⟨fun q => absurd q zc123, fun _ => rfl⟩ | exact fun _ => ⟨fun _ => rfl, fun q => absurd zc123 q⟩), (by first | exact fun q => absurd (zx13.symm.trans q) (by decide) | exact fun _ => rfl | exact fun q => absurd zt13 (by rw [q]; decide) | exact fun q => absurd q (by rw [zx13]; decide) | exact fun _ => ⟨fun q => absurd q zc80, fun _ => rfl⟩ | exact fun _ => ⟨fun _ => rfl, fun q => absurd zc80 q⟩ | exact fun _ => ⟨fun q => absurd q zc123, fun _ => rfl⟩ | exact fun _ => ⟨fun _ => rfl, fun q => absurd zc123 q⟩), (by first | exact fun q => absurd (zx13.symm.trans q) (by decide) | exact fun _ => rfl | exact fun q => absurd zt13 (by rw [q]; decide) | exact fun q => absurd q (by rw [zx13]; decide) | exact fun _ => ⟨fun q => absurd q zc80, fun _ => rfl⟩ | exact fun _ => ⟨fun _ => rfl, fun q => absurd zc80 q⟩ | exact fun _ => ⟨fun q => absurd q zc123, fun _ => rfl⟩ | exact fun _ => ⟨fun _ => rfl, fun q => absurd zc123 q⟩), (by first | exact fun q => absurd (zx13.symm.trans q) (by decide) | exact fun _ => rfl | exact fun q => absurd zt13 (by rw [q]; decide) | exact fun q => absurd q (by rw [zx13]; decide) | exact fun _ => ⟨fun q => absurd q zc80, fun _ => rfl⟩ | exact fun _ => ⟨fun _ => rfl, fun q => absurd zc80 q⟩ | exact fun _ => ⟨fun q => absurd q zc123, fun _ => rfl⟩ | exact fun _ => ⟨fun _ => rfl, fun q => absurd zc123 q⟩), (by first | exact fun q => absurd (zx13.symm.trans q) (by decide) | exact fun _ => rfl | exact fun q => absurd zt13 (by rw [q]; decide) | exact fun q => absurd q (by rw [zx13]; decide) | exact fun _ => ⟨fun q => absurd q zc80, fun _ => rfl⟩ | exact fun _ => ⟨fun _ => rfl, fun q => absurd zc80 q⟩ | exact fun _ => ⟨fun q => absurd q zc123, fun _ => rfl⟩ | exact fun _ => ⟨fun _ => rfl, fun q => absurd zc123 q⟩)⟩
      · refine xi_tableIn (tgt := 89) (off := 76) hC dX8_user_13 (by rw [zx13]; decide) (by rw [zx13]; decide) (by rw [zx13]; rfl) (by decide) ?_
        refine xi_aload_n hC dX8_user_89 (pc' := 90) rfl rfl rfl ?_
        refine xg8_lettersOf hC dX8_user_90 (pc' := 93) rfl xw_f_X8_56 kd_oMod ?_
        refine xi_iload_n hC dX8_user_93 (pc' := 94) rfl rfl rfl ?_
        refine xt_l_i hC dX8_user_94 (pc' := 95) rfl (N := 5) kd_m_lettersOf (by decide) (by decide) rfl (by omega) ?_
        refine xi_ireturn hC dX8_user_95 hr rfl ?_
        refine ⟨_, rfl, ⟨fun q => absurd ⟨i, hi, rfl⟩ q, fun i' hi' e1 => ?_⟩, rfl⟩
        obtain rfl := nI_inj (by omega) (by omega) e1
        exact ⟨(by first | exact fun q => absurd (zx13.symm.trans q) (by decide) | exact fun _ => rfl | exact fun q => absurd zt13 (by rw [q]; decide) | exact fun q => absurd q (by rw [zx13]; decide) | exact fun _ => ⟨fun q => absurd q zc80, fun _ => rfl⟩ | exact fun _ => ⟨fun _ => rfl, fun q => absurd zc80 q⟩ | exact fun _ => ⟨fun q => absurd q zc123, fun _ => rfl⟩ | exact fun _ => ⟨fun _ => rfl, fun q => absurd zc123 q⟩), (by first | exact fun q => absurd (zx13.symm.trans q) (by decide) | exact fun _ => rfl | exact fun q => absurd zt13 (by rw [q]; decide) | exact fun q => absurd q (by rw [zx13]; decide) | exact fun _ => ⟨fun q => absurd q zc80, fun _ => rfl⟩ | exact fun _ => ⟨fun _ => rfl, fun q => absurd zc80 q⟩ | exact fun _ => ⟨fun q => absurd q zc123, fun _ => rfl⟩ | exact fun _ => ⟨fun _ => rfl, fun q => absurd zc123 q⟩), (by first | exact fun q => absurd (zx13.symm.trans q) (by decide) | exact fun _ => rfl | exact fun q => absurd zt13 (by rw [q]; decide) | exact fun q => absurd q (by rw [zx13]; decide) | exact fun _ => ⟨fun q => absurd q zc80, fun _ => rfl⟩ | exact fun _ => ⟨fun _ => rfl, fun q => absurd zc80 q⟩ | exact fun _ => ⟨fun q => absurd q zc123, fun _ => rfl⟩ | exact fun _ => ⟨fun _ => rfl, fun q => absurd zc123 q⟩), (by first | exact fun q => absurd (zx13.symm.trans q) (by decide) | exact fun _ => rfl | exact fun q => absurd zt13 (by rw [q]; decide) | exact fun q => absurd q (by rw [zx13]; decide) | exact fun _ => ⟨fun q => absurd q zc80, fun _ => rfl⟩ | exact fun _ => ⟨fun _ => rfl, fun q => absurd zc80 q⟩ | exact fun _ => ⟨fun q => absurd q zc123, fun _ => rfl⟩ | exact fun _ => ⟨fun _ => rfl, fun q => absurd zc123 q⟩), (by first | exact fun q => absurd (zx13.symm.trans q) (by decide) | exact fun _ => rfl | exact fun q => absurd zt13 (by rw [q]; decide) | exact fun q => absurd q (by rw [zx13]; decide) | exact fun _ => ⟨fun q => absurd q zc80, fun _ => rfl⟩ | exact fun _ => ⟨fun _ => rfl, fun q => absurd zc80 q⟩ | exact fun _ => ⟨fun q => absurd q zc123, fun _ => rfl⟩ | exact fun _ => ⟨fun _ => rfl, fun q => absurd zc123 q⟩), (by first | exact fun q => absurd (zx13.symm.trans q) (by decide) | exact fun _ => rfl | exact fun q => absurd zt13 (by rw [q]; decide) | exact fun q => absurd q (by rw [zx13]; decide) | exact fun _ => ⟨fun q => absurd q zc80, fun _ => rfl⟩ | exact fun _ => ⟨fun _ => rfl, fun q => absurd zc80 q⟩ | exact fun _ => ⟨fun q => absurd q zc123, fun _ => rfl⟩ | exact fun _ => ⟨fun _ => rfl, fun q => absurd zc123 q⟩), (by first | exact fun q => absurd (zx13.symm.trans q) (by decide) | exact fun _ => rfl | exact fun q => absurd zt13 (by rw [q]; decide) | exact fun q => absurd q (by rw [zx13]; decide) | exact fun _ => ⟨fun q => absurd q zc80, fun _ => rfl⟩ | exact fun _ => ⟨fun _ => rfl, fun q => absurd zc80 q⟩ | exact fun _ => ⟨fun q => absurd q zc123, fun _ => rfl⟩ | exact fun _ => ⟨fun _ => rfl, fun q => absurd zc123 q⟩), (by first | exact fun q => absurd (zx13.symm.trans q) (by decide) | exact fun _ => rfl | exact fun q => absurd zt13 (by rw [q]; decide) | exact fun q => absurd q (by rw [zx13]; decide) | exact fun _ => ⟨fun q => absurd q zc80, fun _ => rfl⟩ | exact fun _ => ⟨fun _ => rfl, fun q => absurd zc80 q⟩ | exact fun _ => ⟨fun q => absurd q zc123, fun _ => rfl⟩ | exact fun _ => ⟨fun _ => rfl, fun q => absurd zc123 q⟩), (by first | exact fun q => absurd (zx13.symm.trans q) (by decide) | exact fun _ => rfl | exact fun q => absurd zt13 (by rw [q]; decide) | exact fun q => absurd q (by rw [zx13]; decide) | exact fun _ => ⟨fun q => absurd q zc80, fun _ => rfl⟩ | exact fun _ => ⟨fun _ => rfl, fun q => absurd zc80 q⟩ | exact fun _ => ⟨fun q => absurd q zc123, fun _ => rfl⟩ | exact fun _ => ⟨fun _ => rfl, fun q => absurd zc123 q⟩)⟩
      · refine xi_tableIn (tgt := 96) (off := 83) hC dX8_user_13 (by rw [zx13]; decide) (by rw [zx13]; decide) (by rw [zx13]; rfl) (by decide) ?_
        refine xi_aload_n hC dX8_user_96 (pc' := 97) rfl rfl rfl ?_
        refine xg8_doneOf hC dX8_user_97 (pc' := 100) rfl xw_f_X8_41 kd_oMod ?_
        refine xi_iload_n hC dX8_user_100 (pc' := 101) rfl rfl rfl ?_
        refine xt_l_i hC dX8_user_101 (pc' := 102) rfl (N := 5) kd_m_doneOf (by decide) (by decide) rfl (by omega) ?_
        refine xi_ireturn hC dX8_user_102 hr rfl ?_
        refine ⟨_, rfl, ⟨fun q => absurd ⟨i, hi, rfl⟩ q, fun i' hi' e1 => ?_⟩, rfl⟩
        obtain rfl := nI_inj (by omega) (by omega) e1
        exact ⟨(by first | exact fun q => absurd (zx13.symm.trans q) (by decide) | exact fun _ => rfl | exact fun q => absurd zt13 (by rw [q]; decide) | exact fun q => absurd q (by rw [zx13]; decide) | exact fun _ => ⟨fun q => absurd q zc80, fun _ => rfl⟩ | exact fun _ => ⟨fun _ => rfl, fun q => absurd zc80 q⟩ | exact fun _ => ⟨fun q => absurd q zc123, fun _ => rfl⟩ | exact fun _ => ⟨fun _ => rfl, fun q => absurd zc123 q⟩), (by first | exact fun q => absurd (zx13.symm.trans q) (by decide) | exact fun _ => rfl | exact fun q => absurd zt13 (by rw [q]; decide) | exact fun q => absurd q (by rw [zx13]; decide) | exact fun _ => ⟨fun q => absurd q zc80, fun _ => rfl⟩ | exact fun _ => ⟨fun _ => rfl, fun q => absurd zc80 q⟩ | exact fun _ => ⟨fun q => absurd q zc123, fun _ => rfl⟩ | exact fun _ => ⟨fun _ => rfl, fun q => absurd zc123 q⟩), (by first | exact fun q => absurd (zx13.symm.trans q) (by decide) | exact fun _ => rfl | exact fun q => absurd zt13 (by rw [q]; decide) | exact fun q => absurd q (by rw [zx13]; decide) | exact fun _ => ⟨fun q => absurd q zc80, fun _ => rfl⟩ | exact fun _ => ⟨fun _ => rfl, fun q => absurd zc80 q⟩ | exact fun _ => ⟨fun q => absurd q zc123, fun _ => rfl⟩ | exact fun _ => ⟨fun _ => rfl, fun q => absurd zc123 q⟩), (by first | exact fun q => absurd (zx13.symm.trans q) (by decide) | exact fun _ => rfl | exact fun q => absurd zt13 (by rw [q]; decide) | exact fun q => absurd q (by rw [zx13]; decide) | exact fun _ => ⟨fun q => absurd q zc80, fun _ => rfl⟩ | exact fun _ => ⟨fun _ => rfl, fun q => absurd zc80 q⟩ | exact fun _ => ⟨fun q => absurd q zc123, fun _ => rfl⟩ | exact fun _ => ⟨fun _ => rfl, fun q => absurd zc123 q⟩), (by first | exact fun q => absurd (zx13.symm.trans q) (by decide) | exact fun _ => rfl | exact fun q => absurd zt13 (by rw [q]; decide) | exact fun q => absurd q (by rw [zx13]; decide) | exact fun _ => ⟨fun q => absurd q zc80, fun _ => rfl⟩ | exact fun _ => ⟨fun _ => rfl, fun q => absurd zc80 q⟩ | exact fun _ => ⟨fun q => absurd q zc123, fun _ => rfl⟩ | exact fun _ => ⟨fun _ => rfl, fun q => absurd zc123 q⟩), (by first | exact fun q => absurd (zx13.symm.trans q) (by decide) | exact fun _ => rfl | exact fun q => absurd zt13 (by rw [q]; decide) | exact fun q => absurd q (by rw [zx13]; decide) | exact fun _ => ⟨fun q => absurd q zc80, fun _ => rfl⟩ | exact fun _ => ⟨fun _ => rfl, fun q => absurd zc80 q⟩ | exact fun _ => ⟨fun q => absurd q zc123, fun _ => rfl⟩ | exact fun _ => ⟨fun _ => rfl, fun q => absurd zc123 q⟩), (by first | exact fun q => absurd (zx13.symm.trans q) (by decide) | exact fun _ => rfl | exact fun q => absurd zt13 (by rw [q]; decide) | exact fun q => absurd q (by rw [zx13]; decide) | exact fun _ => ⟨fun q => absurd q zc80, fun _ => rfl⟩ | exact fun _ => ⟨fun _ => rfl, fun q => absurd zc80 q⟩ | exact fun _ => ⟨fun q => absurd q zc123, fun _ => rfl⟩ | exact fun _ => ⟨fun _ => rfl, fun q => absurd zc123 q⟩), (by first | exact fun q => absurd (zx13.symm.trans q) (by decide) | exact fun _ => rfl | exact fun q => absurd zt13 (by rw [q]; decide) | exact fun q => absurd q (by rw [zx13]; decide) | exact fun _ => ⟨fun q => absurd q zc80, fun _ => rfl⟩ | exact fun _ => ⟨fun _ => rfl, fun q => absurd zc80 q⟩ | exact fun _ => ⟨fun q => absurd q zc123, fun _ => rfl⟩ | exact fun _ => ⟨fun _ => rfl, fun q => absurd zc123 q⟩), (by first | exact fun q => absurd (zx13.symm.trans q) (by decide) | exact fun _ => rfl | exact fun q => absurd zt13 (by rw [q]; decide) | exact fun q => absurd q (by rw [zx13]; decide) | exact fun _ => ⟨fun q => absurd q zc80, fun _ => rfl⟩ | exact fun _ => ⟨fun _ => rfl, fun q => absurd zc80 q⟩ | exact fun _ => ⟨fun q => absurd q zc123, fun _ => rfl⟩ | exact fun _ => ⟨fun _ => rfl, fun q => absurd zc123 q⟩)⟩
      · refine xi_tableIn (tgt := 103) (off := 90) hC dX8_user_13 (by rw [zx13]; decide) (by rw [zx13]; decide) (by rw [zx13]; rfl) (by decide) ?_
        refine xi_aload_n hC dX8_user_103 (pc' := 104) rfl rfl rfl ?_
        refine xg8_shownTo hC dX8_user_104 (pc' := 107) rfl xw_f_X8_44 kd_oMod ?_
        refine xi_iload_n hC dX8_user_107 (pc' := 108) rfl rfl rfl ?_
        refine xt_l_i hC dX8_user_108 (pc' := 109) rfl (N := 5) kd_m_shownTo (by decide) (by decide) rfl (by omega) ?_
        refine xi_ireturn hC dX8_user_109 hr rfl ?_
        refine ⟨_, rfl, ⟨fun q => absurd ⟨i, hi, rfl⟩ q, fun i' hi' e1 => ?_⟩, rfl⟩
        obtain rfl := nI_inj (by omega) (by omega) e1
        exact ⟨(by first | exact fun q => absurd (zx13.symm.trans q) (by decide) | exact fun _ => rfl | exact fun q => absurd zt13 (by rw [q]; decide) | exact fun q => absurd q (by rw [zx13]; decide) | exact fun _ => ⟨fun q => absurd q zc80, fun _ => rfl⟩ | exact fun _ => ⟨fun _ => rfl, fun q => absurd zc80 q⟩ | exact fun _ => ⟨fun q => absurd q zc123, fun _ => rfl⟩ | exact fun _ => ⟨fun _ => rfl, fun q => absurd zc123 q⟩), (by first | exact fun q => absurd (zx13.symm.trans q) (by decide) | exact fun _ => rfl | exact fun q => absurd zt13 (by rw [q]; decide) | exact fun q => absurd q (by rw [zx13]; decide) | exact fun _ => ⟨fun q => absurd q zc80, fun _ => rfl⟩ | exact fun _ => ⟨fun _ => rfl, fun q => absurd zc80 q⟩ | exact fun _ => ⟨fun q => absurd q zc123, fun _ => rfl⟩ | exact fun _ => ⟨fun _ => rfl, fun q => absurd zc123 q⟩), (by first | exact fun q => absurd (zx13.symm.trans q) (by decide) | exact fun _ => rfl | exact fun q => absurd zt13 (by rw [q]; decide) | exact fun q => absurd q (by rw [zx13]; decide) | exact fun _ => ⟨fun q => absurd q zc80, fun _ => rfl⟩ | exact fun _ => ⟨fun _ => rfl, fun q => absurd zc80 q⟩ | exact fun _ => ⟨fun q => absurd q zc123, fun _ => rfl⟩ | exact fun _ => ⟨fun _ => rfl, fun q => absurd zc123 q⟩), (by first | exact fun q => absurd (zx13.symm.trans q) (by decide) | exact fun _ => rfl | exact fun q => absurd zt13 (by rw [q]; decide) | exact fun q => absurd q (by rw [zx13]; decide) | exact fun _ => ⟨fun q => absurd q zc80, fun _ => rfl⟩ | exact fun _ => ⟨fun _ => rfl, fun q => absurd zc80 q⟩ | exact fun _ => ⟨fun q => absurd q zc123, fun _ => rfl⟩ | exact fun _ => ⟨fun _ => rfl, fun q => absurd zc123 q⟩), (by first | exact fun q => absurd (zx13.symm.trans q) (by decide) | exact fun _ => rfl | exact fun q => absurd zt13 (by rw [q]; decide) | exact fun q => absurd q (by rw [zx13]; decide) | exact fun _ => ⟨fun q => absurd q zc80, fun _ => rfl⟩ | exact fun _ => ⟨fun _ => rfl, fun q => absurd zc80 q⟩ | exact fun _ => ⟨fun q => absurd q zc123, fun _ => rfl⟩ | exact fun _ => ⟨fun _ => rfl, fun q => absurd zc123 q⟩), (by first | exact fun q => absurd (zx13.symm.trans q) (by decide) | exact fun _ => rfl | exact fun q => absurd zt13 (by rw [q]; decide) | exact fun q => absurd q (by rw [zx13]; decide) | exact fun _ => ⟨fun q => absurd q zc80, fun _ => rfl⟩ | exact fun _ => ⟨fun _ => rfl, fun q => absurd zc80 q⟩ | exact fun _ => ⟨fun q => absurd q zc123, fun _ => rfl⟩ | exact fun _ => ⟨fun _ => rfl, fun q => absurd zc123 q⟩), (by first | exact fun q => absurd (zx13.symm.trans q) (by decide) | exact fun _ => rfl | exact fun q => absurd zt13 (by rw [q]; decide) | exact fun q => absurd q (by rw [zx13]; decide) | exact fun _ => ⟨fun q => absurd q zc80, fun _ => rfl⟩ | exact fun _ => ⟨fun _ => rfl, fun q => absurd zc80 q⟩ | exact fun _ => ⟨fun q => absurd q zc123, fun _ => rfl⟩ | exact fun _ => ⟨fun _ => rfl, fun q => absurd zc123 q⟩), (by first | exact fun q => absurd (zx13.symm.trans q) (by decide) | exact fun _ => rfl | exact fun q => absurd zt13 (by rw [q]; decide) | exact fun q => absurd q (by rw [zx13]; decide) | exact fun _ => ⟨fun q => absurd q zc80, fun _ => rfl⟩ | exact fun _ => ⟨fun _ => rfl, fun q => absurd zc80 q⟩ | exact fun _ => ⟨fun q => absurd q zc123, fun _ => rfl⟩ | exact fun _ => ⟨fun _ => rfl, fun q => absurd zc123 q⟩), (by first | exact fun q => absurd (zx13.symm.trans q) (by decide) | exact fun _ => rfl | exact fun q => absurd zt13 (by rw [q]; decide) | exact fun q => absurd q (by rw [zx13]; decide) | exact fun _ => ⟨fun q => absurd q zc80, fun _ => rfl⟩ | exact fun _ => ⟨fun _ => rfl, fun q => absurd zc80 q⟩ | exact fun _ => ⟨fun q => absurd q zc123, fun _ => rfl⟩ | exact fun _ => ⟨fun _ => rfl, fun q => absurd zc123 q⟩)⟩
      · refine xi_tableIn (tgt := 110) (off := 97) hC dX8_user_13 (by rw [zx13]; decide) (by rw [zx13]; decide) (by rw [zx13]; rfl) (by decide) ?_
        refine xi_aload_n hC dX8_user_110 (pc' := 111) rfl rfl rfl ?_
        refine xg8_sentBy hC dX8_user_111 (pc' := 114) rfl xw_f_X8_47 kd_oMod ?_
        refine xi_iload_n hC dX8_user_114 (pc' := 115) rfl rfl rfl ?_
        refine xt_l_i hC dX8_user_115 (pc' := 116) rfl (N := 5) kd_m_sentBy (by decide) (by decide) rfl (by omega) ?_
        refine xi_ireturn hC dX8_user_116 hr rfl ?_
        refine ⟨_, rfl, ⟨fun q => absurd ⟨i, hi, rfl⟩ q, fun i' hi' e1 => ?_⟩, rfl⟩
        obtain rfl := nI_inj (by omega) (by omega) e1
        exact ⟨(by first | exact fun q => absurd (zx13.symm.trans q) (by decide) | exact fun _ => rfl | exact fun q => absurd zt13 (by rw [q]; decide) | exact fun q => absurd q (by rw [zx13]; decide) | exact fun _ => ⟨fun q => absurd q zc80, fun _ => rfl⟩ | exact fun _ => ⟨fun _ => rfl, fun q => absurd zc80 q⟩ | exact fun _ => ⟨fun q => absurd q zc123, fun _ => rfl⟩ | exact fun _ => ⟨fun _ => rfl, fun q => absurd zc123 q⟩), (by first | exact fun q => absurd (zx13.symm.trans q) (by decide) | exact fun _ => rfl | exact fun q => absurd zt13 (by rw [q]; decide) | exact fun q => absurd q (by rw [zx13]; decide) | exact fun _ => ⟨fun q => absurd q zc80, fun _ => rfl⟩ | exact fun _ => ⟨fun _ => rfl, fun q => absurd zc80 q⟩ | exact fun _ => ⟨fun q => absurd q zc123, fun _ => rfl⟩ | exact fun _ => ⟨fun _ => rfl, fun q => absurd zc123 q⟩), (by first | exact fun q => absurd (zx13.symm.trans q) (by decide) | exact fun _ => rfl | exact fun q => absurd zt13 (by rw [q]; decide) | exact fun q => absurd q (by rw [zx13]; decide) | exact fun _ => ⟨fun q => absurd q zc80, fun _ => rfl⟩ | exact fun _ => ⟨fun _ => rfl, fun q => absurd zc80 q⟩ | exact fun _ => ⟨fun q => absurd q zc123, fun _ => rfl⟩ | exact fun _ => ⟨fun _ => rfl, fun q => absurd zc123 q⟩), (by first | exact fun q => absurd (zx13.symm.trans q) (by decide) | exact fun _ => rfl | exact fun q => absurd zt13 (by rw [q]; decide) | exact fun q => absurd q (by rw [zx13]; decide) | exact fun _ => ⟨fun q => absurd q zc80, fun _ => rfl⟩ | exact fun _ => ⟨fun _ => rfl, fun q => absurd zc80 q⟩ | exact fun _ => ⟨fun q => absurd q zc123, fun _ => rfl⟩ | exact fun _ => ⟨fun _ => rfl, fun q => absurd zc123 q⟩), (by first | exact fun q => absurd (zx13.symm.trans q) (by decide) | exact fun _ => rfl | exact fun q => absurd zt13 (by rw [q]; decide) | exact fun q => absurd q (by rw [zx13]; decide) | exact fun _ => ⟨fun q => absurd q zc80, fun _ => rfl⟩ | exact fun _ => ⟨fun _ => rfl, fun q => absurd zc80 q⟩ | exact fun _ => ⟨fun q => absurd q zc123, fun _ => rfl⟩ | exact fun _ => ⟨fun _ => rfl, fun q => absurd zc123 q⟩), (by first | exact fun q => absurd (zx13.symm.trans q) (by decide) | exact fun _ => rfl | exact fun q => absurd zt13 (by rw [q]; decide) | exact fun q => absurd q (by rw [zx13]; decide) | exact fun _ => ⟨fun q => absurd q zc80, fun _ => rfl⟩ | exact fun _ => ⟨fun _ => rfl, fun q => absurd zc80 q⟩ | exact fun _ => ⟨fun q => absurd q zc123, fun _ => rfl⟩ | exact fun _ => ⟨fun _ => rfl, fun q => absurd zc123 q⟩), (by first | exact fun q => absurd (zx13.symm.trans q) (by decide) | exact fun _ => rfl | exact fun q => absurd zt13 (by rw [q]; decide) | exact fun q => absurd q (by rw [zx13]; decide) | exact fun _ => ⟨fun q => absurd q zc80, fun _ => rfl⟩ | exact fun _ => ⟨fun _ => rfl, fun q => absurd zc80 q⟩ | exact fun _ => ⟨fun q => absurd q zc123, fun _ => rfl⟩ | exact fun _ => ⟨fun _ => rfl, fun q => absurd zc123 q⟩), (by first | exact fun q => absurd (zx13.symm.trans q) (by decide) | exact fun _ => rfl | exact fun q => absurd zt13 (by rw [q]; decide) | exact fun q => absurd q (by rw [zx13]; decide) | exact fun _ => ⟨fun q => absurd q zc80, fun _ => rfl⟩ | exact fun _ => ⟨fun _ => rfl, fun q => absurd zc80 q⟩ | exact fun _ => ⟨fun q => absurd q zc123, fun _ => rfl⟩ | exact fun _ => ⟨fun _ => rfl, fun q => absurd zc123 q⟩), (by first | exact fun q => absurd (zx13.symm.trans q) (by decide) | exact fun _ => rfl | exact fun q => absurd zt13 (by rw [q]; decide) | exact fun q => absurd q (by rw [zx13]; decide) | exact fun _ => ⟨fun q => absurd q zc80, fun _ => rfl⟩ | exact fun _ => ⟨fun _ => rfl, fun q => absurd zc80 q⟩ | exact fun _ => ⟨fun q => absurd q zc123, fun _ => rfl⟩ | exact fun _ => ⟨fun _ => rfl, fun q => absurd zc123 q⟩)⟩
      · refine xi_tableIn (tgt := 117) (off := 104) hC dX8_user_13 (by rw [zx13]; decide) (by rw [zx13]; decide) (by rw [zx13]; rfl) (by decide) ?_
        refine xi_aload_n hC dX8_user_117 (pc' := 118) rfl rfl rfl ?_
        refine xg8_hasProof hC dX8_user_118 (pc' := 121) rfl xw_f_X8_25 kd_oMod ?_
        refine xi_iload_n hC dX8_user_121 (pc' := 122) rfl rfl rfl ?_
        refine xt_l_b hC dX8_user_122 (pc' := 123) rfl (N := 5) kd_m_hasProof (by decide) (by decide) rfl (by omega) ?_
        refine xi_ifeq (tgt := 135) hC dX8_user_123 (pc' := 126) rfl (by decide) (fun zc123 => ?_) (fun zc123 => ?_)
        · skip
          refine xi_sipush (v := -10005) hC dX8_user_135 (pc' := 138) rfl (by decide +kernel) ?_
          refine xi_ireturn hC dX8_user_138 hr rfl ?_
          refine ⟨_, rfl, ⟨fun q => absurd ⟨i, hi, rfl⟩ q, fun i' hi' e1 => ?_⟩, rfl⟩
          obtain rfl := nI_inj (by omega) (by omega) e1
          exact ⟨(by first | exact fun q => absurd (zx13.symm.trans q) (by decide) | exact fun _ => rfl | exact fun q => absurd zt13 (by rw [q]; decide) | exact fun q => absurd q (by rw [zx13]; decide) | exact fun _ => ⟨fun q => absurd q zc80, fun _ => rfl⟩ | exact fun _ => ⟨fun _ => rfl, fun q => absurd zc80 q⟩ | exact fun _ => ⟨fun q => absurd q zc123, fun _ => rfl⟩ | exact fun _ => ⟨fun _ => rfl, fun q => absurd zc123 q⟩), (by first | exact fun q => absurd (zx13.symm.trans q) (by decide) | exact fun _ => rfl | exact fun q => absurd zt13 (by rw [q]; decide) | exact fun q => absurd q (by rw [zx13]; decide) | exact fun _ => ⟨fun q => absurd q zc80, fun _ => rfl⟩ | exact fun _ => ⟨fun _ => rfl, fun q => absurd zc80 q⟩ | exact fun _ => ⟨fun q => absurd q zc123, fun _ => rfl⟩ | exact fun _ => ⟨fun _ => rfl, fun q => absurd zc123 q⟩), (by first | exact fun q => absurd (zx13.symm.trans q) (by decide) | exact fun _ => rfl | exact fun q => absurd zt13 (by rw [q]; decide) | exact fun q => absurd q (by rw [zx13]; decide) | exact fun _ => ⟨fun q => absurd q zc80, fun _ => rfl⟩ | exact fun _ => ⟨fun _ => rfl, fun q => absurd zc80 q⟩ | exact fun _ => ⟨fun q => absurd q zc123, fun _ => rfl⟩ | exact fun _ => ⟨fun _ => rfl, fun q => absurd zc123 q⟩), (by first | exact fun q => absurd (zx13.symm.trans q) (by decide) | exact fun _ => rfl | exact fun q => absurd zt13 (by rw [q]; decide) | exact fun q => absurd q (by rw [zx13]; decide) | exact fun _ => ⟨fun q => absurd q zc80, fun _ => rfl⟩ | exact fun _ => ⟨fun _ => rfl, fun q => absurd zc80 q⟩ | exact fun _ => ⟨fun q => absurd q zc123, fun _ => rfl⟩ | exact fun _ => ⟨fun _ => rfl, fun q => absurd zc123 q⟩), (by first | exact fun q => absurd (zx13.symm.trans q) (by decide) | exact fun _ => rfl | exact fun q => absurd zt13 (by rw [q]; decide) | exact fun q => absurd q (by rw [zx13]; decide) | exact fun _ => ⟨fun q => absurd q zc80, fun _ => rfl⟩ | exact fun _ => ⟨fun _ => rfl, fun q => absurd zc80 q⟩ | exact fun _ => ⟨fun q => absurd q zc123, fun _ => rfl⟩ | exact fun _ => ⟨fun _ => rfl, fun q => absurd zc123 q⟩), (by first | exact fun q => absurd (zx13.symm.trans q) (by decide) | exact fun _ => rfl | exact fun q => absurd zt13 (by rw [q]; decide) | exact fun q => absurd q (by rw [zx13]; decide) | exact fun _ => ⟨fun q => absurd q zc80, fun _ => rfl⟩ | exact fun _ => ⟨fun _ => rfl, fun q => absurd zc80 q⟩ | exact fun _ => ⟨fun q => absurd q zc123, fun _ => rfl⟩ | exact fun _ => ⟨fun _ => rfl, fun q => absurd zc123 q⟩), (by first | exact fun q => absurd (zx13.symm.trans q) (by decide) | exact fun _ => rfl | exact fun q => absurd zt13 (by rw [q]; decide) | exact fun q => absurd q (by rw [zx13]; decide) | exact fun _ => ⟨fun q => absurd q zc80, fun _ => rfl⟩ | exact fun _ => ⟨fun _ => rfl, fun q => absurd zc80 q⟩ | exact fun _ => ⟨fun q => absurd q zc123, fun _ => rfl⟩ | exact fun _ => ⟨fun _ => rfl, fun q => absurd zc123 q⟩), (by first | exact fun q => absurd (zx13.symm.trans q) (by decide) | exact fun _ => rfl | exact fun q => absurd zt13 (by rw [q]; decide) | exact fun q => absurd q (by rw [zx13]; decide) | exact fun _ => ⟨fun q => absurd q zc80, fun _ => rfl⟩ | exact fun _ => ⟨fun _ => rfl, fun q => absurd zc80 q⟩ | exact fun _ => ⟨fun q => absurd q zc123, fun _ => rfl⟩ | exact fun _ => ⟨fun _ => rfl, fun q => absurd zc123 q⟩), (by first | exact fun q => absurd (zx13.symm.trans q) (by decide) | exact fun _ => rfl | exact fun q => absurd zt13 (by rw [q]; decide) | exact fun q => absurd q (by rw [zx13]; decide) | exact fun _ => ⟨fun q => absurd q zc80, fun _ => rfl⟩ | exact fun _ => ⟨fun _ => rfl, fun q => absurd zc80 q⟩ | exact fun _ => ⟨fun q => absurd q zc123, fun _ => rfl⟩ | exact fun _ => ⟨fun _ => rfl, fun q => absurd zc123 q⟩)⟩
        · skip
          refine xi_aload_n hC dX8_user_126 (pc' := 127) rfl rfl rfl ?_
          refine xg8_depthOf hC dX8_user_127 (pc' := 130) rfl xw_f_X8_29 kd_oMod ?_
          refine xi_iload_n hC dX8_user_130 (pc' := 131) rfl rfl rfl ?_
          refine xt_l_i hC dX8_user_131 (pc' := 132) rfl (N := 5) kd_m_depthOf (by decide) (by decide) rfl (by omega) ?_
          refine xi_goto (tgt := 138) hC dX8_user_132 (by decide) ?_
          refine xi_ireturn hC dX8_user_138 hr rfl ?_
          refine ⟨_, rfl, ⟨fun q => absurd ⟨i, hi, rfl⟩ q, fun i' hi' e1 => ?_⟩, rfl⟩
          obtain rfl := nI_inj (by omega) (by omega) e1
          exact ⟨(by first | exact fun q => absurd (zx13.symm.trans q) (by decide) | exact fun _ => rfl | exact fun q => absurd zt13 (by rw [q]; decide) | exact fun q => absurd q (by rw [zx13]; decide) | exact fun _ => ⟨fun q => absurd q zc80, fun _ => rfl⟩ | exact fun _ => ⟨fun _ => rfl, fun q => absurd zc80 q⟩ | exact fun _ => ⟨fun q => absurd q zc123, fun _ => rfl⟩ | exact fun _ => ⟨fun _ => rfl, fun q => absurd zc123 q⟩), (by first | exact fun q => absurd (zx13.symm.trans q) (by decide) | exact fun _ => rfl | exact fun q => absurd zt13 (by rw [q]; decide) | exact fun q => absurd q (by rw [zx13]; decide) | exact fun _ => ⟨fun q => absurd q zc80, fun _ => rfl⟩ | exact fun _ => ⟨fun _ => rfl, fun q => absurd zc80 q⟩ | exact fun _ => ⟨fun q => absurd q zc123, fun _ => rfl⟩ | exact fun _ => ⟨fun _ => rfl, fun q => absurd zc123 q⟩), (by first | exact fun q => absurd (zx13.symm.trans q) (by decide) | exact fun _ => rfl | exact fun q => absurd zt13 (by rw [q]; decide) | exact fun q => absurd q (by rw [zx13]; decide) | exact fun _ => ⟨fun q => absurd q zc80, fun _ => rfl⟩ | exact fun _ => ⟨fun _ => rfl, fun q => absurd zc80 q⟩ | exact fun _ => ⟨fun q => absurd q zc123, fun _ => rfl⟩ | exact fun _ => ⟨fun _ => rfl, fun q => absurd zc123 q⟩), (by first | exact fun q => absurd (zx13.symm.trans q) (by decide) | exact fun _ => rfl | exact fun q => absurd zt13 (by rw [q]; decide) | exact fun q => absurd q (by rw [zx13]; decide) | exact fun _ => ⟨fun q => absurd q zc80, fun _ => rfl⟩ | exact fun _ => ⟨fun _ => rfl, fun q => absurd zc80 q⟩ | exact fun _ => ⟨fun q => absurd q zc123, fun _ => rfl⟩ | exact fun _ => ⟨fun _ => rfl, fun q => absurd zc123 q⟩), (by first | exact fun q => absurd (zx13.symm.trans q) (by decide) | exact fun _ => rfl | exact fun q => absurd zt13 (by rw [q]; decide) | exact fun q => absurd q (by rw [zx13]; decide) | exact fun _ => ⟨fun q => absurd q zc80, fun _ => rfl⟩ | exact fun _ => ⟨fun _ => rfl, fun q => absurd zc80 q⟩ | exact fun _ => ⟨fun q => absurd q zc123, fun _ => rfl⟩ | exact fun _ => ⟨fun _ => rfl, fun q => absurd zc123 q⟩), (by first | exact fun q => absurd (zx13.symm.trans q) (by decide) | exact fun _ => rfl | exact fun q => absurd zt13 (by rw [q]; decide) | exact fun q => absurd q (by rw [zx13]; decide) | exact fun _ => ⟨fun q => absurd q zc80, fun _ => rfl⟩ | exact fun _ => ⟨fun _ => rfl, fun q => absurd zc80 q⟩ | exact fun _ => ⟨fun q => absurd q zc123, fun _ => rfl⟩ | exact fun _ => ⟨fun _ => rfl, fun q => absurd zc123 q⟩), (by first | exact fun q => absurd (zx13.symm.trans q) (by decide) | exact fun _ => rfl | exact fun q => absurd zt13 (by rw [q]; decide) | exact fun q => absurd q (by rw [zx13]; decide) | exact fun _ => ⟨fun q => absurd q zc80, fun _ => rfl⟩ | exact fun _ => ⟨fun _ => rfl, fun q => absurd zc80 q⟩ | exact fun _ => ⟨fun q => absurd q zc123, fun _ => rfl⟩ | exact fun _ => ⟨fun _ => rfl, fun q => absurd zc123 q⟩), (by first | exact fun q => absurd (zx13.symm.trans q) (by decide) | exact fun _ => rfl | exact fun q => absurd zt13 (by rw [q]; decide) | exact fun q => absurd q (by rw [zx13]; decide) | exact fun _ => ⟨fun q => absurd q zc80, fun _ => rfl⟩ | exact fun _ => ⟨fun _ => rfl, fun q => absurd zc80 q⟩ | exact fun _ => ⟨fun q => absurd q zc123, fun _ => rfl⟩ | exact fun _ => ⟨fun _ => rfl, fun q => absurd zc123 q⟩), (by first | exact fun q => absurd (zx13.symm.trans q) (by decide) | exact fun _ => rfl | exact fun q => absurd zt13 (by rw [q]; decide) | exact fun q => absurd q (by rw [zx13]; decide) | exact fun _ => ⟨fun q => absurd q zc80, fun _ => rfl⟩ | exact fun _ => ⟨fun _ => rfl, fun q => absurd zc80 q⟩ | exact fun _ => ⟨fun q => absurd q zc123, fun _ => rfl⟩ | exact fun _ => ⟨fun _ => rfl, fun q => absurd zc123 q⟩)⟩
  · skip
    refine xi_sipush (v := -10001) hC dX8_user_8 (pc' := 11) rfl (by decide +kernel) ?_
    refine xi_ireturn hC dX8_user_11 hr rfl ?_
    exact ⟨_, rfl, ⟨fun _ => rfl, fun i h e => absurd ⟨i, h, e⟩ zc5⟩, rfl⟩

set_option maxRecDepth 100000 in
set_option maxHeartbeats 4000000 in
theorem c_X8_vector (l : Launch) (D : XD) (b n : Nat) {C S : XM} {u w : Nat} (hW : MW S u w) {x y z : Int32} : xM l yX8_vector cX8_vector 4 (some .int) 2 43 0 0 D b n [.ref (b + oMod), .int x, .int y, .int z] (xH D b (jn C S)) n (fun y' h' => ∃ r : Int32, y' = some (.int r) ∧ s_vector S u x y z r ∧ h' = xH D b (jn C S)) := by
  refine xM.of (lv := [some (.ref (b + oMod)), some (.int x), some (.int y), some (.int z)]) (by decide +kernel) rfl (List.forall_mem_cons.mpr ⟨rfl, List.forall_mem_cons.mpr ⟨rfl, List.forall_mem_cons.mpr ⟨rfl, List.forall_mem_cons.mpr ⟨rfl, fun _ h => absurd h List.not_mem_nil⟩⟩⟩⟩) (Nat.le_of_ble_eq_true rfl) rfl ?_
  intro p e s m args below meth c hC hr hnm
  obtain ⟨hU, hN, hVw, hKp, hLt, hTx, hAl⟩ := id hW
  obtain ⟨hu, hu2, hu5⟩ := id hU
  obtain ⟨hn, hw1, hw6⟩ := id hN
  refine xi_aload_n hC dX8_vector_0 (pc' := 1) rfl rfl rfl ?_
  refine xi_iload_n hC dX8_vector_1 (pc' := 2) rfl rfl rfl ?_
  refine xi_callV (As := [.int x]) (rest := []) (c_X8_noUser l D b n (C := C) (S := S) (x := x) hU) hC dX8_vector_2 (pc' := 5) rfl xw_m_X8_126 xw_c_X8_noUser xw_ins_X8_noUser xw_sel_X8_noUser xw_ini_X8 xd_X8_noUser (xH_at.trans (xsh_8 kd_oMod)) rfl ⟨Nat.le_of_ble_eq_true rfl, Nat.le_of_ble_eq_true rfl⟩ rfl (Nat.le_of_ble_eq_true rfl) ⟨Nat.le_of_ble_eq_true rfl, Nat.le_of_ble_eq_true rfl⟩ ?_
  rintro _ _ ⟨rfl, rfl⟩
  show xV _ _ _ _ _ _ _ _ _ _ _ _ _ _ _ _ _ (xH D b (jn C S)) _ _ [.int (bI (¬ isU u x))]
  refine xb_ifne (tgt := 16) hC dX8_vector_5 (pc' := 8) rfl (by decide) (fun zc5 => ?_) (fun zc5 => ?_)
  · skip
    refine xi_sipush (v := -10001) hC dX8_vector_16 (pc' := 19) rfl (by decide +kernel) ?_
    refine xi_ireturn hC dX8_vector_19 hr rfl ?_
    exact ⟨_, rfl, ⟨fun _ => rfl, fun i j h1 h2 e1 e2 => by first | exact absurd (show ∃ k, _ from ⟨j, h2, e2⟩) zc13 | exact absurd (show ∃ k, _ from ⟨i, h1, e1⟩) zc5⟩, rfl⟩
  · skip
    refine xi_aload_n hC dX8_vector_8 (pc' := 9) rfl rfl rfl ?_
    refine xi_iload_n hC dX8_vector_9 (pc' := 10) rfl rfl rfl ?_
    refine xi_callV (As := [.int z]) (rest := []) (c_X8_noUser l D b n (C := C) (S := S) (x := z) hU) hC dX8_vector_10 (pc' := 13) rfl xw_m_X8_126 xw_c_X8_noUser xw_ins_X8_noUser xw_sel_X8_noUser xw_ini_X8 xd_X8_noUser (xH_at.trans (xsh_8 kd_oMod)) rfl ⟨Nat.le_of_ble_eq_true rfl, Nat.le_of_ble_eq_true rfl⟩ rfl (Nat.le_of_ble_eq_true rfl) ⟨Nat.le_of_ble_eq_true rfl, Nat.le_of_ble_eq_true rfl⟩ ?_
    rintro _ _ ⟨rfl, rfl⟩
    show xV _ _ _ _ _ _ _ _ _ _ _ _ _ _ _ _ _ (xH D b (jn C S)) _ _ [.int (bI (¬ isU u z))]
    refine xb_ifeq (tgt := 20) hC dX8_vector_13 (pc' := 16) rfl (by decide) (fun zc13 => ?_) (fun zc13 => ?_)
    · skip
      obtain ⟨i, hi, rfl⟩ := Classical.not_not.mp zc5
      obtain ⟨j, hj, rfl⟩ := Classical.not_not.mp zc13
      refine xi_iload_n hC dX8_vector_20 (pc' := 21) rfl rfl rfl ?_
      refine xi_iconst (v := nI 0) hC dX8_vector_21 (pc' := 22) rfl (by decide +kernel) ?_
      refine xi_iconst (v := nI 3) hC dX8_vector_22 (pc' := 23) rfl (by decide +kernel) ?_
      refine xi_callS (As := [.int y, .int (nI 0), .int (nI 3)]) (rest := []) (c_X8_in l D b n (C := C) (S := S) (x := y) (lo := (nI 0)) (hi := (nI 3))) hC dX8_vector_23 (pc' := 26) rfl xw_m_X8_83 xw_c_X8_in xw_sta_X8_in xw_ini_X8 xd_X8_in ⟨Nat.le_of_ble_eq_true rfl, Nat.le_of_ble_eq_true rfl⟩ rfl (Nat.le_of_ble_eq_true rfl) ⟨Nat.le_of_ble_eq_true rfl, Nat.le_of_ble_eq_true rfl⟩ ?_
      rintro _ _ ⟨rfl, rfl⟩
      show xV _ _ _ _ _ _ _ _ _ _ _ _ _ _ _ _ _ (xH D b (jn C S)) _ _ [.int (bI ((nI 0) ≤ y ∧ y ≤ (nI 3)))]
      refine xb_ifne (tgt := 33) hC dX8_vector_26 (pc' := 29) rfl (by decide) (fun zc26 => ?_) (fun zc26 => ?_)
      · skip
        rcases rng03 zc26 with rfl | rfl | rfl | rfl
        · skip
          refine xi_iload_n hC dX8_vector_33 (pc' := 34) rfl rfl rfl ?_
          refine xi_iconst (v := nI 2) hC dX8_vector_34 (pc' := 35) rfl (by decide +kernel) ?_
          refine xn_icmpge (tgt := 66) hC dX8_vector_35 (pc' := 38) rfl (by decide) (by omega) (by omega) (fun zc35 => ?_) (fun zc35 => ?_)
          · exact absurd zc35 (by decide)
          · skip
            refine xi_iload_n hC dX8_vector_38 (pc' := 39) rfl rfl rfl ?_
            refine xn_ifne (tgt := 55) hC dX8_vector_39 (pc' := 42) rfl (by decide) (by omega) (fun zc39 => ?_) (fun zc39 => ?_)
            · exact absurd zc39 (by decide)
            · skip
              refine xi_aload_n hC dX8_vector_42 (pc' := 43) rfl rfl rfl ?_
              refine xg8_signedOf hC dX8_vector_43 (pc' := 46) rfl xw_f_X8_35 kd_oMod ?_
              refine xi_iconst (v := nI 5) hC dX8_vector_46 (pc' := 47) rfl (by decide +kernel) ?_
              refine xi_iload_n hC dX8_vector_47 (pc' := 48) rfl rfl rfl ?_
              refine xn_imul hC dX8_vector_48 (pc' := 49) rfl ?_
              refine xi_iload_n hC dX8_vector_49 (pc' := 50) rfl rfl rfl ?_
              refine xn_iadd hC dX8_vector_50 (pc' := 51) rfl ?_
              refine xt_l_i hC dX8_vector_51 (pc' := 52) rfl (N := 25) kd_m_signedOf (by decide) (by decide) rfl (by omega) ?_
              refine xi_goto (tgt := 65) hC dX8_vector_52 (by decide) ?_
              refine xi_ireturn hC dX8_vector_65 hr rfl ?_
              refine ⟨_, rfl, ⟨fun q => absurd ⟨⟨i, hi, rfl⟩, ⟨j, hj, rfl⟩⟩ q, fun i' j' hi' hj' e1 e2 => ?_⟩, rfl⟩
              obtain rfl := nI_inj (by omega) (by omega) e1
              obtain rfl := nI_inj (by omega) (by omega) e2
              exact ⟨(by first | exact fun q => absurd q (by decide) | exact fun q => absurd (by decide) q | exact fun _ => rfl | exact fun _ => ⟨fun q => absurd q zc72, fun _ => rfl⟩ | exact fun _ => ⟨fun _ => rfl, fun q => absurd zc72 q⟩), (by first | exact fun q => absurd q (by decide) | exact fun q => absurd (by decide) q | exact fun _ => rfl | exact fun _ => ⟨fun q => absurd q zc72, fun _ => rfl⟩ | exact fun _ => ⟨fun _ => rfl, fun q => absurd zc72 q⟩), (by first | exact fun q => absurd q (by decide) | exact fun q => absurd (by decide) q | exact fun _ => rfl | exact fun _ => ⟨fun q => absurd q zc72, fun _ => rfl⟩ | exact fun _ => ⟨fun _ => rfl, fun q => absurd zc72 q⟩), (by first | exact fun q => absurd q (by decide) | exact fun q => absurd (by decide) q | exact fun _ => rfl | exact fun _ => ⟨fun q => absurd q zc72, fun _ => rfl⟩ | exact fun _ => ⟨fun _ => rfl, fun q => absurd zc72 q⟩), (by first | exact fun q => absurd q (by decide) | exact fun q => absurd (by decide) q | exact fun _ => rfl | exact fun _ => ⟨fun q => absurd q zc72, fun _ => rfl⟩ | exact fun _ => ⟨fun _ => rfl, fun q => absurd zc72 q⟩)⟩
        · skip
          refine xi_iload_n hC dX8_vector_33 (pc' := 34) rfl rfl rfl ?_
          refine xi_iconst (v := nI 2) hC dX8_vector_34 (pc' := 35) rfl (by decide +kernel) ?_
          refine xn_icmpge (tgt := 66) hC dX8_vector_35 (pc' := 38) rfl (by decide) (by omega) (by omega) (fun zc35 => ?_) (fun zc35 => ?_)
          · exact absurd zc35 (by decide)
          · skip
            refine xi_iload_n hC dX8_vector_38 (pc' := 39) rfl rfl rfl ?_
            refine xn_ifne (tgt := 55) hC dX8_vector_39 (pc' := 42) rfl (by decide) (by omega) (fun zc39 => ?_) (fun zc39 => ?_)
            · skip
              refine xi_aload_n hC dX8_vector_55 (pc' := 56) rfl rfl rfl ?_
              refine xg8_knownOf hC dX8_vector_56 (pc' := 59) rfl xw_f_X8_38 kd_oMod ?_
              refine xi_iconst (v := nI 5) hC dX8_vector_59 (pc' := 60) rfl (by decide +kernel) ?_
              refine xi_iload_n hC dX8_vector_60 (pc' := 61) rfl rfl rfl ?_
              refine xn_imul hC dX8_vector_61 (pc' := 62) rfl ?_
              refine xi_iload_n hC dX8_vector_62 (pc' := 63) rfl rfl rfl ?_
              refine xn_iadd hC dX8_vector_63 (pc' := 64) rfl ?_
              refine xt_l_i hC dX8_vector_64 (pc' := 65) rfl (N := 25) kd_m_knownOf (by decide) (by decide) rfl (by omega) ?_
              refine xi_ireturn hC dX8_vector_65 hr rfl ?_
              refine ⟨_, rfl, ⟨fun q => absurd ⟨⟨i, hi, rfl⟩, ⟨j, hj, rfl⟩⟩ q, fun i' j' hi' hj' e1 e2 => ?_⟩, rfl⟩
              obtain rfl := nI_inj (by omega) (by omega) e1
              obtain rfl := nI_inj (by omega) (by omega) e2
              exact ⟨(by first | exact fun q => absurd q (by decide) | exact fun q => absurd (by decide) q | exact fun _ => rfl | exact fun _ => ⟨fun q => absurd q zc72, fun _ => rfl⟩ | exact fun _ => ⟨fun _ => rfl, fun q => absurd zc72 q⟩), (by first | exact fun q => absurd q (by decide) | exact fun q => absurd (by decide) q | exact fun _ => rfl | exact fun _ => ⟨fun q => absurd q zc72, fun _ => rfl⟩ | exact fun _ => ⟨fun _ => rfl, fun q => absurd zc72 q⟩), (by first | exact fun q => absurd q (by decide) | exact fun q => absurd (by decide) q | exact fun _ => rfl | exact fun _ => ⟨fun q => absurd q zc72, fun _ => rfl⟩ | exact fun _ => ⟨fun _ => rfl, fun q => absurd zc72 q⟩), (by first | exact fun q => absurd q (by decide) | exact fun q => absurd (by decide) q | exact fun _ => rfl | exact fun _ => ⟨fun q => absurd q zc72, fun _ => rfl⟩ | exact fun _ => ⟨fun _ => rfl, fun q => absurd zc72 q⟩), (by first | exact fun q => absurd q (by decide) | exact fun q => absurd (by decide) q | exact fun _ => rfl | exact fun _ => ⟨fun q => absurd q zc72, fun _ => rfl⟩ | exact fun _ => ⟨fun _ => rfl, fun q => absurd zc72 q⟩)⟩
            · exact absurd zc39 (by decide)
        · skip
          refine xi_iload_n hC dX8_vector_33 (pc' := 34) rfl rfl rfl ?_
          refine xi_iconst (v := nI 2) hC dX8_vector_34 (pc' := 35) rfl (by decide +kernel) ?_
          refine xn_icmpge (tgt := 66) hC dX8_vector_35 (pc' := 38) rfl (by decide) (by omega) (by omega) (fun zc35 => ?_) (fun zc35 => ?_)
          · skip
            refine xi_aload_n hC dX8_vector_66 (pc' := 67) rfl rfl rfl ?_
            refine xg8_hasProof hC dX8_vector_67 (pc' := 70) rfl xw_f_X8_25 kd_oMod ?_
            refine xi_iload_n hC dX8_vector_70 (pc' := 71) rfl rfl rfl ?_
            refine xt_l_b hC dX8_vector_71 (pc' := 72) rfl (N := 5) kd_m_hasProof (by decide) (by decide) rfl (by omega) ?_
            refine xi_ifeq (tgt := 95) hC dX8_vector_72 (pc' := 75) rfl (by decide) (fun zc72 => ?_) (fun zc72 => ?_)
            · skip
              refine xi_sipush (v := -10005) hC dX8_vector_95 (pc' := 98) rfl (by decide +kernel) ?_
              refine xi_ireturn hC dX8_vector_98 hr rfl ?_
              refine ⟨_, rfl, ⟨fun q => absurd ⟨⟨i, hi, rfl⟩, ⟨j, hj, rfl⟩⟩ q, fun i' j' hi' hj' e1 e2 => ?_⟩, rfl⟩
              obtain rfl := nI_inj (by omega) (by omega) e1
              obtain rfl := nI_inj (by omega) (by omega) e2
              exact ⟨(by first | exact fun q => absurd q (by decide) | exact fun q => absurd (by decide) q | exact fun _ => rfl | exact fun _ => ⟨fun q => absurd q zc72, fun _ => rfl⟩ | exact fun _ => ⟨fun _ => rfl, fun q => absurd zc72 q⟩), (by first | exact fun q => absurd q (by decide) | exact fun q => absurd (by decide) q | exact fun _ => rfl | exact fun _ => ⟨fun q => absurd q zc72, fun _ => rfl⟩ | exact fun _ => ⟨fun _ => rfl, fun q => absurd zc72 q⟩), (by first | exact fun q => absurd q (by decide) | exact fun q => absurd (by decide) q | exact fun _ => rfl | exact fun _ => ⟨fun q => absurd q zc72, fun _ => rfl⟩ | exact fun _ => ⟨fun _ => rfl, fun q => absurd zc72 q⟩), (by first | exact fun q => absurd q (by decide) | exact fun q => absurd (by decide) q | exact fun _ => rfl | exact fun _ => ⟨fun q => absurd q zc72, fun _ => rfl⟩ | exact fun _ => ⟨fun _ => rfl, fun q => absurd zc72 q⟩), (by first | exact fun q => absurd q (by decide) | exact fun q => absurd (by decide) q | exact fun _ => rfl | exact fun _ => ⟨fun q => absurd q zc72, fun _ => rfl⟩ | exact fun _ => ⟨fun _ => rfl, fun q => absurd zc72 q⟩)⟩
            · skip
              refine xi_aload_n hC dX8_vector_75 (pc' := 76) rfl rfl rfl ?_
              refine xg8_proofOf hC dX8_vector_76 (pc' := 79) rfl xw_f_X8_32 kd_oMod ?_
              refine xi_bipush (v := nI 10) hC dX8_vector_79 (pc' := 81) rfl (by decide +kernel) ?_
              refine xi_iload_n hC dX8_vector_81 (pc' := 82) rfl rfl rfl ?_
              refine xn_imul hC dX8_vector_82 (pc' := 83) rfl ?_
              refine xi_iconst (v := nI 5) hC dX8_vector_83 (pc' := 84) rfl (by decide +kernel) ?_
              refine xi_iload_n hC dX8_vector_84 (pc' := 85) rfl rfl rfl ?_
              refine xi_iconst (v := nI 2) hC dX8_vector_85 (pc' := 86) rfl (by decide +kernel) ?_
              refine xn_isub hC dX8_vector_86 (pc' := 87) rfl (by omega) ?_
              refine xn_imul hC dX8_vector_87 (pc' := 88) rfl ?_
              refine xn_iadd hC dX8_vector_88 (pc' := 89) rfl ?_
              refine xi_iload_n hC dX8_vector_89 (pc' := 90) rfl rfl rfl ?_
              refine xn_iadd hC dX8_vector_90 (pc' := 91) rfl ?_
              refine xt_l_i hC dX8_vector_91 (pc' := 92) rfl (N := 50) kd_m_proofOf (by decide) (by decide) rfl (by omega) ?_
              refine xi_goto (tgt := 98) hC dX8_vector_92 (by decide) ?_
              refine xi_ireturn hC dX8_vector_98 hr rfl ?_
              refine ⟨_, rfl, ⟨fun q => absurd ⟨⟨i, hi, rfl⟩, ⟨j, hj, rfl⟩⟩ q, fun i' j' hi' hj' e1 e2 => ?_⟩, rfl⟩
              obtain rfl := nI_inj (by omega) (by omega) e1
              obtain rfl := nI_inj (by omega) (by omega) e2
              exact ⟨(by first | exact fun q => absurd q (by decide) | exact fun q => absurd (by decide) q | exact fun _ => rfl | exact fun _ => ⟨fun q => absurd q zc72, fun _ => rfl⟩ | exact fun _ => ⟨fun _ => rfl, fun q => absurd zc72 q⟩), (by first | exact fun q => absurd q (by decide) | exact fun q => absurd (by decide) q | exact fun _ => rfl | exact fun _ => ⟨fun q => absurd q zc72, fun _ => rfl⟩ | exact fun _ => ⟨fun _ => rfl, fun q => absurd zc72 q⟩), (by first | exact fun q => absurd q (by decide) | exact fun q => absurd (by decide) q | exact fun _ => rfl | exact fun _ => ⟨fun q => absurd q zc72, fun _ => rfl⟩ | exact fun _ => ⟨fun _ => rfl, fun q => absurd zc72 q⟩), (by first | exact fun q => absurd q (by decide) | exact fun q => absurd (by decide) q | exact fun _ => rfl | exact fun _ => ⟨fun q => absurd q zc72, fun _ => rfl⟩ | exact fun _ => ⟨fun _ => rfl, fun q => absurd zc72 q⟩), (by first | exact fun q => absurd q (by decide) | exact fun q => absurd (by decide) q | exact fun _ => rfl | exact fun _ => ⟨fun q => absurd q zc72, fun _ => rfl⟩ | exact fun _ => ⟨fun _ => rfl, fun q => absurd zc72 q⟩)⟩
          · exact absurd zc35 (by decide)
        · skip
          refine xi_iload_n hC dX8_vector_33 (pc' := 34) rfl rfl rfl ?_
          refine xi_iconst (v := nI 2) hC dX8_vector_34 (pc' := 35) rfl (by decide +kernel) ?_
          refine xn_icmpge (tgt := 66) hC dX8_vector_35 (pc' := 38) rfl (by decide) (by omega) (by omega) (fun zc35 => ?_) (fun zc35 => ?_)
          · skip
            refine xi_aload_n hC dX8_vector_66 (pc' := 67) rfl rfl rfl ?_
            refine xg8_hasProof hC dX8_vector_67 (pc' := 70) rfl xw_f_X8_25 kd_oMod ?_
            refine xi_iload_n hC dX8_vector_70 (pc' := 71) rfl rfl rfl ?_
            refine xt_l_b hC dX8_vector_71 (pc' := 72) rfl (N := 5) kd_m_hasProof (by decide) (by decide) rfl (by omega) ?_
            refine xi_ifeq (tgt := 95) hC dX8_vector_72 (pc' := 75) rfl (by decide) (fun zc72 => ?_) (fun zc72 => ?_)
            · skip
              refine xi_sipush (v := -10005) hC dX8_vector_95 (pc' := 98) rfl (by decide +kernel) ?_
              refine xi_ireturn hC dX8_vector_98 hr rfl ?_
              refine ⟨_, rfl, ⟨fun q => absurd ⟨⟨i, hi, rfl⟩, ⟨j, hj, rfl⟩⟩ q, fun i' j' hi' hj' e1 e2 => ?_⟩, rfl⟩
              obtain rfl := nI_inj (by omega) (by omega) e1
              obtain rfl := nI_inj (by omega) (by omega) e2
              exact ⟨(by first | exact fun q => absurd q (by decide) | exact fun q => absurd (by decide) q | exact fun _ => rfl | exact fun _ => ⟨fun q => absurd q zc72, fun _ => rfl⟩ | exact fun _ => ⟨fun _ => rfl, fun q => absurd zc72 q⟩), (by first | exact fun q => absurd q (by decide) | exact fun q => absurd (by decide) q | exact fun _ => rfl | exact fun _ => ⟨fun q => absurd q zc72, fun _ => rfl⟩ | exact fun _ => ⟨fun _ => rfl, fun q => absurd zc72 q⟩), (by first | exact fun q => absurd q (by decide) | exact fun q => absurd (by decide) q | exact fun _ => rfl | exact fun _ => ⟨fun q => absurd q zc72, fun _ => rfl⟩ | exact fun _ => ⟨fun _ => rfl, fun q => absurd zc72 q⟩), (by first | exact fun q => absurd q (by decide) | exact fun q => absurd (by decide) q | exact fun _ => rfl | exact fun _ => ⟨fun q => absurd q zc72, fun _ => rfl⟩ | exact fun _ => ⟨fun _ => rfl, fun q => absurd zc72 q⟩), (by first | exact fun q => absurd q (by decide) | exact fun q => absurd (by decide) q | exact fun _ => rfl | exact fun _ => ⟨fun q => absurd q zc72, fun _ => rfl⟩ | exact fun _ => ⟨fun _ => rfl, fun q => absurd zc72 q⟩)⟩
            · skip
              refine xi_aload_n hC dX8_vector_75 (pc' := 76) rfl rfl rfl ?_
              refine xg8_proofOf hC dX8_vector_76 (pc' := 79) rfl xw_f_X8_32 kd_oMod ?_
              refine xi_bipush (v := nI 10) hC dX8_vector_79 (pc' := 81) rfl (by decide +kernel) ?_
              refine xi_iload_n hC dX8_vector_81 (pc' := 82) rfl rfl rfl ?_
              refine xn_imul hC dX8_vector_82 (pc' := 83) rfl ?_
              refine xi_iconst (v := nI 5) hC dX8_vector_83 (pc' := 84) rfl (by decide +kernel) ?_
              refine xi_iload_n hC dX8_vector_84 (pc' := 85) rfl rfl rfl ?_
              refine xi_iconst (v := nI 2) hC dX8_vector_85 (pc' := 86) rfl (by decide +kernel) ?_
              refine xn_isub hC dX8_vector_86 (pc' := 87) rfl (by omega) ?_
              refine xn_imul hC dX8_vector_87 (pc' := 88) rfl ?_
              refine xn_iadd hC dX8_vector_88 (pc' := 89) rfl ?_
              refine xi_iload_n hC dX8_vector_89 (pc' := 90) rfl rfl rfl ?_
              refine xn_iadd hC dX8_vector_90 (pc' := 91) rfl ?_
              refine xt_l_i hC dX8_vector_91 (pc' := 92) rfl (N := 50) kd_m_proofOf (by decide) (by decide) rfl (by omega) ?_
              refine xi_goto (tgt := 98) hC dX8_vector_92 (by decide) ?_
              refine xi_ireturn hC dX8_vector_98 hr rfl ?_
              refine ⟨_, rfl, ⟨fun q => absurd ⟨⟨i, hi, rfl⟩, ⟨j, hj, rfl⟩⟩ q, fun i' j' hi' hj' e1 e2 => ?_⟩, rfl⟩
              obtain rfl := nI_inj (by omega) (by omega) e1
              obtain rfl := nI_inj (by omega) (by omega) e2
              exact ⟨(by first | exact fun q => absurd q (by decide) | exact fun q => absurd (by decide) q | exact fun _ => rfl | exact fun _ => ⟨fun q => absurd q zc72, fun _ => rfl⟩ | exact fun _ => ⟨fun _ => rfl, fun q => absurd zc72 q⟩), (by first | exact fun q => absurd q (by decide) | exact fun q => absurd (by decide) q | exact fun _ => rfl | exact fun _ => ⟨fun q => absurd q zc72, fun _ => rfl⟩ | exact fun _ => ⟨fun _ => rfl, fun q => absurd zc72 q⟩), (by first | exact fun q => absurd q (by decide) | exact fun q => absurd (by decide) q | exact fun _ => rfl | exact fun _ => ⟨fun q => absurd q zc72, fun _ => rfl⟩ | exact fun _ => ⟨fun _ => rfl, fun q => absurd zc72 q⟩), (by first | exact fun q => absurd q (by decide) | exact fun q => absurd (by decide) q | exact fun _ => rfl | exact fun _ => ⟨fun q => absurd q zc72, fun _ => rfl⟩ | exact fun _ => ⟨fun _ => rfl, fun q => absurd zc72 q⟩), (by first | exact fun q => absurd q (by decide) | exact fun q => absurd (by decide) q | exact fun _ => rfl | exact fun _ => ⟨fun q => absurd q zc72, fun _ => rfl⟩ | exact fun _ => ⟨fun _ => rfl, fun q => absurd zc72 q⟩)⟩
          · exact absurd zc35 (by decide)
      · skip
        refine xi_sipush (v := -10002) hC dX8_vector_29 (pc' := 32) rfl (by decide +kernel) ?_
        refine xi_ireturn hC dX8_vector_32 hr rfl ?_
        refine ⟨_, rfl, ⟨fun q => absurd ⟨⟨i, hi, rfl⟩, ⟨j, hj, rfl⟩⟩ q, fun i' j' hi' hj' e1 e2 => ?_⟩, rfl⟩
        obtain rfl := nI_inj (by omega) (by omega) e1
        obtain rfl := nI_inj (by omega) (by omega) e2
        exact ⟨fun _ => rfl, fun q => absurd (by rw [q]; decide) zc26, fun q => absurd (by rw [q]; decide) zc26, fun q => absurd (by rw [q]; decide) zc26, fun q => absurd (by rw [q]; decide) zc26⟩
    · skip
      refine xi_sipush (v := -10001) hC dX8_vector_16 (pc' := 19) rfl (by decide +kernel) ?_
      refine xi_ireturn hC dX8_vector_19 hr rfl ?_
      exact ⟨_, rfl, ⟨fun _ => rfl, fun i j h1 h2 e1 e2 => by first | exact absurd (show ∃ k, _ from ⟨j, h2, e2⟩) zc13 | exact absurd (show ∃ k, _ from ⟨i, h1, e1⟩) zc5⟩, rfl⟩

set_option maxRecDepth 100000 in
set_option maxHeartbeats 4000000 in
theorem c_X8_entry (l : Launch) (D : XD) (b n : Nat) {C S : XM} {u w : Nat} (hW : MW S u w) {x y z : Int32} : xM l yX8_entry cX8_entry 4 (some .int) 2 43 0 0 D b n [.ref (b + oMod), .int x, .int y, .int z] (xH D b (jn C S)) n (fun y' h' => ∃ r : Int32, y' = some (.int r) ∧ s_entry S u w x y z r ∧ h' = xH D b (jn C S)) := by
  refine xM.of (lv := [some (.ref (b + oMod)), some (.int x), some (.int y), some (.int z)]) (by decide +kernel) rfl (List.forall_mem_cons.mpr ⟨rfl, List.forall_mem_cons.mpr ⟨rfl, List.forall_mem_cons.mpr ⟨rfl, List.forall_mem_cons.mpr ⟨rfl, fun _ h => absurd h List.not_mem_nil⟩⟩⟩⟩) (Nat.le_of_ble_eq_true rfl) rfl ?_
  intro p e s m args below meth c hC hr hnm
  obtain ⟨hU, hN, hVw, hKp, hLt, hTx, hAl⟩ := id hW
  obtain ⟨hu, hu2, hu5⟩ := id hU
  obtain ⟨hn, hw1, hw6⟩ := id hN
  refine xi_aload_n hC dX8_entry_0 (pc' := 1) rfl rfl rfl ?_
  refine xi_iload_n hC dX8_entry_1 (pc' := 2) rfl rfl rfl ?_
  refine xi_callV (As := [.int x]) (rest := []) (c_X8_noView l D b n (C := C) (S := S) (x := x) hN) hC dX8_entry_2 (pc' := 5) rfl xw_m_X8_133 xw_c_X8_noView xw_ins_X8_noView xw_sel_X8_noView xw_ini_X8 xd_X8_noView (xH_at.trans (xsh_8 kd_oMod)) rfl ⟨Nat.le_of_ble_eq_true rfl, Nat.le_of_ble_eq_true rfl⟩ rfl (Nat.le_of_ble_eq_true rfl) ⟨Nat.le_of_ble_eq_true rfl, Nat.le_of_ble_eq_true rfl⟩ ?_
  rintro _ _ ⟨rfl, rfl⟩
  show xV _ _ _ _ _ _ _ _ _ _ _ _ _ _ _ _ _ (xH D b (jn C S)) _ _ [.int (bI (¬ isU w x))]
  refine xb_ifne (tgt := 24) hC dX8_entry_5 (pc' := 8) rfl (by decide) (fun zc5 => ?_) (fun zc5 => ?_)
  · skip
    refine xi_sipush (v := -10001) hC dX8_entry_24 (pc' := 27) rfl (by decide +kernel) ?_
    refine xi_goto (tgt := 42) hC dX8_entry_27 (by decide) ?_
    refine xi_ireturn hC dX8_entry_42 hr rfl ?_
    exact ⟨_, rfl, ⟨fun _ => rfl, fun v i j h1 h2 h3 e1 e2 e3 => by first | exact absurd (show ∃ k, _ from ⟨j, h3, e3⟩) zc21 | exact absurd (show ∃ k, _ from ⟨i, h2, e2⟩) zc13 | exact absurd (show ∃ k, _ from ⟨v, h1, e1⟩) zc5⟩, rfl⟩
  · skip
    refine xi_aload_n hC dX8_entry_8 (pc' := 9) rfl rfl rfl ?_
    refine xi_iload_n hC dX8_entry_9 (pc' := 10) rfl rfl rfl ?_
    refine xi_callV (As := [.int y]) (rest := []) (c_X8_noUser l D b n (C := C) (S := S) (x := y) hU) hC dX8_entry_10 (pc' := 13) rfl xw_m_X8_126 xw_c_X8_noUser xw_ins_X8_noUser xw_sel_X8_noUser xw_ini_X8 xd_X8_noUser (xH_at.trans (xsh_8 kd_oMod)) rfl ⟨Nat.le_of_ble_eq_true rfl, Nat.le_of_ble_eq_true rfl⟩ rfl (Nat.le_of_ble_eq_true rfl) ⟨Nat.le_of_ble_eq_true rfl, Nat.le_of_ble_eq_true rfl⟩ ?_
    rintro _ _ ⟨rfl, rfl⟩
    show xV _ _ _ _ _ _ _ _ _ _ _ _ _ _ _ _ _ (xH D b (jn C S)) _ _ [.int (bI (¬ isU u y))]
    refine xb_ifne (tgt := 24) hC dX8_entry_13 (pc' := 16) rfl (by decide) (fun zc13 => ?_) (fun zc13 => ?_)
    · skip
      refine xi_sipush (v := -10001) hC dX8_entry_24 (pc' := 27) rfl (by decide +kernel) ?_
      refine xi_goto (tgt := 42) hC dX8_entry_27 (by decide) ?_
      refine xi_ireturn hC dX8_entry_42 hr rfl ?_
      exact ⟨_, rfl, ⟨fun _ => rfl, fun v i j h1 h2 h3 e1 e2 e3 => by first | exact absurd (show ∃ k, _ from ⟨j, h3, e3⟩) zc21 | exact absurd (show ∃ k, _ from ⟨i, h2, e2⟩) zc13 | exact absurd (show ∃ k, _ from ⟨v, h1, e1⟩) zc5⟩, rfl⟩
    · skip
      refine xi_aload_n hC dX8_entry_16 (pc' := 17) rfl rfl rfl ?_
      refine xi_iload_n hC dX8_entry_17 (pc' := 18) rfl rfl rfl ?_
      refine xi_callV (As := [.int z]) (rest := []) (c_X8_noUser l D b n (C := C) (S := S) (x := z) hU) hC dX8_entry_18 (pc' := 21) rfl xw_m_X8_126 xw_c_X8_noUser xw_ins_X8_noUser xw_sel_X8_noUser xw_ini_X8 xd_X8_noUser (xH_at.trans (xsh_8 kd_oMod)) rfl ⟨Nat.le_of_ble_eq_true rfl, Nat.le_of_ble_eq_true rfl⟩ rfl (Nat.le_of_ble_eq_true rfl) ⟨Nat.le_of_ble_eq_true rfl, Nat.le_of_ble_eq_true rfl⟩ ?_
      rintro _ _ ⟨rfl, rfl⟩
      show xV _ _ _ _ _ _ _ _ _ _ _ _ _ _ _ _ _ (xH D b (jn C S)) _ _ [.int (bI (¬ isU u z))]
      refine xb_ifeq (tgt := 30) hC dX8_entry_21 (pc' := 24) rfl (by decide) (fun zc21 => ?_) (fun zc21 => ?_)
      · skip
        obtain ⟨v, hv, rfl⟩ := Classical.not_not.mp zc5
        obtain ⟨i, hi, rfl⟩ := Classical.not_not.mp zc13
        obtain ⟨j, hj, rfl⟩ := Classical.not_not.mp zc21
        refine xi_aload_n hC dX8_entry_30 (pc' := 31) rfl rfl rfl ?_
        refine xg8_row hC dX8_entry_31 (pc' := 34) rfl xw_f_X8_7 kd_oMod ?_
        refine xi_iload_n hC dX8_entry_34 (pc' := 35) rfl rfl rfl ?_
        refine xi_iload_n hC dX8_entry_35 (pc' := 36) rfl rfl rfl ?_
        refine xi_callS (As := [.int (nI v), .int (nI i)]) (rest := [.ref (b + m_row)]) (c_X8_entryAt l D b n (C := C) (S := S) (a := v) (c := i)) hC dX8_entry_36 (pc' := 39) rfl xw_m_X8_94 xw_c_X8_entryAt xw_sta_X8_entryAt xw_ini_X8 xd_X8_entryAt ⟨Nat.le_of_ble_eq_true rfl, Nat.le_of_ble_eq_true rfl⟩ rfl (Nat.le_of_ble_eq_true rfl) ⟨Nat.le_of_ble_eq_true rfl, Nat.le_of_ble_eq_true rfl⟩ ?_
        rintro _ _ ⟨rfl, rfl⟩
        show xV _ _ _ _ _ _ _ _ _ _ _ _ _ _ _ _ _ (xH D b (jn C S)) _ _ [.int (nI (30 * v + 5 * i)), .ref (b + m_row)]
        refine xi_iload_n hC dX8_entry_39 (pc' := 40) rfl rfl rfl ?_
        refine xn_iadd hC dX8_entry_40 (pc' := 41) rfl ?_
        refine xt_l_i hC dX8_entry_41 (pc' := 42) rfl (N := 180) kd_m_row (by decide) (by decide) rfl (by omega) ?_
        refine xi_ireturn hC dX8_entry_42 hr rfl ?_
        refine ⟨_, rfl, ⟨fun q => absurd ⟨⟨v, hv, rfl⟩, ⟨i, hi, rfl⟩, ⟨j, hj, rfl⟩⟩ q, fun v' i' j' hv' hi' hj' e1 e2 e3 => ?_⟩, rfl⟩
        obtain rfl := nI_inj (by omega) (by omega) e1
        obtain rfl := nI_inj (by omega) (by omega) e2
        obtain rfl := nI_inj (by omega) (by omega) e3
        rfl
      · skip
        refine xi_sipush (v := -10001) hC dX8_entry_24 (pc' := 27) rfl (by decide +kernel) ?_
        refine xi_goto (tgt := 42) hC dX8_entry_27 (by decide) ?_
        refine xi_ireturn hC dX8_entry_42 hr rfl ?_
        exact ⟨_, rfl, ⟨fun _ => rfl, fun v i j h1 h2 h3 e1 e2 e3 => by first | exact absurd (show ∃ k, _ from ⟨j, h3, e3⟩) zc21 | exact absurd (show ∃ k, _ from ⟨i, h2, e2⟩) zc13 | exact absurd (show ∃ k, _ from ⟨v, h1, e1⟩) zc5⟩, rfl⟩

set_option maxRecDepth 100000 in
set_option maxHeartbeats 4000000 in
theorem c_X8_content (l : Launch) (D : XD) (b n : Nat) {C S : XM} {u w : Nat} (hW : MW S u w) {x y : Int32} : xM l yX8_content cX8_content 3 (some .int) 2 43 0 0 D b n [.ref (b + oMod), .int x, .int y] (xH D b (jn C S)) n (fun y' h' => ∃ r : Int32, y' = some (.int r) ∧ s_content S u w x y r ∧ h' = xH D b (jn C S)) := by
  refine xM.of (lv := [some (.ref (b + oMod)), some (.int x), some (.int y)]) (by decide +kernel) rfl (List.forall_mem_cons.mpr ⟨rfl, List.forall_mem_cons.mpr ⟨rfl, List.forall_mem_cons.mpr ⟨rfl, fun _ h => absurd h List.not_mem_nil⟩⟩⟩) (Nat.le_of_ble_eq_true rfl) rfl ?_
  intro p e s m args below meth c hC hr hnm
  obtain ⟨hU, hN, hVw, hKp, hLt, hTx, hAl⟩ := id hW
  obtain ⟨hu, hu2, hu5⟩ := id hU
  obtain ⟨hn, hw1, hw6⟩ := id hN
  refine xi_aload_n hC dX8_content_0 (pc' := 1) rfl rfl rfl ?_
  refine xi_iload_n hC dX8_content_1 (pc' := 2) rfl rfl rfl ?_
  refine xi_callV (As := [.int x]) (rest := []) (c_X8_noView l D b n (C := C) (S := S) (x := x) hN) hC dX8_content_2 (pc' := 5) rfl xw_m_X8_133 xw_c_X8_noView xw_ins_X8_noView xw_sel_X8_noView xw_ini_X8 xd_X8_noView (xH_at.trans (xsh_8 kd_oMod)) rfl ⟨Nat.le_of_ble_eq_true rfl, Nat.le_of_ble_eq_true rfl⟩ rfl (Nat.le_of_ble_eq_true rfl) ⟨Nat.le_of_ble_eq_true rfl, Nat.le_of_ble_eq_true rfl⟩ ?_
  rintro _ _ ⟨rfl, rfl⟩
  show xV _ _ _ _ _ _ _ _ _ _ _ _ _ _ _ _ _ (xH D b (jn C S)) _ _ [.int (bI (¬ isU w x))]
  refine xb_ifne (tgt := 16) hC dX8_content_5 (pc' := 8) rfl (by decide) (fun zc5 => ?_) (fun zc5 => ?_)
  · skip
    refine xi_sipush (v := -10001) hC dX8_content_16 (pc' := 19) rfl (by decide +kernel) ?_
    refine xi_goto (tgt := 36) hC dX8_content_19 (by decide) ?_
    refine xi_ireturn hC dX8_content_36 hr rfl ?_
    exact ⟨_, rfl, ⟨fun _ => rfl, fun v i h1 h2 e1 e2 => by first | exact absurd (show ∃ k, _ from ⟨i, h2, e2⟩) zc13 | exact absurd (show ∃ k, _ from ⟨v, h1, e1⟩) zc5⟩, rfl⟩
  · skip
    refine xi_aload_n hC dX8_content_8 (pc' := 9) rfl rfl rfl ?_
    refine xi_iload_n hC dX8_content_9 (pc' := 10) rfl rfl rfl ?_
    refine xi_callV (As := [.int y]) (rest := []) (c_X8_noUser l D b n (C := C) (S := S) (x := y) hU) hC dX8_content_10 (pc' := 13) rfl xw_m_X8_126 xw_c_X8_noUser xw_ins_X8_noUser xw_sel_X8_noUser xw_ini_X8 xd_X8_noUser (xH_at.trans (xsh_8 kd_oMod)) rfl ⟨Nat.le_of_ble_eq_true rfl, Nat.le_of_ble_eq_true rfl⟩ rfl (Nat.le_of_ble_eq_true rfl) ⟨Nat.le_of_ble_eq_true rfl, Nat.le_of_ble_eq_true rfl⟩ ?_
    rintro _ _ ⟨rfl, rfl⟩
    show xV _ _ _ _ _ _ _ _ _ _ _ _ _ _ _ _ _ (xH D b (jn C S)) _ _ [.int (bI (¬ isU u y))]
    refine xb_ifeq (tgt := 22) hC dX8_content_13 (pc' := 16) rfl (by decide) (fun zc13 => ?_) (fun zc13 => ?_)
    · skip
      obtain ⟨v, hv, rfl⟩ := Classical.not_not.mp zc5
      obtain ⟨i, hi, rfl⟩ := Classical.not_not.mp zc13
      refine xi_aload_n hC dX8_content_22 (pc' := 23) rfl rfl rfl ?_
      refine xg8_row hC dX8_content_23 (pc' := 26) rfl xw_f_X8_7 kd_oMod ?_
      refine xi_bipush (v := nI 30) hC dX8_content_26 (pc' := 28) rfl (by decide +kernel) ?_
      refine xi_iload_n hC dX8_content_28 (pc' := 29) rfl rfl rfl ?_
      refine xn_imul hC dX8_content_29 (pc' := 30) rfl ?_
      refine xi_bipush (v := nI 25) hC dX8_content_30 (pc' := 32) rfl (by decide +kernel) ?_
      refine xn_iadd hC dX8_content_32 (pc' := 33) rfl ?_
      refine xi_iload_n hC dX8_content_33 (pc' := 34) rfl rfl rfl ?_
      refine xn_iadd hC dX8_content_34 (pc' := 35) rfl ?_
      refine xt_l_i hC dX8_content_35 (pc' := 36) rfl (N := 180) kd_m_row (by decide) (by decide) rfl (by omega) ?_
      refine xi_ireturn hC dX8_content_36 hr rfl ?_
      refine ⟨_, rfl, ⟨fun q => absurd ⟨⟨v, hv, rfl⟩, ⟨i, hi, rfl⟩⟩ q, fun v' i' hv' hi' e1 e2 => ?_⟩, rfl⟩
      obtain rfl := nI_inj (by omega) (by omega) e1
      obtain rfl := nI_inj (by omega) (by omega) e2
      rfl
    · skip
      refine xi_sipush (v := -10001) hC dX8_content_16 (pc' := 19) rfl (by decide +kernel) ?_
      refine xi_goto (tgt := 36) hC dX8_content_19 (by decide) ?_
      refine xi_ireturn hC dX8_content_36 hr rfl ?_
      exact ⟨_, rfl, ⟨fun _ => rfl, fun v i h1 h2 e1 e2 => by first | exact absurd (show ∃ k, _ from ⟨i, h2, e2⟩) zc13 | exact absurd (show ∃ k, _ from ⟨v, h1, e1⟩) zc5⟩, rfl⟩

set_option maxRecDepth 100000 in
set_option maxHeartbeats 4000000 in
theorem c_X8_view (l : Launch) (D : XD) (b n : Nat) {C S : XM} {u w : Nat} (hW : MW S u w) {x y : Int32} : xM l yX8_view cX8_view 6 (some .int) 3 73 0 0 D b n [.ref (b + oMod), .int x, .int y] (xH D b (jn C S)) n (fun y' h' => ∃ (r : Int32) (T : XM), y' = some (.int r) ∧ s_view S u w x y r T ∧ h' = xH D b (jn C T)) := by
  refine xM.of (lv := [some (.ref (b + oMod)), some (.int x), some (.int y), none, none, none]) (by decide +kernel) rfl (List.forall_mem_cons.mpr ⟨rfl, List.forall_mem_cons.mpr ⟨rfl, List.forall_mem_cons.mpr ⟨rfl, fun _ h => absurd h List.not_mem_nil⟩⟩⟩) (Nat.le_of_ble_eq_true rfl) rfl ?_
  intro p e s m args below meth c hC hr hnm
  obtain ⟨hU, hN, hVw, hKp, hLt, hTx, hAl⟩ := id hW
  obtain ⟨hu, hu2, hu5⟩ := id hU
  obtain ⟨hn, hw1, hw6⟩ := id hN
  refine xi_aload_n hC dX8_view_0 (pc' := 1) rfl rfl rfl ?_
  refine xi_iload_n hC dX8_view_1 (pc' := 2) rfl rfl rfl ?_
  refine xi_callV (As := [.int x]) (rest := []) (c_X8_noView l D b n (C := C) (S := S) (x := x) hN) hC dX8_view_2 (pc' := 5) rfl xw_m_X8_133 xw_c_X8_noView xw_ins_X8_noView xw_sel_X8_noView xw_ini_X8 xd_X8_noView (xH_at.trans (xsh_8 kd_oMod)) rfl ⟨Nat.le_of_ble_eq_true rfl, Nat.le_of_ble_eq_true rfl⟩ rfl (Nat.le_of_ble_eq_true rfl) ⟨Nat.le_of_ble_eq_true rfl, Nat.le_of_ble_eq_true rfl⟩ ?_
  rintro _ _ ⟨rfl, rfl⟩
  show xV _ _ _ _ _ _ _ _ _ _ _ _ _ _ _ _ _ (xH D b (jn C S)) _ _ [.int (bI (¬ isU w x))]
  refine xb_ifeq (tgt := 12) hC dX8_view_5 (pc' := 8) rfl (by decide) (fun zc5 => ?_) (fun zc5 => ?_)
  · skip
    obtain ⟨v, hv, rfl⟩ := Classical.not_not.mp zc5
    refine xi_aload_n hC dX8_view_12 (pc' := 13) rfl rfl rfl ?_
    refine xi_iload_n hC dX8_view_13 (pc' := 14) rfl rfl rfl ?_
    refine xi_callV (As := [.int (nI v)]) (rest := []) (c_X8_greatest l D b n (C := C) (S := S) (u := u) (v := v) hU (by omega)) hC dX8_view_14 (pc' := 17) rfl xw_m_X8_104 xw_c_X8_greatest xw_ins_X8_greatest xw_sel_X8_greatest xw_ini_X8 xd_X8_greatest (xH_at.trans (xsh_8 kd_oMod)) rfl ⟨Nat.le_of_ble_eq_true rfl, Nat.le_of_ble_eq_true rfl⟩ rfl (Nat.le_of_ble_eq_true rfl) ⟨Nat.le_of_ble_eq_true rfl, Nat.le_of_ble_eq_true rfl⟩ ?_
    rintro _ _ ⟨xg_2, T_1, rfl, hSp_3, hG_4, rfl⟩
    show xV _ _ _ _ _ _ _ _ _ _ _ _ _ _ _ _ _ (xH D b (jn C T_1)) _ _ [.int xg_2]
    rcases hG_4 with ⟨a, c, q1, q2, q3, rfl⟩ | ⟨q1, rfl⟩
    · skip
      refine xi_istore_n (lv' := [some (.ref (b + oMod)), some (.int (nI v)), some (.int y), some (.int (-10005)), none, none]) hC dX8_view_17 (pc' := 18) rfl rfl (by decide) rfl ?_
      refine xi_iconst (v := nI 0) hC dX8_view_18 (pc' := 19) rfl (by decide +kernel) ?_
      refine xi_istore (lv' := [some (.ref (b + oMod)), some (.int (nI v)), some (.int y), some (.int (-10005)), some (.int (nI 0)), none]) hC dX8_view_19 (pc' := 21) rfl (by decide) rfl ?_
      refine xi_iconst (v := nI 0) hC dX8_view_21 (pc' := 22) rfl (by decide +kernel) ?_
      refine xi_istore (lv' := [some (.ref (b + oMod)), some (.int (nI v)), some (.int y), some (.int (-10005)), some (.int (nI 0)), some (.int (nI 0))]) hC dX8_view_22 (pc' := 24) rfl (by decide) rfl ?_
      refine xi_iload hC dX8_view_24 (pc' := 26) rfl rfl ?_
      refine xi_aload_n hC dX8_view_26 (pc' := 27) rfl rfl rfl ?_
      refine xt_g_users hC dX8_view_27 (pc' := 30) rfl xw_f_X8_73 ?_
      refine xtop (y := (nI u)) ((hSp_3.2 0 (by decide) (by decide)).trans hu) ?_
      refine xn_icmpge (tgt := 61) hC dX8_view_30 (pc' := 33) rfl (by decide) (by omega) (by omega) (fun zc30 => ?_) (fun zc30 => ?_)
      · skip
        refine xi_iload_n hC dX8_view_61 (pc' := 62) rfl rfl rfl ?_
        by_cases zt62 : y.toInt < 0 ∨ 3 < y.toInt
        · refine xi_tableOut (tgt := 128) hC dX8_view_62 zt62 (by decide) ?_
          refine xi_sipush (v := -10002) hC dX8_view_128 (pc' := 131) rfl (by decide +kernel) ?_
          refine xi_ireturn hC dX8_view_131 hr rfl ?_
          refine ⟨_, _, rfl, ⟨hSp_3, fun q => absurd ⟨v, hv, rfl⟩ q, fun v' hv' e1 => ?_⟩, rfl⟩
          obtain rfl := nI_inj (by omega) (by omega) e1
          exact ⟨(by first | exact fun q => absurd (zx62.symm.trans q) (by decide) | exact fun _ => rfl | exact fun q => absurd zt62 (by rw [q]; decide) | exact fun q => absurd q (by rw [zx62]; decide) | exact fun _ => (show bitM (fun i => T_1 m_viewOf i = nI v) u = bitM (fun i => S m_viewOf i = nI v) u from by rw [hSp_3.1 m_viewOf (by decide)]) | exact fun _ => ⟨fun _ => rfl, fun q => absurd (fst_fkd q1) q⟩), (by first | exact fun q => absurd (zx62.symm.trans q) (by decide) | exact fun _ => rfl | exact fun q => absurd zt62 (by rw [q]; decide) | exact fun q => absurd q (by rw [zx62]; decide) | exact fun _ => (show bitM (fun i => T_1 m_viewOf i = nI v) u = bitM (fun i => S m_viewOf i = nI v) u from by rw [hSp_3.1 m_viewOf (by decide)]) | exact fun _ => ⟨fun _ => rfl, fun q => absurd (fst_fkd q1) q⟩), (by first | exact fun q => absurd (zx62.symm.trans q) (by decide) | exact fun _ => rfl | exact fun q => absurd zt62 (by rw [q]; decide) | exact fun q => absurd q (by rw [zx62]; decide) | exact fun _ => (show bitM (fun i => T_1 m_viewOf i = nI v) u = bitM (fun i => S m_viewOf i = nI v) u from by rw [hSp_3.1 m_viewOf (by decide)]) | exact fun _ => ⟨fun _ => rfl, fun q => absurd (fst_fkd q1) q⟩), (by first | exact fun q => absurd (zx62.symm.trans q) (by decide) | exact fun _ => rfl | exact fun q => absurd zt62 (by rw [q]; decide) | exact fun q => absurd q (by rw [zx62]; decide) | exact fun _ => (show bitM (fun i => T_1 m_viewOf i = nI v) u = bitM (fun i => S m_viewOf i = nI v) u from by rw [hSp_3.1 m_viewOf (by decide)]) | exact fun _ => ⟨fun _ => rfl, fun q => absurd (fst_fkd q1) q⟩), (by first | exact fun q => absurd (zx62.symm.trans q) (by decide) | exact fun _ => rfl | exact fun q => absurd zt62 (by rw [q]; decide) | exact fun q => absurd q (by rw [zx62]; decide) | exact fun _ => (show bitM (fun i => T_1 m_viewOf i = nI v) u = bitM (fun i => S m_viewOf i = nI v) u from by rw [hSp_3.1 m_viewOf (by decide)]) | exact fun _ => ⟨fun _ => rfl, fun q => absurd (fst_fkd q1) q⟩)⟩
        · rcases xtab_0_3 zt62 with zx62 | zx62 | zx62 | zx62
          · refine xi_tableIn (tgt := 92) (off := 30) hC dX8_view_62 (by rw [zx62]; decide) (by rw [zx62]; decide) (by rw [zx62]; rfl) (by decide) ?_
            refine xi_aload_n hC dX8_view_92 (pc' := 93) rfl rfl rfl ?_
            refine xi_iload_n hC dX8_view_93 (pc' := 94) rfl rfl rfl ?_
            refine xi_callV (As := [.int (nI v)]) (rest := []) (c_X8_attached l D b n (C := C) (S := T_1) (u := u) (x := (nI v)) (hSp_3.mu hU)) hC dX8_view_94 (pc' := 97) rfl xw_m_X8_136 xw_c_X8_attached xw_ins_X8_attached xw_sel_X8_attached xw_ini_X8 xd_X8_attached (xH_at.trans (xsh_8 kd_oMod)) rfl ⟨Nat.le_of_ble_eq_true rfl, Nat.le_of_ble_eq_true rfl⟩ rfl (Nat.le_of_ble_eq_true rfl) ⟨Nat.le_of_ble_eq_true rfl, Nat.le_of_ble_eq_true rfl⟩ ?_
            rintro _ _ ⟨rfl, rfl⟩
            show xV _ _ _ _ _ _ _ _ _ _ _ _ _ _ _ _ _ (xH D b (jn C T_1)) _ _ [.int (attM T_1 (nI v) u)]
            refine xi_ireturn hC dX8_view_97 hr rfl ?_
            refine ⟨_, _, rfl, ⟨hSp_3, fun q => absurd ⟨v, hv, rfl⟩ q, fun v' hv' e1 => ?_⟩, rfl⟩
            obtain rfl := nI_inj (by omega) (by omega) e1
            exact ⟨(by first | exact fun q => absurd (zx62.symm.trans q) (by decide) | exact fun _ => rfl | exact fun q => absurd zt62 (by rw [q]; decide) | exact fun q => absurd q (by rw [zx62]; decide) | exact fun _ => (show bitM (fun i => T_1 m_viewOf i = nI v) u = bitM (fun i => S m_viewOf i = nI v) u from by rw [hSp_3.1 m_viewOf (by decide)]) | exact fun _ => ⟨fun _ => rfl, fun q => absurd (fst_fkd q1) q⟩), (by first | exact fun q => absurd (zx62.symm.trans q) (by decide) | exact fun _ => rfl | exact fun q => absurd zt62 (by rw [q]; decide) | exact fun q => absurd q (by rw [zx62]; decide) | exact fun _ => (show bitM (fun i => T_1 m_viewOf i = nI v) u = bitM (fun i => S m_viewOf i = nI v) u from by rw [hSp_3.1 m_viewOf (by decide)]) | exact fun _ => ⟨fun _ => rfl, fun q => absurd (fst_fkd q1) q⟩), (by first | exact fun q => absurd (zx62.symm.trans q) (by decide) | exact fun _ => rfl | exact fun q => absurd zt62 (by rw [q]; decide) | exact fun q => absurd q (by rw [zx62]; decide) | exact fun _ => (show bitM (fun i => T_1 m_viewOf i = nI v) u = bitM (fun i => S m_viewOf i = nI v) u from by rw [hSp_3.1 m_viewOf (by decide)]) | exact fun _ => ⟨fun _ => rfl, fun q => absurd (fst_fkd q1) q⟩), (by first | exact fun q => absurd (zx62.symm.trans q) (by decide) | exact fun _ => rfl | exact fun q => absurd zt62 (by rw [q]; decide) | exact fun q => absurd q (by rw [zx62]; decide) | exact fun _ => (show bitM (fun i => T_1 m_viewOf i = nI v) u = bitM (fun i => S m_viewOf i = nI v) u from by rw [hSp_3.1 m_viewOf (by decide)]) | exact fun _ => ⟨fun _ => rfl, fun q => absurd (fst_fkd q1) q⟩), (by first | exact fun q => absurd (zx62.symm.trans q) (by decide) | exact fun _ => rfl | exact fun q => absurd zt62 (by rw [q]; decide) | exact fun q => absurd q (by rw [zx62]; decide) | exact fun _ => (show bitM (fun i => T_1 m_viewOf i = nI v) u = bitM (fun i => S m_viewOf i = nI v) u from by rw [hSp_3.1 m_viewOf (by decide)]) | exact fun _ => ⟨fun _ => rfl, fun q => absurd (fst_fkd q1) q⟩)⟩
          · refine xi_tableIn (tgt := 98) (off := 36) hC dX8_view_62 (by rw [zx62]; decide) (by rw [zx62]; decide) (by rw [zx62]; rfl) (by decide) ?_
            refine xi_aload_n hC dX8_view_98 (pc' := 99) rfl rfl rfl ?_
            refine xg8_keptOf hC dX8_view_99 (pc' := 102) rfl xw_f_X8_13 kd_oMod ?_
            refine xi_iload_n hC dX8_view_102 (pc' := 103) rfl rfl rfl ?_
            refine xt_l_i hC dX8_view_103 (pc' := 104) rfl (N := 6) kd_m_keptOf (by decide) (by decide) rfl (by omega) ?_
            refine xtop (y := (S m_keptOf v)) (by rw [hSp_3.1 m_keptOf (by first | (simp only [oMs, oVws, oScr, oSgn, oMod, oMem, oSig, oKno, oPro, oBox, oFst, oSnd, oLts, oLet, oNum, oVw, oEnt, oBef, oBk, oVs, oCon, oVec, m_row, m_keptOf, m_keptRow, m_viewOf, m_alarmOf, m_hasProof, m_depthOf, m_proofOf, m_signedOf, m_knownOf, m_doneOf, m_shownTo, m_sentBy, m_hasRead, m_readOf, m_lettersOf, m_letter, m_hand, m_text] <;> omega) | decide | omega | (simp only [oMs, oVws, oScr, oSgn, oMod, oMem, oSig, oKno, oPro, oBox, oFst, oSnd, oLts, oLet, oNum, oVw, oEnt, oBef, oBk, oVs, oCon, oVec, m_row, m_keptOf, m_keptRow, m_viewOf, m_alarmOf, m_hasProof, m_depthOf, m_proofOf, m_signedOf, m_knownOf, m_doneOf, m_shownTo, m_sentBy, m_hasRead, m_readOf, m_lettersOf, m_letter, m_hand, m_text] at * <;> omega))]) ?_
            refine xi_ireturn hC dX8_view_104 hr rfl ?_
            refine ⟨_, _, rfl, ⟨hSp_3, fun q => absurd ⟨v, hv, rfl⟩ q, fun v' hv' e1 => ?_⟩, rfl⟩
            obtain rfl := nI_inj (by omega) (by omega) e1
            exact ⟨(by first | exact fun q => absurd (zx62.symm.trans q) (by decide) | exact fun _ => rfl | exact fun q => absurd zt62 (by rw [q]; decide) | exact fun q => absurd q (by rw [zx62]; decide) | exact fun _ => (show bitM (fun i => T_1 m_viewOf i = nI v) u = bitM (fun i => S m_viewOf i = nI v) u from by rw [hSp_3.1 m_viewOf (by decide)]) | exact fun _ => ⟨fun _ => rfl, fun q => absurd (fst_fkd q1) q⟩), (by first | exact fun q => absurd (zx62.symm.trans q) (by decide) | exact fun _ => rfl | exact fun q => absurd zt62 (by rw [q]; decide) | exact fun q => absurd q (by rw [zx62]; decide) | exact fun _ => (show bitM (fun i => T_1 m_viewOf i = nI v) u = bitM (fun i => S m_viewOf i = nI v) u from by rw [hSp_3.1 m_viewOf (by decide)]) | exact fun _ => ⟨fun _ => rfl, fun q => absurd (fst_fkd q1) q⟩), (by first | exact fun q => absurd (zx62.symm.trans q) (by decide) | exact fun _ => rfl | exact fun q => absurd zt62 (by rw [q]; decide) | exact fun q => absurd q (by rw [zx62]; decide) | exact fun _ => (show bitM (fun i => T_1 m_viewOf i = nI v) u = bitM (fun i => S m_viewOf i = nI v) u from by rw [hSp_3.1 m_viewOf (by decide)]) | exact fun _ => ⟨fun _ => rfl, fun q => absurd (fst_fkd q1) q⟩), (by first | exact fun q => absurd (zx62.symm.trans q) (by decide) | exact fun _ => rfl | exact fun q => absurd zt62 (by rw [q]; decide) | exact fun q => absurd q (by rw [zx62]; decide) | exact fun _ => (show bitM (fun i => T_1 m_viewOf i = nI v) u = bitM (fun i => S m_viewOf i = nI v) u from by rw [hSp_3.1 m_viewOf (by decide)]) | exact fun _ => ⟨fun _ => rfl, fun q => absurd (fst_fkd q1) q⟩), (by first | exact fun q => absurd (zx62.symm.trans q) (by decide) | exact fun _ => rfl | exact fun q => absurd zt62 (by rw [q]; decide) | exact fun q => absurd q (by rw [zx62]; decide) | exact fun _ => (show bitM (fun i => T_1 m_viewOf i = nI v) u = bitM (fun i => S m_viewOf i = nI v) u from by rw [hSp_3.1 m_viewOf (by decide)]) | exact fun _ => ⟨fun _ => rfl, fun q => absurd (fst_fkd q1) q⟩)⟩
          · refine xi_tableIn (tgt := 105) (off := 43) hC dX8_view_62 (by rw [zx62]; decide) (by rw [zx62]; decide) (by rw [zx62]; rfl) (by decide) ?_
            refine xi_iload_n hC dX8_view_105 (pc' := 106) rfl rfl rfl ?_
            refine xi_iflt (tgt := 113) hC dX8_view_106 (pc' := 109) rfl (by decide) (fun zc106 => ?_) (fun zc106 => ?_)
            · skip
              refine xi_iconst (v := nI 0) hC dX8_view_113 (pc' := 114) rfl (by decide +kernel) ?_
              refine xi_ireturn hC dX8_view_114 hr rfl ?_
              refine ⟨_, _, rfl, ⟨hSp_3, fun q => absurd ⟨v, hv, rfl⟩ q, fun v' hv' e1 => ?_⟩, rfl⟩
              obtain rfl := nI_inj (by omega) (by omega) e1
              exact ⟨(by first | exact fun q => absurd (zx62.symm.trans q) (by decide) | exact fun _ => rfl | exact fun q => absurd zt62 (by rw [q]; decide) | exact fun q => absurd q (by rw [zx62]; decide) | exact fun _ => (show bitM (fun i => T_1 m_viewOf i = nI v) u = bitM (fun i => S m_viewOf i = nI v) u from by rw [hSp_3.1 m_viewOf (by decide)]) | exact fun _ => ⟨fun _ => rfl, fun q => absurd (fst_fkd q1) q⟩), (by first | exact fun q => absurd (zx62.symm.trans q) (by decide) | exact fun _ => rfl | exact fun q => absurd zt62 (by rw [q]; decide) | exact fun q => absurd q (by rw [zx62]; decide) | exact fun _ => (show bitM (fun i => T_1 m_viewOf i = nI v) u = bitM (fun i => S m_viewOf i = nI v) u from by rw [hSp_3.1 m_viewOf (by decide)]) | exact fun _ => ⟨fun _ => rfl, fun q => absurd (fst_fkd q1) q⟩), (by first | exact fun q => absurd (zx62.symm.trans q) (by decide) | exact fun _ => rfl | exact fun q => absurd zt62 (by rw [q]; decide) | exact fun q => absurd q (by rw [zx62]; decide) | exact fun _ => (show bitM (fun i => T_1 m_viewOf i = nI v) u = bitM (fun i => S m_viewOf i = nI v) u from by rw [hSp_3.1 m_viewOf (by decide)]) | exact fun _ => ⟨fun _ => rfl, fun q => absurd (fst_fkd q1) q⟩), (by first | exact fun q => absurd (zx62.symm.trans q) (by decide) | exact fun _ => rfl | exact fun q => absurd zt62 (by rw [q]; decide) | exact fun q => absurd q (by rw [zx62]; decide) | exact fun _ => (show bitM (fun i => T_1 m_viewOf i = nI v) u = bitM (fun i => S m_viewOf i = nI v) u from by rw [hSp_3.1 m_viewOf (by decide)]) | exact fun _ => ⟨fun _ => rfl, fun q => absurd (fst_fkd q1) q⟩), (by first | exact fun q => absurd (zx62.symm.trans q) (by decide) | exact fun _ => rfl | exact fun q => absurd zt62 (by rw [q]; decide) | exact fun q => absurd q (by rw [zx62]; decide) | exact fun _ => (show bitM (fun i => T_1 m_viewOf i = nI v) u = bitM (fun i => S m_viewOf i = nI v) u from by rw [hSp_3.1 m_viewOf (by decide)]) | exact fun _ => ⟨fun _ => rfl, fun q => absurd (fst_fkd q1) q⟩)⟩
            · exact absurd zc106 (by decide)
          · refine xi_tableIn (tgt := 115) (off := 53) hC dX8_view_62 (by rw [zx62]; decide) (by rw [zx62]; decide) (by rw [zx62]; rfl) (by decide) ?_
            refine xi_iload_n hC dX8_view_115 (pc' := 116) rfl rfl rfl ?_
            refine xi_iflt (tgt := 124) hC dX8_view_116 (pc' := 119) rfl (by decide) (fun zc116 => ?_) (fun zc116 => ?_)
            · skip
              refine xi_sipush (v := -10005) hC dX8_view_124 (pc' := 127) rfl (by decide +kernel) ?_
              refine xi_ireturn hC dX8_view_127 hr rfl ?_
              refine ⟨_, _, rfl, ⟨hSp_3, fun q => absurd ⟨v, hv, rfl⟩ q, fun v' hv' e1 => ?_⟩, rfl⟩
              obtain rfl := nI_inj (by omega) (by omega) e1
              exact ⟨(by first | exact fun q => absurd (zx62.symm.trans q) (by decide) | exact fun _ => rfl | exact fun q => absurd zt62 (by rw [q]; decide) | exact fun q => absurd q (by rw [zx62]; decide) | exact fun _ => (show bitM (fun i => T_1 m_viewOf i = nI v) u = bitM (fun i => S m_viewOf i = nI v) u from by rw [hSp_3.1 m_viewOf (by decide)]) | exact fun _ => ⟨fun _ => rfl, fun q => absurd (fst_fkd q1) q⟩), (by first | exact fun q => absurd (zx62.symm.trans q) (by decide) | exact fun _ => rfl | exact fun q => absurd zt62 (by rw [q]; decide) | exact fun q => absurd q (by rw [zx62]; decide) | exact fun _ => (show bitM (fun i => T_1 m_viewOf i = nI v) u = bitM (fun i => S m_viewOf i = nI v) u from by rw [hSp_3.1 m_viewOf (by decide)]) | exact fun _ => ⟨fun _ => rfl, fun q => absurd (fst_fkd q1) q⟩), (by first | exact fun q => absurd (zx62.symm.trans q) (by decide) | exact fun _ => rfl | exact fun q => absurd zt62 (by rw [q]; decide) | exact fun q => absurd q (by rw [zx62]; decide) | exact fun _ => (show bitM (fun i => T_1 m_viewOf i = nI v) u = bitM (fun i => S m_viewOf i = nI v) u from by rw [hSp_3.1 m_viewOf (by decide)]) | exact fun _ => ⟨fun _ => rfl, fun q => absurd (fst_fkd q1) q⟩), (by first | exact fun q => absurd (zx62.symm.trans q) (by decide) | exact fun _ => rfl | exact fun q => absurd zt62 (by rw [q]; decide) | exact fun q => absurd q (by rw [zx62]; decide) | exact fun _ => (show bitM (fun i => T_1 m_viewOf i = nI v) u = bitM (fun i => S m_viewOf i = nI v) u from by rw [hSp_3.1 m_viewOf (by decide)]) | exact fun _ => ⟨fun _ => rfl, fun q => absurd (fst_fkd q1) q⟩), (by first | exact fun q => absurd (zx62.symm.trans q) (by decide) | exact fun _ => rfl | exact fun q => absurd zt62 (by rw [q]; decide) | exact fun q => absurd q (by rw [zx62]; decide) | exact fun _ => (show bitM (fun i => T_1 m_viewOf i = nI v) u = bitM (fun i => S m_viewOf i = nI v) u from by rw [hSp_3.1 m_viewOf (by decide)]) | exact fun _ => ⟨fun _ => rfl, fun q => absurd (fst_fkd q1) q⟩)⟩
            · exact absurd zc116 (by decide)
      · skip
        refine xi_iload_n hC dX8_view_33 (pc' := 34) rfl rfl rfl ?_
        refine xi_iflt (tgt := 61) hC dX8_view_34 (pc' := 37) rfl (by decide) (fun zc34 => ?_) (fun zc34 => ?_)
        · skip
          refine xi_iload_n hC dX8_view_61 (pc' := 62) rfl rfl rfl ?_
          by_cases zt62 : y.toInt < 0 ∨ 3 < y.toInt
          · refine xi_tableOut (tgt := 128) hC dX8_view_62 zt62 (by decide) ?_
            refine xi_sipush (v := -10002) hC dX8_view_128 (pc' := 131) rfl (by decide +kernel) ?_
            refine xi_ireturn hC dX8_view_131 hr rfl ?_
            refine ⟨_, _, rfl, ⟨hSp_3, fun q => absurd ⟨v, hv, rfl⟩ q, fun v' hv' e1 => ?_⟩, rfl⟩
            obtain rfl := nI_inj (by omega) (by omega) e1
            exact ⟨(by first | exact fun q => absurd (zx62.symm.trans q) (by decide) | exact fun _ => rfl | exact fun q => absurd zt62 (by rw [q]; decide) | exact fun q => absurd q (by rw [zx62]; decide) | exact fun _ => (show bitM (fun i => T_1 m_viewOf i = nI v) u = bitM (fun i => S m_viewOf i = nI v) u from by rw [hSp_3.1 m_viewOf (by decide)]) | exact fun _ => ⟨fun _ => rfl, fun q => absurd (fst_fkd q1) q⟩), (by first | exact fun q => absurd (zx62.symm.trans q) (by decide) | exact fun _ => rfl | exact fun q => absurd zt62 (by rw [q]; decide) | exact fun q => absurd q (by rw [zx62]; decide) | exact fun _ => (show bitM (fun i => T_1 m_viewOf i = nI v) u = bitM (fun i => S m_viewOf i = nI v) u from by rw [hSp_3.1 m_viewOf (by decide)]) | exact fun _ => ⟨fun _ => rfl, fun q => absurd (fst_fkd q1) q⟩), (by first | exact fun q => absurd (zx62.symm.trans q) (by decide) | exact fun _ => rfl | exact fun q => absurd zt62 (by rw [q]; decide) | exact fun q => absurd q (by rw [zx62]; decide) | exact fun _ => (show bitM (fun i => T_1 m_viewOf i = nI v) u = bitM (fun i => S m_viewOf i = nI v) u from by rw [hSp_3.1 m_viewOf (by decide)]) | exact fun _ => ⟨fun _ => rfl, fun q => absurd (fst_fkd q1) q⟩), (by first | exact fun q => absurd (zx62.symm.trans q) (by decide) | exact fun _ => rfl | exact fun q => absurd zt62 (by rw [q]; decide) | exact fun q => absurd q (by rw [zx62]; decide) | exact fun _ => (show bitM (fun i => T_1 m_viewOf i = nI v) u = bitM (fun i => S m_viewOf i = nI v) u from by rw [hSp_3.1 m_viewOf (by decide)]) | exact fun _ => ⟨fun _ => rfl, fun q => absurd (fst_fkd q1) q⟩), (by first | exact fun q => absurd (zx62.symm.trans q) (by decide) | exact fun _ => rfl | exact fun q => absurd zt62 (by rw [q]; decide) | exact fun q => absurd q (by rw [zx62]; decide) | exact fun _ => (show bitM (fun i => T_1 m_viewOf i = nI v) u = bitM (fun i => S m_viewOf i = nI v) u from by rw [hSp_3.1 m_viewOf (by decide)]) | exact fun _ => ⟨fun _ => rfl, fun q => absurd (fst_fkd q1) q⟩)⟩
          · rcases xtab_0_3 zt62 with zx62 | zx62 | zx62 | zx62
            · refine xi_tableIn (tgt := 92) (off := 30) hC dX8_view_62 (by rw [zx62]; decide) (by rw [zx62]; decide) (by rw [zx62]; rfl) (by decide) ?_
              refine xi_aload_n hC dX8_view_92 (pc' := 93) rfl rfl rfl ?_
              refine xi_iload_n hC dX8_view_93 (pc' := 94) rfl rfl rfl ?_
              refine xi_callV (As := [.int (nI v)]) (rest := []) (c_X8_attached l D b n (C := C) (S := T_1) (u := u) (x := (nI v)) (hSp_3.mu hU)) hC dX8_view_94 (pc' := 97) rfl xw_m_X8_136 xw_c_X8_attached xw_ins_X8_attached xw_sel_X8_attached xw_ini_X8 xd_X8_attached (xH_at.trans (xsh_8 kd_oMod)) rfl ⟨Nat.le_of_ble_eq_true rfl, Nat.le_of_ble_eq_true rfl⟩ rfl (Nat.le_of_ble_eq_true rfl) ⟨Nat.le_of_ble_eq_true rfl, Nat.le_of_ble_eq_true rfl⟩ ?_
              rintro _ _ ⟨rfl, rfl⟩
              show xV _ _ _ _ _ _ _ _ _ _ _ _ _ _ _ _ _ (xH D b (jn C T_1)) _ _ [.int (attM T_1 (nI v) u)]
              refine xi_ireturn hC dX8_view_97 hr rfl ?_
              refine ⟨_, _, rfl, ⟨hSp_3, fun q => absurd ⟨v, hv, rfl⟩ q, fun v' hv' e1 => ?_⟩, rfl⟩
              obtain rfl := nI_inj (by omega) (by omega) e1
              exact ⟨(by first | exact fun q => absurd (zx62.symm.trans q) (by decide) | exact fun _ => rfl | exact fun q => absurd zt62 (by rw [q]; decide) | exact fun q => absurd q (by rw [zx62]; decide) | exact fun _ => (show bitM (fun i => T_1 m_viewOf i = nI v) u = bitM (fun i => S m_viewOf i = nI v) u from by rw [hSp_3.1 m_viewOf (by decide)]) | exact fun _ => ⟨fun _ => rfl, fun q => absurd (fst_fkd q1) q⟩), (by first | exact fun q => absurd (zx62.symm.trans q) (by decide) | exact fun _ => rfl | exact fun q => absurd zt62 (by rw [q]; decide) | exact fun q => absurd q (by rw [zx62]; decide) | exact fun _ => (show bitM (fun i => T_1 m_viewOf i = nI v) u = bitM (fun i => S m_viewOf i = nI v) u from by rw [hSp_3.1 m_viewOf (by decide)]) | exact fun _ => ⟨fun _ => rfl, fun q => absurd (fst_fkd q1) q⟩), (by first | exact fun q => absurd (zx62.symm.trans q) (by decide) | exact fun _ => rfl | exact fun q => absurd zt62 (by rw [q]; decide) | exact fun q => absurd q (by rw [zx62]; decide) | exact fun _ => (show bitM (fun i => T_1 m_viewOf i = nI v) u = bitM (fun i => S m_viewOf i = nI v) u from by rw [hSp_3.1 m_viewOf (by decide)]) | exact fun _ => ⟨fun _ => rfl, fun q => absurd (fst_fkd q1) q⟩), (by first | exact fun q => absurd (zx62.symm.trans q) (by decide) | exact fun _ => rfl | exact fun q => absurd zt62 (by rw [q]; decide) | exact fun q => absurd q (by rw [zx62]; decide) | exact fun _ => (show bitM (fun i => T_1 m_viewOf i = nI v) u = bitM (fun i => S m_viewOf i = nI v) u from by rw [hSp_3.1 m_viewOf (by decide)]) | exact fun _ => ⟨fun _ => rfl, fun q => absurd (fst_fkd q1) q⟩), (by first | exact fun q => absurd (zx62.symm.trans q) (by decide) | exact fun _ => rfl | exact fun q => absurd zt62 (by rw [q]; decide) | exact fun q => absurd q (by rw [zx62]; decide) | exact fun _ => (show bitM (fun i => T_1 m_viewOf i = nI v) u = bitM (fun i => S m_viewOf i = nI v) u from by rw [hSp_3.1 m_viewOf (by decide)]) | exact fun _ => ⟨fun _ => rfl, fun q => absurd (fst_fkd q1) q⟩)⟩
            · refine xi_tableIn (tgt := 98) (off := 36) hC dX8_view_62 (by rw [zx62]; decide) (by rw [zx62]; decide) (by rw [zx62]; rfl) (by decide) ?_
              refine xi_aload_n hC dX8_view_98 (pc' := 99) rfl rfl rfl ?_
              refine xg8_keptOf hC dX8_view_99 (pc' := 102) rfl xw_f_X8_13 kd_oMod ?_
              refine xi_iload_n hC dX8_view_102 (pc' := 103) rfl rfl rfl ?_
              refine xt_l_i hC dX8_view_103 (pc' := 104) rfl (N := 6) kd_m_keptOf (by decide) (by decide) rfl (by omega) ?_
              refine xtop (y := (S m_keptOf v)) (by rw [hSp_3.1 m_keptOf (by first | (simp only [oMs, oVws, oScr, oSgn, oMod, oMem, oSig, oKno, oPro, oBox, oFst, oSnd, oLts, oLet, oNum, oVw, oEnt, oBef, oBk, oVs, oCon, oVec, m_row, m_keptOf, m_keptRow, m_viewOf, m_alarmOf, m_hasProof, m_depthOf, m_proofOf, m_signedOf, m_knownOf, m_doneOf, m_shownTo, m_sentBy, m_hasRead, m_readOf, m_lettersOf, m_letter, m_hand, m_text] <;> omega) | decide | omega | (simp only [oMs, oVws, oScr, oSgn, oMod, oMem, oSig, oKno, oPro, oBox, oFst, oSnd, oLts, oLet, oNum, oVw, oEnt, oBef, oBk, oVs, oCon, oVec, m_row, m_keptOf, m_keptRow, m_viewOf, m_alarmOf, m_hasProof, m_depthOf, m_proofOf, m_signedOf, m_knownOf, m_doneOf, m_shownTo, m_sentBy, m_hasRead, m_readOf, m_lettersOf, m_letter, m_hand, m_text] at * <;> omega))]) ?_
              refine xi_ireturn hC dX8_view_104 hr rfl ?_
              refine ⟨_, _, rfl, ⟨hSp_3, fun q => absurd ⟨v, hv, rfl⟩ q, fun v' hv' e1 => ?_⟩, rfl⟩
              obtain rfl := nI_inj (by omega) (by omega) e1
              exact ⟨(by first | exact fun q => absurd (zx62.symm.trans q) (by decide) | exact fun _ => rfl | exact fun q => absurd zt62 (by rw [q]; decide) | exact fun q => absurd q (by rw [zx62]; decide) | exact fun _ => (show bitM (fun i => T_1 m_viewOf i = nI v) u = bitM (fun i => S m_viewOf i = nI v) u from by rw [hSp_3.1 m_viewOf (by decide)]) | exact fun _ => ⟨fun _ => rfl, fun q => absurd (fst_fkd q1) q⟩), (by first | exact fun q => absurd (zx62.symm.trans q) (by decide) | exact fun _ => rfl | exact fun q => absurd zt62 (by rw [q]; decide) | exact fun q => absurd q (by rw [zx62]; decide) | exact fun _ => (show bitM (fun i => T_1 m_viewOf i = nI v) u = bitM (fun i => S m_viewOf i = nI v) u from by rw [hSp_3.1 m_viewOf (by decide)]) | exact fun _ => ⟨fun _ => rfl, fun q => absurd (fst_fkd q1) q⟩), (by first | exact fun q => absurd (zx62.symm.trans q) (by decide) | exact fun _ => rfl | exact fun q => absurd zt62 (by rw [q]; decide) | exact fun q => absurd q (by rw [zx62]; decide) | exact fun _ => (show bitM (fun i => T_1 m_viewOf i = nI v) u = bitM (fun i => S m_viewOf i = nI v) u from by rw [hSp_3.1 m_viewOf (by decide)]) | exact fun _ => ⟨fun _ => rfl, fun q => absurd (fst_fkd q1) q⟩), (by first | exact fun q => absurd (zx62.symm.trans q) (by decide) | exact fun _ => rfl | exact fun q => absurd zt62 (by rw [q]; decide) | exact fun q => absurd q (by rw [zx62]; decide) | exact fun _ => (show bitM (fun i => T_1 m_viewOf i = nI v) u = bitM (fun i => S m_viewOf i = nI v) u from by rw [hSp_3.1 m_viewOf (by decide)]) | exact fun _ => ⟨fun _ => rfl, fun q => absurd (fst_fkd q1) q⟩), (by first | exact fun q => absurd (zx62.symm.trans q) (by decide) | exact fun _ => rfl | exact fun q => absurd zt62 (by rw [q]; decide) | exact fun q => absurd q (by rw [zx62]; decide) | exact fun _ => (show bitM (fun i => T_1 m_viewOf i = nI v) u = bitM (fun i => S m_viewOf i = nI v) u from by rw [hSp_3.1 m_viewOf (by decide)]) | exact fun _ => ⟨fun _ => rfl, fun q => absurd (fst_fkd q1) q⟩)⟩
            · refine xi_tableIn (tgt := 105) (off := 43) hC dX8_view_62 (by rw [zx62]; decide) (by rw [zx62]; decide) (by rw [zx62]; rfl) (by decide) ?_
              refine xi_iload_n hC dX8_view_105 (pc' := 106) rfl rfl rfl ?_
              refine xi_iflt (tgt := 113) hC dX8_view_106 (pc' := 109) rfl (by decide) (fun zc106 => ?_) (fun zc106 => ?_)
              · skip
                refine xi_iconst (v := nI 0) hC dX8_view_113 (pc' := 114) rfl (by decide +kernel) ?_
                refine xi_ireturn hC dX8_view_114 hr rfl ?_
                refine ⟨_, _, rfl, ⟨hSp_3, fun q => absurd ⟨v, hv, rfl⟩ q, fun v' hv' e1 => ?_⟩, rfl⟩
                obtain rfl := nI_inj (by omega) (by omega) e1
                exact ⟨(by first | exact fun q => absurd (zx62.symm.trans q) (by decide) | exact fun _ => rfl | exact fun q => absurd zt62 (by rw [q]; decide) | exact fun q => absurd q (by rw [zx62]; decide) | exact fun _ => (show bitM (fun i => T_1 m_viewOf i = nI v) u = bitM (fun i => S m_viewOf i = nI v) u from by rw [hSp_3.1 m_viewOf (by decide)]) | exact fun _ => ⟨fun _ => rfl, fun q => absurd (fst_fkd q1) q⟩), (by first | exact fun q => absurd (zx62.symm.trans q) (by decide) | exact fun _ => rfl | exact fun q => absurd zt62 (by rw [q]; decide) | exact fun q => absurd q (by rw [zx62]; decide) | exact fun _ => (show bitM (fun i => T_1 m_viewOf i = nI v) u = bitM (fun i => S m_viewOf i = nI v) u from by rw [hSp_3.1 m_viewOf (by decide)]) | exact fun _ => ⟨fun _ => rfl, fun q => absurd (fst_fkd q1) q⟩), (by first | exact fun q => absurd (zx62.symm.trans q) (by decide) | exact fun _ => rfl | exact fun q => absurd zt62 (by rw [q]; decide) | exact fun q => absurd q (by rw [zx62]; decide) | exact fun _ => (show bitM (fun i => T_1 m_viewOf i = nI v) u = bitM (fun i => S m_viewOf i = nI v) u from by rw [hSp_3.1 m_viewOf (by decide)]) | exact fun _ => ⟨fun _ => rfl, fun q => absurd (fst_fkd q1) q⟩), (by first | exact fun q => absurd (zx62.symm.trans q) (by decide) | exact fun _ => rfl | exact fun q => absurd zt62 (by rw [q]; decide) | exact fun q => absurd q (by rw [zx62]; decide) | exact fun _ => (show bitM (fun i => T_1 m_viewOf i = nI v) u = bitM (fun i => S m_viewOf i = nI v) u from by rw [hSp_3.1 m_viewOf (by decide)]) | exact fun _ => ⟨fun _ => rfl, fun q => absurd (fst_fkd q1) q⟩), (by first | exact fun q => absurd (zx62.symm.trans q) (by decide) | exact fun _ => rfl | exact fun q => absurd zt62 (by rw [q]; decide) | exact fun q => absurd q (by rw [zx62]; decide) | exact fun _ => (show bitM (fun i => T_1 m_viewOf i = nI v) u = bitM (fun i => S m_viewOf i = nI v) u from by rw [hSp_3.1 m_viewOf (by decide)]) | exact fun _ => ⟨fun _ => rfl, fun q => absurd (fst_fkd q1) q⟩)⟩
              · exact absurd zc106 (by decide)
            · refine xi_tableIn (tgt := 115) (off := 53) hC dX8_view_62 (by rw [zx62]; decide) (by rw [zx62]; decide) (by rw [zx62]; rfl) (by decide) ?_
              refine xi_iload_n hC dX8_view_115 (pc' := 116) rfl rfl rfl ?_
              refine xi_iflt (tgt := 124) hC dX8_view_116 (pc' := 119) rfl (by decide) (fun zc116 => ?_) (fun zc116 => ?_)
              · skip
                refine xi_sipush (v := -10005) hC dX8_view_124 (pc' := 127) rfl (by decide +kernel) ?_
                refine xi_ireturn hC dX8_view_127 hr rfl ?_
                refine ⟨_, _, rfl, ⟨hSp_3, fun q => absurd ⟨v, hv, rfl⟩ q, fun v' hv' e1 => ?_⟩, rfl⟩
                obtain rfl := nI_inj (by omega) (by omega) e1
                exact ⟨(by first | exact fun q => absurd (zx62.symm.trans q) (by decide) | exact fun _ => rfl | exact fun q => absurd zt62 (by rw [q]; decide) | exact fun q => absurd q (by rw [zx62]; decide) | exact fun _ => (show bitM (fun i => T_1 m_viewOf i = nI v) u = bitM (fun i => S m_viewOf i = nI v) u from by rw [hSp_3.1 m_viewOf (by decide)]) | exact fun _ => ⟨fun _ => rfl, fun q => absurd (fst_fkd q1) q⟩), (by first | exact fun q => absurd (zx62.symm.trans q) (by decide) | exact fun _ => rfl | exact fun q => absurd zt62 (by rw [q]; decide) | exact fun q => absurd q (by rw [zx62]; decide) | exact fun _ => (show bitM (fun i => T_1 m_viewOf i = nI v) u = bitM (fun i => S m_viewOf i = nI v) u from by rw [hSp_3.1 m_viewOf (by decide)]) | exact fun _ => ⟨fun _ => rfl, fun q => absurd (fst_fkd q1) q⟩), (by first | exact fun q => absurd (zx62.symm.trans q) (by decide) | exact fun _ => rfl | exact fun q => absurd zt62 (by rw [q]; decide) | exact fun q => absurd q (by rw [zx62]; decide) | exact fun _ => (show bitM (fun i => T_1 m_viewOf i = nI v) u = bitM (fun i => S m_viewOf i = nI v) u from by rw [hSp_3.1 m_viewOf (by decide)]) | exact fun _ => ⟨fun _ => rfl, fun q => absurd (fst_fkd q1) q⟩), (by first | exact fun q => absurd (zx62.symm.trans q) (by decide) | exact fun _ => rfl | exact fun q => absurd zt62 (by rw [q]; decide) | exact fun q => absurd q (by rw [zx62]; decide) | exact fun _ => (show bitM (fun i => T_1 m_viewOf i = nI v) u = bitM (fun i => S m_viewOf i = nI v) u from by rw [hSp_3.1 m_viewOf (by decide)]) | exact fun _ => ⟨fun _ => rfl, fun q => absurd (fst_fkd q1) q⟩), (by first | exact fun q => absurd (zx62.symm.trans q) (by decide) | exact fun _ => rfl | exact fun q => absurd zt62 (by rw [q]; decide) | exact fun q => absurd q (by rw [zx62]; decide) | exact fun _ => (show bitM (fun i => T_1 m_viewOf i = nI v) u = bitM (fun i => S m_viewOf i = nI v) u from by rw [hSp_3.1 m_viewOf (by decide)]) | exact fun _ => ⟨fun _ => rfl, fun q => absurd (fst_fkd q1) q⟩)⟩
              · exact absurd zc116 (by decide)
        · exact absurd zc34 (by decide)
    · skip
      have hbl := bst_lt (S := S) (u := u) (v := v) (by omega)
      refine xi_istore_n (lv' := [some (.ref (b + oMod)), some (.int (nI v)), some (.int y), some (.int (nI (bst S u v))), none, none]) hC dX8_view_17 (pc' := 18) rfl rfl (by decide) rfl ?_
      refine xi_iconst (v := nI 0) hC dX8_view_18 (pc' := 19) rfl (by decide +kernel) ?_
      refine xi_istore (lv' := [some (.ref (b + oMod)), some (.int (nI v)), some (.int y), some (.int (nI (bst S u v))), some (.int (nI 0)), none]) hC dX8_view_19 (pc' := 21) rfl (by decide) rfl ?_
      refine xi_iconst (v := nI 0) hC dX8_view_21 (pc' := 22) rfl (by decide +kernel) ?_
      refine xi_istore (lv' := [some (.ref (b + oMod)), some (.int (nI v)), some (.int y), some (.int (nI (bst S u v))), some (.int (nI 0)), some (.int (nI 0))]) hC dX8_view_22 (pc' := 24) rfl (by decide) rfl ?_
      have L24 : ∀ (d : Nat) (j : Nat) (t : Int32), u - j < d → (j ≤ u) → (t = xsum (rV S v (bst S u v)) j) → xV p l e (xR 3 73 0 0) s m args below meth c D b 6 0 0 (MQ below (xQ D b n (fun y' h' => ∃ (r : Int32) (T : XM), y' = some (.int r) ∧ s_view S u w (nI v) y r T ∧ h' = xH D b (jn C T))) args s 0 0 (fun q => b ≤ q)) n (xH D b (jn C T_1)) 24 [some (.ref (b + oMod)), some (.int (nI v)), some (.int y), some (.int (nI (bst S u v))), some (.int t), some (.int (nI j))] [] := by
        intro d
        induction d with
        | zero => intro j t h; exact absurd h (Nat.not_lt_zero _)
        | succ d ih24 =>
          intro j t hd24 hj et
          refine xi_iload hC dX8_view_24 (pc' := 26) rfl rfl ?_
          refine xi_aload_n hC dX8_view_26 (pc' := 27) rfl rfl rfl ?_
          refine xt_g_users hC dX8_view_27 (pc' := 30) rfl xw_f_X8_73 ?_
          refine xtop (y := (nI u)) ((hSp_3.2 0 (by decide) (by decide)).trans hu) ?_
          refine xn_icmpge (tgt := 61) hC dX8_view_30 (pc' := 33) rfl (by decide) (by omega) (by omega) (fun zc30 => ?_) (fun zc30 => ?_)
          · skip
            have ej : j = u := by omega
            rw [ej] at et
            refine xi_iload_n hC dX8_view_61 (pc' := 62) rfl rfl rfl ?_
            by_cases zt62 : y.toInt < 0 ∨ 3 < y.toInt
            · refine xi_tableOut (tgt := 128) hC dX8_view_62 zt62 (by decide) ?_
              refine xi_sipush (v := -10002) hC dX8_view_128 (pc' := 131) rfl (by decide +kernel) ?_
              refine xi_ireturn hC dX8_view_131 hr rfl ?_
              refine ⟨_, _, rfl, ⟨hSp_3, fun q => absurd ⟨v, hv, rfl⟩ q, fun v' hv' e1 => ?_⟩, rfl⟩
              obtain rfl := nI_inj (by omega) (by omega) e1
              exact ⟨(by first | exact fun q => absurd (zx62.symm.trans q) (by decide) | exact fun _ => rfl | exact fun q => absurd zt62 (by rw [q]; decide) | exact fun q => absurd q (by rw [zx62]; decide) | exact fun _ => (show bitM (fun i => T_1 m_viewOf i = nI v) u = bitM (fun i => S m_viewOf i = nI v) u from by rw [hSp_3.1 m_viewOf (by decide)]) | exact fun _ => ⟨fun q => absurd q q1, fun _ => rfl⟩ | exact fun _ => ⟨fun q => absurd q q1, fun _ => et⟩), (by first | exact fun q => absurd (zx62.symm.trans q) (by decide) | exact fun _ => rfl | exact fun q => absurd zt62 (by rw [q]; decide) | exact fun q => absurd q (by rw [zx62]; decide) | exact fun _ => (show bitM (fun i => T_1 m_viewOf i = nI v) u = bitM (fun i => S m_viewOf i = nI v) u from by rw [hSp_3.1 m_viewOf (by decide)]) | exact fun _ => ⟨fun q => absurd q q1, fun _ => rfl⟩ | exact fun _ => ⟨fun q => absurd q q1, fun _ => et⟩), (by first | exact fun q => absurd (zx62.symm.trans q) (by decide) | exact fun _ => rfl | exact fun q => absurd zt62 (by rw [q]; decide) | exact fun q => absurd q (by rw [zx62]; decide) | exact fun _ => (show bitM (fun i => T_1 m_viewOf i = nI v) u = bitM (fun i => S m_viewOf i = nI v) u from by rw [hSp_3.1 m_viewOf (by decide)]) | exact fun _ => ⟨fun q => absurd q q1, fun _ => rfl⟩ | exact fun _ => ⟨fun q => absurd q q1, fun _ => et⟩), (by first | exact fun q => absurd (zx62.symm.trans q) (by decide) | exact fun _ => rfl | exact fun q => absurd zt62 (by rw [q]; decide) | exact fun q => absurd q (by rw [zx62]; decide) | exact fun _ => (show bitM (fun i => T_1 m_viewOf i = nI v) u = bitM (fun i => S m_viewOf i = nI v) u from by rw [hSp_3.1 m_viewOf (by decide)]) | exact fun _ => ⟨fun q => absurd q q1, fun _ => rfl⟩ | exact fun _ => ⟨fun q => absurd q q1, fun _ => et⟩), (by first | exact fun q => absurd (zx62.symm.trans q) (by decide) | exact fun _ => rfl | exact fun q => absurd zt62 (by rw [q]; decide) | exact fun q => absurd q (by rw [zx62]; decide) | exact fun _ => (show bitM (fun i => T_1 m_viewOf i = nI v) u = bitM (fun i => S m_viewOf i = nI v) u from by rw [hSp_3.1 m_viewOf (by decide)]) | exact fun _ => ⟨fun q => absurd q q1, fun _ => rfl⟩ | exact fun _ => ⟨fun q => absurd q q1, fun _ => et⟩)⟩
            · rcases xtab_0_3 zt62 with zx62 | zx62 | zx62 | zx62
              · refine xi_tableIn (tgt := 92) (off := 30) hC dX8_view_62 (by rw [zx62]; decide) (by rw [zx62]; decide) (by rw [zx62]; rfl) (by decide) ?_
                refine xi_aload_n hC dX8_view_92 (pc' := 93) rfl rfl rfl ?_
                refine xi_iload_n hC dX8_view_93 (pc' := 94) rfl rfl rfl ?_
                refine xi_callV (As := [.int (nI v)]) (rest := []) (c_X8_attached l D b n (C := C) (S := T_1) (u := u) (x := (nI v)) (hSp_3.mu hU)) hC dX8_view_94 (pc' := 97) rfl xw_m_X8_136 xw_c_X8_attached xw_ins_X8_attached xw_sel_X8_attached xw_ini_X8 xd_X8_attached (xH_at.trans (xsh_8 kd_oMod)) rfl ⟨Nat.le_of_ble_eq_true rfl, Nat.le_of_ble_eq_true rfl⟩ rfl (Nat.le_of_ble_eq_true rfl) ⟨Nat.le_of_ble_eq_true rfl, Nat.le_of_ble_eq_true rfl⟩ ?_
                rintro _ _ ⟨rfl, rfl⟩
                show xV _ _ _ _ _ _ _ _ _ _ _ _ _ _ _ _ _ (xH D b (jn C T_1)) _ _ [.int (attM T_1 (nI v) u)]
                refine xi_ireturn hC dX8_view_97 hr rfl ?_
                refine ⟨_, _, rfl, ⟨hSp_3, fun q => absurd ⟨v, hv, rfl⟩ q, fun v' hv' e1 => ?_⟩, rfl⟩
                obtain rfl := nI_inj (by omega) (by omega) e1
                exact ⟨(by first | exact fun q => absurd (zx62.symm.trans q) (by decide) | exact fun _ => rfl | exact fun q => absurd zt62 (by rw [q]; decide) | exact fun q => absurd q (by rw [zx62]; decide) | exact fun _ => (show bitM (fun i => T_1 m_viewOf i = nI v) u = bitM (fun i => S m_viewOf i = nI v) u from by rw [hSp_3.1 m_viewOf (by decide)]) | exact fun _ => ⟨fun q => absurd q q1, fun _ => rfl⟩ | exact fun _ => ⟨fun q => absurd q q1, fun _ => et⟩), (by first | exact fun q => absurd (zx62.symm.trans q) (by decide) | exact fun _ => rfl | exact fun q => absurd zt62 (by rw [q]; decide) | exact fun q => absurd q (by rw [zx62]; decide) | exact fun _ => (show bitM (fun i => T_1 m_viewOf i = nI v) u = bitM (fun i => S m_viewOf i = nI v) u from by rw [hSp_3.1 m_viewOf (by decide)]) | exact fun _ => ⟨fun q => absurd q q1, fun _ => rfl⟩ | exact fun _ => ⟨fun q => absurd q q1, fun _ => et⟩), (by first | exact fun q => absurd (zx62.symm.trans q) (by decide) | exact fun _ => rfl | exact fun q => absurd zt62 (by rw [q]; decide) | exact fun q => absurd q (by rw [zx62]; decide) | exact fun _ => (show bitM (fun i => T_1 m_viewOf i = nI v) u = bitM (fun i => S m_viewOf i = nI v) u from by rw [hSp_3.1 m_viewOf (by decide)]) | exact fun _ => ⟨fun q => absurd q q1, fun _ => rfl⟩ | exact fun _ => ⟨fun q => absurd q q1, fun _ => et⟩), (by first | exact fun q => absurd (zx62.symm.trans q) (by decide) | exact fun _ => rfl | exact fun q => absurd zt62 (by rw [q]; decide) | exact fun q => absurd q (by rw [zx62]; decide) | exact fun _ => (show bitM (fun i => T_1 m_viewOf i = nI v) u = bitM (fun i => S m_viewOf i = nI v) u from by rw [hSp_3.1 m_viewOf (by decide)]) | exact fun _ => ⟨fun q => absurd q q1, fun _ => rfl⟩ | exact fun _ => ⟨fun q => absurd q q1, fun _ => et⟩), (by first | exact fun q => absurd (zx62.symm.trans q) (by decide) | exact fun _ => rfl | exact fun q => absurd zt62 (by rw [q]; decide) | exact fun q => absurd q (by rw [zx62]; decide) | exact fun _ => (show bitM (fun i => T_1 m_viewOf i = nI v) u = bitM (fun i => S m_viewOf i = nI v) u from by rw [hSp_3.1 m_viewOf (by decide)]) | exact fun _ => ⟨fun q => absurd q q1, fun _ => rfl⟩ | exact fun _ => ⟨fun q => absurd q q1, fun _ => et⟩)⟩
              · refine xi_tableIn (tgt := 98) (off := 36) hC dX8_view_62 (by rw [zx62]; decide) (by rw [zx62]; decide) (by rw [zx62]; rfl) (by decide) ?_
                refine xi_aload_n hC dX8_view_98 (pc' := 99) rfl rfl rfl ?_
                refine xg8_keptOf hC dX8_view_99 (pc' := 102) rfl xw_f_X8_13 kd_oMod ?_
                refine xi_iload_n hC dX8_view_102 (pc' := 103) rfl rfl rfl ?_
                refine xt_l_i hC dX8_view_103 (pc' := 104) rfl (N := 6) kd_m_keptOf (by decide) (by decide) rfl (by omega) ?_
                refine xtop (y := (S m_keptOf v)) (by rw [hSp_3.1 m_keptOf (by first | (simp only [oMs, oVws, oScr, oSgn, oMod, oMem, oSig, oKno, oPro, oBox, oFst, oSnd, oLts, oLet, oNum, oVw, oEnt, oBef, oBk, oVs, oCon, oVec, m_row, m_keptOf, m_keptRow, m_viewOf, m_alarmOf, m_hasProof, m_depthOf, m_proofOf, m_signedOf, m_knownOf, m_doneOf, m_shownTo, m_sentBy, m_hasRead, m_readOf, m_lettersOf, m_letter, m_hand, m_text] <;> omega) | decide | omega | (simp only [oMs, oVws, oScr, oSgn, oMod, oMem, oSig, oKno, oPro, oBox, oFst, oSnd, oLts, oLet, oNum, oVw, oEnt, oBef, oBk, oVs, oCon, oVec, m_row, m_keptOf, m_keptRow, m_viewOf, m_alarmOf, m_hasProof, m_depthOf, m_proofOf, m_signedOf, m_knownOf, m_doneOf, m_shownTo, m_sentBy, m_hasRead, m_readOf, m_lettersOf, m_letter, m_hand, m_text] at * <;> omega))]) ?_
                refine xi_ireturn hC dX8_view_104 hr rfl ?_
                refine ⟨_, _, rfl, ⟨hSp_3, fun q => absurd ⟨v, hv, rfl⟩ q, fun v' hv' e1 => ?_⟩, rfl⟩
                obtain rfl := nI_inj (by omega) (by omega) e1
                exact ⟨(by first | exact fun q => absurd (zx62.symm.trans q) (by decide) | exact fun _ => rfl | exact fun q => absurd zt62 (by rw [q]; decide) | exact fun q => absurd q (by rw [zx62]; decide) | exact fun _ => (show bitM (fun i => T_1 m_viewOf i = nI v) u = bitM (fun i => S m_viewOf i = nI v) u from by rw [hSp_3.1 m_viewOf (by decide)]) | exact fun _ => ⟨fun q => absurd q q1, fun _ => rfl⟩ | exact fun _ => ⟨fun q => absurd q q1, fun _ => et⟩), (by first | exact fun q => absurd (zx62.symm.trans q) (by decide) | exact fun _ => rfl | exact fun q => absurd zt62 (by rw [q]; decide) | exact fun q => absurd q (by rw [zx62]; decide) | exact fun _ => (show bitM (fun i => T_1 m_viewOf i = nI v) u = bitM (fun i => S m_viewOf i = nI v) u from by rw [hSp_3.1 m_viewOf (by decide)]) | exact fun _ => ⟨fun q => absurd q q1, fun _ => rfl⟩ | exact fun _ => ⟨fun q => absurd q q1, fun _ => et⟩), (by first | exact fun q => absurd (zx62.symm.trans q) (by decide) | exact fun _ => rfl | exact fun q => absurd zt62 (by rw [q]; decide) | exact fun q => absurd q (by rw [zx62]; decide) | exact fun _ => (show bitM (fun i => T_1 m_viewOf i = nI v) u = bitM (fun i => S m_viewOf i = nI v) u from by rw [hSp_3.1 m_viewOf (by decide)]) | exact fun _ => ⟨fun q => absurd q q1, fun _ => rfl⟩ | exact fun _ => ⟨fun q => absurd q q1, fun _ => et⟩), (by first | exact fun q => absurd (zx62.symm.trans q) (by decide) | exact fun _ => rfl | exact fun q => absurd zt62 (by rw [q]; decide) | exact fun q => absurd q (by rw [zx62]; decide) | exact fun _ => (show bitM (fun i => T_1 m_viewOf i = nI v) u = bitM (fun i => S m_viewOf i = nI v) u from by rw [hSp_3.1 m_viewOf (by decide)]) | exact fun _ => ⟨fun q => absurd q q1, fun _ => rfl⟩ | exact fun _ => ⟨fun q => absurd q q1, fun _ => et⟩), (by first | exact fun q => absurd (zx62.symm.trans q) (by decide) | exact fun _ => rfl | exact fun q => absurd zt62 (by rw [q]; decide) | exact fun q => absurd q (by rw [zx62]; decide) | exact fun _ => (show bitM (fun i => T_1 m_viewOf i = nI v) u = bitM (fun i => S m_viewOf i = nI v) u from by rw [hSp_3.1 m_viewOf (by decide)]) | exact fun _ => ⟨fun q => absurd q q1, fun _ => rfl⟩ | exact fun _ => ⟨fun q => absurd q q1, fun _ => et⟩)⟩
              · refine xi_tableIn (tgt := 105) (off := 43) hC dX8_view_62 (by rw [zx62]; decide) (by rw [zx62]; decide) (by rw [zx62]; rfl) (by decide) ?_
                refine xi_iload_n hC dX8_view_105 (pc' := 106) rfl rfl rfl ?_
                refine xn_iflt (tgt := 113) hC dX8_view_106 (pc' := 109) rfl (by decide) (by omega) (fun zc106 => ?_) (fun zc106 => ?_)
                · exact zc106.elim
                · skip
                  refine xi_iconst (v := nI 1) hC dX8_view_109 (pc' := 110) rfl (by decide +kernel) ?_
                  refine xi_goto (tgt := 114) hC dX8_view_110 (by decide) ?_
                  refine xi_ireturn hC dX8_view_114 hr rfl ?_
                  refine ⟨_, _, rfl, ⟨hSp_3, fun q => absurd ⟨v, hv, rfl⟩ q, fun v' hv' e1 => ?_⟩, rfl⟩
                  obtain rfl := nI_inj (by omega) (by omega) e1
                  exact ⟨(by first | exact fun q => absurd (zx62.symm.trans q) (by decide) | exact fun _ => rfl | exact fun q => absurd zt62 (by rw [q]; decide) | exact fun q => absurd q (by rw [zx62]; decide) | exact fun _ => (show bitM (fun i => T_1 m_viewOf i = nI v) u = bitM (fun i => S m_viewOf i = nI v) u from by rw [hSp_3.1 m_viewOf (by decide)]) | exact fun _ => ⟨fun q => absurd q q1, fun _ => rfl⟩ | exact fun _ => ⟨fun q => absurd q q1, fun _ => et⟩), (by first | exact fun q => absurd (zx62.symm.trans q) (by decide) | exact fun _ => rfl | exact fun q => absurd zt62 (by rw [q]; decide) | exact fun q => absurd q (by rw [zx62]; decide) | exact fun _ => (show bitM (fun i => T_1 m_viewOf i = nI v) u = bitM (fun i => S m_viewOf i = nI v) u from by rw [hSp_3.1 m_viewOf (by decide)]) | exact fun _ => ⟨fun q => absurd q q1, fun _ => rfl⟩ | exact fun _ => ⟨fun q => absurd q q1, fun _ => et⟩), (by first | exact fun q => absurd (zx62.symm.trans q) (by decide) | exact fun _ => rfl | exact fun q => absurd zt62 (by rw [q]; decide) | exact fun q => absurd q (by rw [zx62]; decide) | exact fun _ => (show bitM (fun i => T_1 m_viewOf i = nI v) u = bitM (fun i => S m_viewOf i = nI v) u from by rw [hSp_3.1 m_viewOf (by decide)]) | exact fun _ => ⟨fun q => absurd q q1, fun _ => rfl⟩ | exact fun _ => ⟨fun q => absurd q q1, fun _ => et⟩), (by first | exact fun q => absurd (zx62.symm.trans q) (by decide) | exact fun _ => rfl | exact fun q => absurd zt62 (by rw [q]; decide) | exact fun q => absurd q (by rw [zx62]; decide) | exact fun _ => (show bitM (fun i => T_1 m_viewOf i = nI v) u = bitM (fun i => S m_viewOf i = nI v) u from by rw [hSp_3.1 m_viewOf (by decide)]) | exact fun _ => ⟨fun q => absurd q q1, fun _ => rfl⟩ | exact fun _ => ⟨fun q => absurd q q1, fun _ => et⟩), (by first | exact fun q => absurd (zx62.symm.trans q) (by decide) | exact fun _ => rfl | exact fun q => absurd zt62 (by rw [q]; decide) | exact fun q => absurd q (by rw [zx62]; decide) | exact fun _ => (show bitM (fun i => T_1 m_viewOf i = nI v) u = bitM (fun i => S m_viewOf i = nI v) u from by rw [hSp_3.1 m_viewOf (by decide)]) | exact fun _ => ⟨fun q => absurd q q1, fun _ => rfl⟩ | exact fun _ => ⟨fun q => absurd q q1, fun _ => et⟩)⟩
              · refine xi_tableIn (tgt := 115) (off := 53) hC dX8_view_62 (by rw [zx62]; decide) (by rw [zx62]; decide) (by rw [zx62]; rfl) (by decide) ?_
                refine xi_iload_n hC dX8_view_115 (pc' := 116) rfl rfl rfl ?_
                refine xn_iflt (tgt := 124) hC dX8_view_116 (pc' := 119) rfl (by decide) (by omega) (fun zc116 => ?_) (fun zc116 => ?_)
                · exact zc116.elim
                · skip
                  refine xi_iload hC dX8_view_119 (pc' := 121) rfl rfl ?_
                  refine xi_goto (tgt := 127) hC dX8_view_121 (by decide) ?_
                  refine xi_ireturn hC dX8_view_127 hr rfl ?_
                  refine ⟨_, _, rfl, ⟨hSp_3, fun q => absurd ⟨v, hv, rfl⟩ q, fun v' hv' e1 => ?_⟩, rfl⟩
                  obtain rfl := nI_inj (by omega) (by omega) e1
                  exact ⟨(by first | exact fun q => absurd (zx62.symm.trans q) (by decide) | exact fun _ => rfl | exact fun q => absurd zt62 (by rw [q]; decide) | exact fun q => absurd q (by rw [zx62]; decide) | exact fun _ => (show bitM (fun i => T_1 m_viewOf i = nI v) u = bitM (fun i => S m_viewOf i = nI v) u from by rw [hSp_3.1 m_viewOf (by decide)]) | exact fun _ => ⟨fun q => absurd q q1, fun _ => rfl⟩ | exact fun _ => ⟨fun q => absurd q q1, fun _ => et⟩), (by first | exact fun q => absurd (zx62.symm.trans q) (by decide) | exact fun _ => rfl | exact fun q => absurd zt62 (by rw [q]; decide) | exact fun q => absurd q (by rw [zx62]; decide) | exact fun _ => (show bitM (fun i => T_1 m_viewOf i = nI v) u = bitM (fun i => S m_viewOf i = nI v) u from by rw [hSp_3.1 m_viewOf (by decide)]) | exact fun _ => ⟨fun q => absurd q q1, fun _ => rfl⟩ | exact fun _ => ⟨fun q => absurd q q1, fun _ => et⟩), (by first | exact fun q => absurd (zx62.symm.trans q) (by decide) | exact fun _ => rfl | exact fun q => absurd zt62 (by rw [q]; decide) | exact fun q => absurd q (by rw [zx62]; decide) | exact fun _ => (show bitM (fun i => T_1 m_viewOf i = nI v) u = bitM (fun i => S m_viewOf i = nI v) u from by rw [hSp_3.1 m_viewOf (by decide)]) | exact fun _ => ⟨fun q => absurd q q1, fun _ => rfl⟩ | exact fun _ => ⟨fun q => absurd q q1, fun _ => et⟩), (by first | exact fun q => absurd (zx62.symm.trans q) (by decide) | exact fun _ => rfl | exact fun q => absurd zt62 (by rw [q]; decide) | exact fun q => absurd q (by rw [zx62]; decide) | exact fun _ => (show bitM (fun i => T_1 m_viewOf i = nI v) u = bitM (fun i => S m_viewOf i = nI v) u from by rw [hSp_3.1 m_viewOf (by decide)]) | exact fun _ => ⟨fun q => absurd q q1, fun _ => rfl⟩ | exact fun _ => ⟨fun q => absurd q q1, fun _ => et⟩), (by first | exact fun q => absurd (zx62.symm.trans q) (by decide) | exact fun _ => rfl | exact fun q => absurd zt62 (by rw [q]; decide) | exact fun q => absurd q (by rw [zx62]; decide) | exact fun _ => (show bitM (fun i => T_1 m_viewOf i = nI v) u = bitM (fun i => S m_viewOf i = nI v) u from by rw [hSp_3.1 m_viewOf (by decide)]) | exact fun _ => ⟨fun q => absurd q q1, fun _ => rfl⟩ | exact fun _ => ⟨fun q => absurd q q1, fun _ => et⟩)⟩
          · skip
            refine xi_iload_n hC dX8_view_33 (pc' := 34) rfl rfl rfl ?_
            refine xn_iflt (tgt := 61) hC dX8_view_34 (pc' := 37) rfl (by decide) (by omega) (fun zc34 => ?_) (fun zc34 => ?_)
            · exact zc34.elim
            · skip
              refine xi_iload hC dX8_view_37 (pc' := 39) rfl rfl ?_
              refine xi_aload_n hC dX8_view_39 (pc' := 40) rfl rfl rfl ?_
              refine xg8_row hC dX8_view_40 (pc' := 43) rfl xw_f_X8_7 kd_oMod ?_
              refine xi_iload_n hC dX8_view_43 (pc' := 44) rfl rfl rfl ?_
              refine xi_iload_n hC dX8_view_44 (pc' := 45) rfl rfl rfl ?_
              refine xi_callS (As := [.int (nI v), .int (nI (bst S u v))]) (rest := [.ref (b + m_row), .int t]) (c_X8_entryAt l D b n (C := C) (S := T_1) (a := v) (c := bst S u v)) hC dX8_view_45 (pc' := 48) rfl xw_m_X8_94 xw_c_X8_entryAt xw_sta_X8_entryAt xw_ini_X8 xd_X8_entryAt ⟨Nat.le_of_ble_eq_true rfl, Nat.le_of_ble_eq_true rfl⟩ rfl (Nat.le_of_ble_eq_true rfl) ⟨Nat.le_of_ble_eq_true rfl, Nat.le_of_ble_eq_true rfl⟩ ?_
              rintro _ _ ⟨rfl, rfl⟩
              show xV _ _ _ _ _ _ _ _ _ _ _ _ _ _ _ _ _ (xH D b (jn C T_1)) _ _ [.int (nI (30 * v + 5 * (bst S u v))), .ref (b + m_row), .int t]
              refine xi_iload hC dX8_view_48 (pc' := 50) rfl rfl ?_
              refine xn_iadd hC dX8_view_50 (pc' := 51) rfl ?_
              refine xt_l_i hC dX8_view_51 (pc' := 52) rfl (N := 180) kd_m_row (by decide) (by decide) rfl (by omega) ?_
              refine xtop (y := (S m_row ((30 * v + 5 * (bst S u v)) + j))) (by rw [hSp_3.1 m_row (by first | (simp only [oMs, oVws, oScr, oSgn, oMod, oMem, oSig, oKno, oPro, oBox, oFst, oSnd, oLts, oLet, oNum, oVw, oEnt, oBef, oBk, oVs, oCon, oVec, m_row, m_keptOf, m_keptRow, m_viewOf, m_alarmOf, m_hasProof, m_depthOf, m_proofOf, m_signedOf, m_knownOf, m_doneOf, m_shownTo, m_sentBy, m_hasRead, m_readOf, m_lettersOf, m_letter, m_hand, m_text] <;> omega) | decide | omega | (simp only [oMs, oVws, oScr, oSgn, oMod, oMem, oSig, oKno, oPro, oBox, oFst, oSnd, oLts, oLet, oNum, oVw, oEnt, oBef, oBk, oVs, oCon, oVec, m_row, m_keptOf, m_keptRow, m_viewOf, m_alarmOf, m_hasProof, m_depthOf, m_proofOf, m_signedOf, m_knownOf, m_doneOf, m_shownTo, m_sentBy, m_hasRead, m_readOf, m_lettersOf, m_letter, m_hand, m_text] at * <;> omega))]) ?_
              refine xi_iadd hC dX8_view_52 (pc' := 53) rfl ?_
              refine xi_istore (lv' := [some (.ref (b + oMod)), some (.int (nI v)), some (.int y), some (.int (nI (bst S u v))), some (.int (t + (S m_row ((30 * v + 5 * (bst S u v)) + j)))), some (.int (nI j))]) hC dX8_view_53 (pc' := 55) rfl (by decide) rfl ?_
              refine xn_iinc (lv' := [some (.ref (b + oMod)), some (.int (nI v)), some (.int y), some (.int (nI (bst S u v))), some (.int (t + (S m_row ((30 * v + 5 * (bst S u v)) + j)))), some (.int (nI (j + 1)))]) hC dX8_view_55 (pc' := 58) rfl rfl (by decide) rfl ?_
              refine xi_goto (tgt := 24) hC dX8_view_58 (by decide) ?_
              refine ih24 _ _ (by omega) ?_ ?_
              · omega
              · rw [et]; rfl
      refine L24 _ _ _ (Nat.lt_succ_self _) ?_ ?_
      · omega
      · exact nI_0
  · skip
    refine xi_sipush (v := -10001) hC dX8_view_8 (pc' := 11) rfl (by decide +kernel) ?_
    refine xi_ireturn hC dX8_view_11 hr rfl ?_
    exact ⟨_, S, rfl, ⟨Sp.rf, fun _ => rfl, fun i h e => absurd ⟨i, h, e⟩ zc5⟩, rfl⟩

set_option maxRecDepth 100000 in
set_option maxHeartbeats 4000000 in
theorem c_X8_compare (l : Launch) (D : XD) (b n : Nat) {C S : XM} {u w : Nat} (hW : MW S u w) {x y z : Int32} : xM l yX8_compare cX8_compare 4 (some .int) 2 51 0 0 D b n [.ref (b + oMod), .int x, .int y, .int z] (xH D b (jn C S)) n (fun y' h' => ∃ r : Int32, y' = some (.int r) ∧ s_compare S u x y z r ∧ h' = xH D b (jn C S)) := by
  refine xM.of (lv := [some (.ref (b + oMod)), some (.int x), some (.int y), some (.int z)]) (by decide +kernel) rfl (List.forall_mem_cons.mpr ⟨rfl, List.forall_mem_cons.mpr ⟨rfl, List.forall_mem_cons.mpr ⟨rfl, List.forall_mem_cons.mpr ⟨rfl, fun _ h => absurd h List.not_mem_nil⟩⟩⟩⟩) (Nat.le_of_ble_eq_true rfl) rfl ?_
  intro p e s m args below meth c hC hr hnm
  obtain ⟨hU, hN, hVw, hKp, hLt, hTx, hAl⟩ := id hW
  obtain ⟨hu, hu2, hu5⟩ := id hU
  obtain ⟨hn, hw1, hw6⟩ := id hN
  refine xi_aload_n hC dX8_compare_0 (pc' := 1) rfl rfl rfl ?_
  refine xi_iload_n hC dX8_compare_1 (pc' := 2) rfl rfl rfl ?_
  refine xi_callV (As := [.int x]) (rest := []) (c_X8_noUser l D b n (C := C) (S := S) (x := x) hU) hC dX8_compare_2 (pc' := 5) rfl xw_m_X8_126 xw_c_X8_noUser xw_ins_X8_noUser xw_sel_X8_noUser xw_ini_X8 xd_X8_noUser (xH_at.trans (xsh_8 kd_oMod)) rfl ⟨Nat.le_of_ble_eq_true rfl, Nat.le_of_ble_eq_true rfl⟩ rfl (Nat.le_of_ble_eq_true rfl) ⟨Nat.le_of_ble_eq_true rfl, Nat.le_of_ble_eq_true rfl⟩ ?_
  rintro _ _ ⟨rfl, rfl⟩
  show xV _ _ _ _ _ _ _ _ _ _ _ _ _ _ _ _ _ (xH D b (jn C S)) _ _ [.int (bI (¬ isU u x))]
  refine xb_ifne (tgt := 16) hC dX8_compare_5 (pc' := 8) rfl (by decide) (fun zc5 => ?_) (fun zc5 => ?_)
  · skip
    refine xi_sipush (v := -10001) hC dX8_compare_16 (pc' := 19) rfl (by decide +kernel) ?_
    refine xi_ireturn hC dX8_compare_19 hr rfl ?_
    exact ⟨_, rfl, ⟨fun _ => rfl, fun i j h1 h2 e1 e2 => by first | exact absurd (show ∃ k, _ from ⟨j, h2, e2⟩) zc13 | exact absurd (show ∃ k, _ from ⟨i, h1, e1⟩) zc5⟩, rfl⟩
  · skip
    refine xi_aload_n hC dX8_compare_8 (pc' := 9) rfl rfl rfl ?_
    refine xi_iload_n hC dX8_compare_9 (pc' := 10) rfl rfl rfl ?_
    refine xi_callV (As := [.int y]) (rest := []) (c_X8_noUser l D b n (C := C) (S := S) (x := y) hU) hC dX8_compare_10 (pc' := 13) rfl xw_m_X8_126 xw_c_X8_noUser xw_ins_X8_noUser xw_sel_X8_noUser xw_ini_X8 xd_X8_noUser (xH_at.trans (xsh_8 kd_oMod)) rfl ⟨Nat.le_of_ble_eq_true rfl, Nat.le_of_ble_eq_true rfl⟩ rfl (Nat.le_of_ble_eq_true rfl) ⟨Nat.le_of_ble_eq_true rfl, Nat.le_of_ble_eq_true rfl⟩ ?_
    rintro _ _ ⟨rfl, rfl⟩
    show xV _ _ _ _ _ _ _ _ _ _ _ _ _ _ _ _ _ (xH D b (jn C S)) _ _ [.int (bI (¬ isU u y))]
    refine xb_ifeq (tgt := 20) hC dX8_compare_13 (pc' := 16) rfl (by decide) (fun zc13 => ?_) (fun zc13 => ?_)
    · skip
      obtain ⟨i, hi, rfl⟩ := Classical.not_not.mp zc5
      obtain ⟨j, hj, rfl⟩ := Classical.not_not.mp zc13
      refine xi_iload_n hC dX8_compare_20 (pc' := 21) rfl rfl rfl ?_
      refine xi_ifeq (tgt := 37) hC dX8_compare_21 (pc' := 24) rfl (by decide) (fun zc21 => ?_) (fun zc21 => ?_)
      · skip
        refine xi_aload_n hC dX8_compare_37 (pc' := 38) rfl rfl rfl ?_
        refine xi_aload_n hC dX8_compare_38 (pc' := 39) rfl rfl rfl ?_
        refine xg8_signedOf hC dX8_compare_39 (pc' := 42) rfl xw_f_X8_35 kd_oMod ?_
        refine xi_iload_n hC dX8_compare_42 (pc' := 43) rfl rfl rfl ?_
        refine xi_iload_n hC dX8_compare_43 (pc' := 44) rfl rfl rfl ?_
        refine xi_callV (As := [.ref (b + m_signedOf), .int (nI i), .int (nI j)]) (rest := []) (c_X8_compared l D b n (C := C) (S := S) (u := u) (oa := m_signedOf) (i := i) (j := j) hU kd_m_signedOf (by decide) (by omega) (by omega)) hC dX8_compare_44 (pc' := 47) rfl xw_m_X8_142 xw_c_X8_compared xw_ins_X8_compared xw_sel_X8_compared xw_ini_X8 xd_X8_compared (xH_at.trans (xsh_8 kd_oMod)) rfl ⟨Nat.le_of_ble_eq_true rfl, Nat.le_of_ble_eq_true rfl⟩ rfl (Nat.le_of_ble_eq_true rfl) ⟨Nat.le_of_ble_eq_true rfl, Nat.le_of_ble_eq_true rfl⟩ ?_
        rintro _ _ ⟨rfl, rfl⟩
        show xV _ _ _ _ _ _ _ _ _ _ _ _ _ _ _ _ _ (xH D b (jn C S)) _ _ [.int (rel u (sl (S m_signedOf) (5 * i)) (sl (S m_signedOf) (5 * j)))]
        refine xi_ireturn hC dX8_compare_47 hr rfl ?_
        refine ⟨_, rfl, ⟨fun q => absurd ⟨⟨i, hi, rfl⟩, ⟨j, hj, rfl⟩⟩ q, fun i' j' hi' hj' e1 e2 => ?_⟩, rfl⟩
        obtain rfl := nI_inj (by omega) (by omega) e1
        obtain rfl := nI_inj (by omega) (by omega) e2
        first
          | exact ⟨fun q => absurd q zc21, fun _ => rfl⟩
          | exact ⟨fun _ => rfl, fun q => absurd zc21 q⟩
      · skip
        refine xi_aload_n hC dX8_compare_24 (pc' := 25) rfl rfl rfl ?_
        refine xi_aload_n hC dX8_compare_25 (pc' := 26) rfl rfl rfl ?_
        refine xg8_knownOf hC dX8_compare_26 (pc' := 29) rfl xw_f_X8_38 kd_oMod ?_
        refine xi_iload_n hC dX8_compare_29 (pc' := 30) rfl rfl rfl ?_
        refine xi_iload_n hC dX8_compare_30 (pc' := 31) rfl rfl rfl ?_
        refine xi_callV (As := [.ref (b + m_knownOf), .int (nI i), .int (nI j)]) (rest := []) (c_X8_compared l D b n (C := C) (S := S) (u := u) (oa := m_knownOf) (i := i) (j := j) hU kd_m_knownOf (by decide) (by omega) (by omega)) hC dX8_compare_31 (pc' := 34) rfl xw_m_X8_142 xw_c_X8_compared xw_ins_X8_compared xw_sel_X8_compared xw_ini_X8 xd_X8_compared (xH_at.trans (xsh_8 kd_oMod)) rfl ⟨Nat.le_of_ble_eq_true rfl, Nat.le_of_ble_eq_true rfl⟩ rfl (Nat.le_of_ble_eq_true rfl) ⟨Nat.le_of_ble_eq_true rfl, Nat.le_of_ble_eq_true rfl⟩ ?_
        rintro _ _ ⟨rfl, rfl⟩
        show xV _ _ _ _ _ _ _ _ _ _ _ _ _ _ _ _ _ (xH D b (jn C S)) _ _ [.int (rel u (sl (S m_knownOf) (5 * i)) (sl (S m_knownOf) (5 * j)))]
        refine xi_goto (tgt := 47) hC dX8_compare_34 (by decide) ?_
        refine xi_ireturn hC dX8_compare_47 hr rfl ?_
        refine ⟨_, rfl, ⟨fun q => absurd ⟨⟨i, hi, rfl⟩, ⟨j, hj, rfl⟩⟩ q, fun i' j' hi' hj' e1 e2 => ?_⟩, rfl⟩
        obtain rfl := nI_inj (by omega) (by omega) e1
        obtain rfl := nI_inj (by omega) (by omega) e2
        first
          | exact ⟨fun q => absurd q zc21, fun _ => rfl⟩
          | exact ⟨fun _ => rfl, fun q => absurd zc21 q⟩
    · skip
      refine xi_sipush (v := -10001) hC dX8_compare_16 (pc' := 19) rfl (by decide +kernel) ?_
      refine xi_ireturn hC dX8_compare_19 hr rfl ?_
      exact ⟨_, rfl, ⟨fun _ => rfl, fun i j h1 h2 e1 e2 => by first | exact absurd (show ∃ k, _ from ⟨j, h2, e2⟩) zc13 | exact absurd (show ∃ k, _ from ⟨i, h1, e1⟩) zc5⟩, rfl⟩

set_option maxRecDepth 100000 in
set_option maxHeartbeats 4000000 in
theorem c_X8_forkedPairs (l : Launch) (D : XD) (b n : Nat) {C S : XM} {u w : Nat} (hW : MW S u w)  : xM l yX8_forkedPairs cX8_forkedPairs 4 (some .int) 2 51 0 0 D b n [.ref (b + oMod)] (xH D b (jn C S)) n (fun y' h' => ∃ r : Int32, y' = some (.int r) ∧ s_pairs S u r ∧ h' = xH D b (jn C S)) := by
  refine xM.of (lv := [some (.ref (b + oMod)), none, none, none]) (by decide +kernel) rfl (List.forall_mem_cons.mpr ⟨rfl, fun _ h => absurd h List.not_mem_nil⟩) (Nat.le_of_ble_eq_true rfl) rfl ?_
  intro p e s m args below meth c hC hr hnm
  obtain ⟨hU, hN, hVw, hKp, hLt, hTx, hAl⟩ := id hW
  obtain ⟨hu, hu2, hu5⟩ := id hU
  obtain ⟨hn, hw1, hw6⟩ := id hN
  refine xi_iconst (v := nI 0) hC dX8_forkedPairs_0 (pc' := 1) rfl (by decide +kernel) ?_
  refine xi_istore_n (lv' := [some (.ref (b + oMod)), some (.int (nI 0)), none, none]) hC dX8_forkedPairs_1 (pc' := 2) rfl rfl (by decide) rfl ?_
  refine xi_iconst (v := nI 0) hC dX8_forkedPairs_2 (pc' := 3) rfl (by decide +kernel) ?_
  refine xi_istore_n (lv' := [some (.ref (b + oMod)), some (.int (nI 0)), some (.int (nI 0)), none]) hC dX8_forkedPairs_3 (pc' := 4) rfl rfl (by decide) rfl ?_
  have L4 : ∀ (d : Nat) (i : Nat) (cn : Nat) (v3 : Option Value), u - i < d → (i ≤ u) → (cn = pcnt (fkQ S u) i) → xV p l e (xR 2 51 0 0) s m args below meth c D b 4 0 0 (MQ below (xQ D b n (fun y' h' => ∃ r : Int32, y' = some (.int r) ∧ s_pairs S u r ∧ h' = xH D b (jn C S))) args s 0 0 (fun q => b ≤ q)) n (xH D b (jn C S)) 4 [some (.ref (b + oMod)), some (.int (nI cn)), some (.int (nI i)), v3] [] := by
    intro d
    induction d with
    | zero => intro i cn v3 h; exact absurd h (Nat.not_lt_zero _)
    | succ d ih4 =>
      intro i cn v3 hd4 hi en
      refine xi_iload_n hC dX8_forkedPairs_4 (pc' := 5) rfl rfl rfl ?_
      refine xi_aload_n hC dX8_forkedPairs_5 (pc' := 6) rfl rfl rfl ?_
      refine xt_g_users hC dX8_forkedPairs_6 (pc' := 9) rfl xw_f_X8_73 ?_
      refine xtop (y := (nI u)) (hu) ?_
      refine xn_icmpge (tgt := 53) hC dX8_forkedPairs_9 (pc' := 12) rfl (by decide) (by omega) (by omega) (fun zc9 => ?_) (fun zc9 => ?_)
      · skip
        refine xi_iload_n hC dX8_forkedPairs_53 (pc' := 54) rfl rfl rfl ?_
        refine xi_ireturn hC dX8_forkedPairs_54 hr rfl ?_
        exact ⟨_, rfl, by rw [en, show i = u by omega]; rfl, rfl⟩
      · skip
        refine xi_iconst (v := nI 0) hC dX8_forkedPairs_12 (pc' := 13) rfl (by decide +kernel) ?_
        refine xi_istore_n (lv' := [some (.ref (b + oMod)), some (.int (nI cn)), some (.int (nI i)), some (.int (nI 0))]) hC dX8_forkedPairs_13 (pc' := 14) rfl rfl (by decide) rfl ?_
        have L14 : ∀ (d : Nat) (j : Nat) (cm : Nat), i - j < d → (j ≤ i) → (cm = pcnt (fkQ S u) i + xcnt (fkQ S u i) j) → xV p l e (xR 2 51 0 0) s m args below meth c D b 4 0 0 (MQ below (xQ D b n (fun y' h' => ∃ r : Int32, y' = some (.int r) ∧ s_pairs S u r ∧ h' = xH D b (jn C S))) args s 0 0 (fun q => b ≤ q)) n (xH D b (jn C S)) 14 [some (.ref (b + oMod)), some (.int (nI cm)), some (.int (nI i)), some (.int (nI j))] [] := by
          intro d
          induction d with
          | zero => intro j cm h; exact absurd h (Nat.not_lt_zero _)
          | succ d ih14 =>
            intro j cm hd14 hj em
            refine xi_iload_n hC dX8_forkedPairs_14 (pc' := 15) rfl rfl rfl ?_
            refine xi_iload_n hC dX8_forkedPairs_15 (pc' := 16) rfl rfl rfl ?_
            refine xn_icmpge (tgt := 47) hC dX8_forkedPairs_16 (pc' := 19) rfl (by decide) (by omega) (by omega) (fun zc16 => ?_) (fun zc16 => ?_)
            · skip
              refine xn_iinc (lv' := [some (.ref (b + oMod)), some (.int (nI cm)), some (.int (nI (i + 1))), some (.int (nI j))]) hC dX8_forkedPairs_47 (pc' := 50) rfl rfl (by decide) rfl ?_
              refine xi_goto (tgt := 4) hC dX8_forkedPairs_50 (by decide) ?_
              refine ih4 _ _ _ (by omega) ?_ ?_
              · omega
              · rw [em, show j = i by omega]; rfl
            · skip
              refine xi_iload_n hC dX8_forkedPairs_19 (pc' := 20) rfl rfl rfl ?_
              refine xi_aload_n hC dX8_forkedPairs_20 (pc' := 21) rfl rfl rfl ?_
              refine xi_aload_n hC dX8_forkedPairs_21 (pc' := 22) rfl rfl rfl ?_
              refine xg8_knownOf hC dX8_forkedPairs_22 (pc' := 25) rfl xw_f_X8_38 kd_oMod ?_
              refine xi_iload_n hC dX8_forkedPairs_25 (pc' := 26) rfl rfl rfl ?_
              refine xi_iload_n hC dX8_forkedPairs_26 (pc' := 27) rfl rfl rfl ?_
              refine xi_callV (As := [.ref (b + m_knownOf), .int (nI i), .int (nI j)]) (rest := [.int (nI cm)]) (c_X8_compared l D b n (C := C) (S := S) (u := u) (oa := m_knownOf) (i := i) (j := j) hU kd_m_knownOf (by decide) (by omega) (by omega)) hC dX8_forkedPairs_27 (pc' := 30) rfl xw_m_X8_142 xw_c_X8_compared xw_ins_X8_compared xw_sel_X8_compared xw_ini_X8 xd_X8_compared (xH_at.trans (xsh_8 kd_oMod)) rfl ⟨Nat.le_of_ble_eq_true rfl, Nat.le_of_ble_eq_true rfl⟩ rfl (Nat.le_of_ble_eq_true rfl) ⟨Nat.le_of_ble_eq_true rfl, Nat.le_of_ble_eq_true rfl⟩ ?_
              rintro _ _ ⟨rfl, rfl⟩
              show xV _ _ _ _ _ _ _ _ _ _ _ _ _ _ _ _ _ (xH D b (jn C S)) _ _ [.int (rel u (sl (S m_knownOf) (5 * i)) (sl (S m_knownOf) (5 * j))), .int (nI cm)]
              refine xi_iconst (v := nI 2) hC dX8_forkedPairs_30 (pc' := 31) rfl (by decide +kernel) ?_
              refine xi_icmpne (tgt := 38) hC dX8_forkedPairs_31 (pc' := 34) rfl (by decide) (fun zc31 => ?_) (fun zc31 => ?_)
              · skip
                refine xi_iconst (v := nI 0) hC dX8_forkedPairs_38 (pc' := 39) rfl (by decide +kernel) ?_
                refine xn_iadd hC dX8_forkedPairs_39 (pc' := 40) rfl ?_
                refine xi_istore_n (lv' := [some (.ref (b + oMod)), some (.int (nI (cm + 0))), some (.int (nI i)), some (.int (nI j))]) hC dX8_forkedPairs_40 (pc' := 41) rfl rfl (by decide) rfl ?_
                refine xn_iinc (lv' := [some (.ref (b + oMod)), some (.int (nI (cm + 0))), some (.int (nI i)), some (.int (nI (j + 1)))]) hC dX8_forkedPairs_41 (pc' := 44) rfl rfl (by decide) rfl ?_
                refine xi_goto (tgt := 14) hC dX8_forkedPairs_44 (by decide) ?_
                refine ih14 _ _ (by omega) ?_ ?_
                · omega
                · first
                    | (have := xcnt_t (P := fkQ S u i) (k := j) zc31
                       omega)
                    | (have := xcnt_f (P := fkQ S u i) (k := j) zc31
                       omega)
              · skip
                refine xi_iconst (v := nI 1) hC dX8_forkedPairs_34 (pc' := 35) rfl (by decide +kernel) ?_
                refine xi_goto (tgt := 39) hC dX8_forkedPairs_35 (by decide) ?_
                refine xn_iadd hC dX8_forkedPairs_39 (pc' := 40) rfl ?_
                refine xi_istore_n (lv' := [some (.ref (b + oMod)), some (.int (nI (cm + 1))), some (.int (nI i)), some (.int (nI j))]) hC dX8_forkedPairs_40 (pc' := 41) rfl rfl (by decide) rfl ?_
                refine xn_iinc (lv' := [some (.ref (b + oMod)), some (.int (nI (cm + 1))), some (.int (nI i)), some (.int (nI (j + 1)))]) hC dX8_forkedPairs_41 (pc' := 44) rfl rfl (by decide) rfl ?_
                refine xi_goto (tgt := 14) hC dX8_forkedPairs_44 (by decide) ?_
                refine ih14 _ _ (by omega) ?_ ?_
                · omega
                · first
                    | (have := xcnt_t (P := fkQ S u i) (k := j) zc31
                       omega)
                    | (have := xcnt_f (P := fkQ S u i) (k := j) zc31
                       omega)
        refine L14 _ _ _ (Nat.lt_succ_self _) ?_ ?_
        · omega
        · exact en
  refine L4 _ _ _ _ (Nat.lt_succ_self _) ?_ ?_
  · omega
  · rfl

set_option maxRecDepth 100000 in
set_option maxHeartbeats 4000000 in
theorem c_X8_tellingLetter (l : Launch) (D : XD) (b n : Nat) {C S : XM} {u w : Nat} (hW : MW S u w)  : xM l yX8_tellingLetter cX8_tellingLetter 3 (some .int) 2 51 0 0 D b n [.ref (b + oMod)] (xH D b (jn C S)) n (fun y' h' => ∃ r : Int32, y' = some (.int r) ∧ s_tell S u r ∧ h' = xH D b (jn C S)) := by
  refine xM.of (lv := [some (.ref (b + oMod)), none, none]) (by decide +kernel) rfl (List.forall_mem_cons.mpr ⟨rfl, fun _ h => absurd h List.not_mem_nil⟩) (Nat.le_of_ble_eq_true rfl) rfl ?_
  intro p e s m args below meth c hC hr hnm
  obtain ⟨hU, hN, hVw, hKp, hLt, hTx, hAl⟩ := id hW
  obtain ⟨hu, hu2, hu5⟩ := id hU
  obtain ⟨hn, hw1, hw6⟩ := id hN
  refine xi_iconst (v := nI 0) hC dX8_tellingLetter_0 (pc' := 1) rfl (by decide +kernel) ?_
  refine xi_istore_n (lv' := [some (.ref (b + oMod)), some (.int (nI 0)), none]) hC dX8_tellingLetter_1 (pc' := 2) rfl rfl (by decide) rfl ?_
  have L2 : ∀ (d : Nat) (i : Nat) (v2 : Option Value), u - i < d → (i ≤ u) → (∀ a c, a < i → c < u → ¬ tlQ S u a c) → xV p l e (xR 2 51 0 0) s m args below meth c D b 3 0 0 (MQ below (xQ D b n (fun y' h' => ∃ r : Int32, y' = some (.int r) ∧ s_tell S u r ∧ h' = xH D b (jn C S))) args s 0 0 (fun q => b ≤ q)) n (xH D b (jn C S)) 2 [some (.ref (b + oMod)), some (.int (nI i)), v2] [] := by
    intro d
    induction d with
    | zero => intro i v2 h; exact absurd h (Nat.not_lt_zero _)
    | succ d ih2 =>
      intro i v2 hd2 hi h1
      refine xi_iload_n hC dX8_tellingLetter_2 (pc' := 3) rfl rfl rfl ?_
      refine xi_aload_n hC dX8_tellingLetter_3 (pc' := 4) rfl rfl rfl ?_
      refine xt_g_users hC dX8_tellingLetter_4 (pc' := 7) rfl xw_f_X8_73 ?_
      refine xtop (y := (nI u)) (hu) ?_
      refine xn_icmpge (tgt := 62) hC dX8_tellingLetter_7 (pc' := 10) rfl (by decide) (by omega) (by omega) (fun zc7 => ?_) (fun zc7 => ?_)
      · skip
        refine xi_sipush (v := -10005) hC dX8_tellingLetter_62 (pc' := 65) rfl (by decide +kernel) ?_
        refine xi_ireturn hC dX8_tellingLetter_65 hr rfl ?_
        exact ⟨_, rfl, ⟨fun i' j' q => absurd q.2.2.1 (h1 i' j' (by have := q.1; omega) q.2.1), fun _ => rfl⟩, rfl⟩
      · skip
        refine xi_iconst (v := nI 0) hC dX8_tellingLetter_10 (pc' := 11) rfl (by decide +kernel) ?_
        refine xi_istore_n (lv' := [some (.ref (b + oMod)), some (.int (nI i)), some (.int (nI 0))]) hC dX8_tellingLetter_11 (pc' := 12) rfl rfl (by decide) rfl ?_
        have L12 : ∀ (d : Nat) (j : Nat), u - j < d → (j ≤ u) → (∀ c, c < j → ¬ tlQ S u i c) → xV p l e (xR 2 51 0 0) s m args below meth c D b 3 0 0 (MQ below (xQ D b n (fun y' h' => ∃ r : Int32, y' = some (.int r) ∧ s_tell S u r ∧ h' = xH D b (jn C S))) args s 0 0 (fun q => b ≤ q)) n (xH D b (jn C S)) 12 [some (.ref (b + oMod)), some (.int (nI i)), some (.int (nI j))] [] := by
          intro d
          induction d with
          | zero => intro j h; exact absurd h (Nat.not_lt_zero _)
          | succ d ih12 =>
            intro j hd12 hj h2
            refine xi_iload_n hC dX8_tellingLetter_12 (pc' := 13) rfl rfl rfl ?_
            refine xi_aload_n hC dX8_tellingLetter_13 (pc' := 14) rfl rfl rfl ?_
            refine xt_g_users hC dX8_tellingLetter_14 (pc' := 17) rfl xw_f_X8_73 ?_
            refine xtop (y := (nI u)) (hu) ?_
            refine xn_icmpge (tgt := 56) hC dX8_tellingLetter_17 (pc' := 20) rfl (by decide) (by omega) (by omega) (fun zc17 => ?_) (fun zc17 => ?_)
            · skip
              refine xn_iinc (lv' := [some (.ref (b + oMod)), some (.int (nI (i + 1))), some (.int (nI j))]) hC dX8_tellingLetter_56 (pc' := 59) rfl rfl (by decide) rfl ?_
              refine xi_goto (tgt := 2) hC dX8_tellingLetter_59 (by decide) ?_
              refine ih2 _ _ (by omega) ?_ ?_
              · omega
              · intro a c q r
                rcases Nat.lt_or_ge a i with z | z
                · exact h1 a c z r
                · rw [show a = i by omega]; exact h2 c (by omega)
            · skip
              refine xi_aload_n hC dX8_tellingLetter_20 (pc' := 21) rfl rfl rfl ?_
              refine xg8_alarmOf hC dX8_tellingLetter_21 (pc' := 24) rfl xw_f_X8_22 kd_oMod ?_
              refine xi_iload_n hC dX8_tellingLetter_24 (pc' := 25) rfl rfl rfl ?_
              refine xt_l_i hC dX8_tellingLetter_25 (pc' := 26) rfl (N := 5) kd_m_alarmOf (by decide) (by decide) rfl (by omega) ?_
              refine xi_ifne (tgt := 50) hC dX8_tellingLetter_26 (pc' := 29) rfl (by decide) (fun zc26 => ?_) (fun zc26 => ?_)
              · skip
                refine xn_iinc (lv' := [some (.ref (b + oMod)), some (.int (nI i)), some (.int (nI (j + 1)))]) hC dX8_tellingLetter_50 (pc' := 53) rfl rfl (by decide) rfl ?_
                refine xi_goto (tgt := 12) hC dX8_tellingLetter_53 (by decide) ?_
                refine ih12 _ (by omega) ?_ ?_
                · omega
                · intro c q
                  rcases Nat.lt_or_ge c j with z | z
                  · exact h2 c z
                  · rw [show c = j by omega]
                    first
                      | exact fun r => zc26 r.1
                      | exact fun r => zc40 r.2
              · skip
                refine xi_aload_n hC dX8_tellingLetter_29 (pc' := 30) rfl rfl rfl ?_
                refine xi_aload_n hC dX8_tellingLetter_30 (pc' := 31) rfl rfl rfl ?_
                refine xg8_knownOf hC dX8_tellingLetter_31 (pc' := 34) rfl xw_f_X8_38 kd_oMod ?_
                refine xi_iload_n hC dX8_tellingLetter_34 (pc' := 35) rfl rfl rfl ?_
                refine xi_iload_n hC dX8_tellingLetter_35 (pc' := 36) rfl rfl rfl ?_
                refine xi_callV (As := [.ref (b + m_knownOf), .int (nI i), .int (nI j)]) (rest := []) (c_X8_compared l D b n (C := C) (S := S) (u := u) (oa := m_knownOf) (i := i) (j := j) hU kd_m_knownOf (by decide) (by omega) (by omega)) hC dX8_tellingLetter_36 (pc' := 39) rfl xw_m_X8_142 xw_c_X8_compared xw_ins_X8_compared xw_sel_X8_compared xw_ini_X8 xd_X8_compared (xH_at.trans (xsh_8 kd_oMod)) rfl ⟨Nat.le_of_ble_eq_true rfl, Nat.le_of_ble_eq_true rfl⟩ rfl (Nat.le_of_ble_eq_true rfl) ⟨Nat.le_of_ble_eq_true rfl, Nat.le_of_ble_eq_true rfl⟩ ?_
                rintro _ _ ⟨rfl, rfl⟩
                show xV _ _ _ _ _ _ _ _ _ _ _ _ _ _ _ _ _ (xH D b (jn C S)) _ _ [.int (rel u (sl (S m_knownOf) (5 * i)) (sl (S m_knownOf) (5 * j)))]
                refine xi_iconst (v := nI 2) hC dX8_tellingLetter_39 (pc' := 40) rfl (by decide +kernel) ?_
                refine xi_icmpne (tgt := 50) hC dX8_tellingLetter_40 (pc' := 43) rfl (by decide) (fun zc40 => ?_) (fun zc40 => ?_)
                · skip
                  refine xn_iinc (lv' := [some (.ref (b + oMod)), some (.int (nI i)), some (.int (nI (j + 1)))]) hC dX8_tellingLetter_50 (pc' := 53) rfl rfl (by decide) rfl ?_
                  refine xi_goto (tgt := 12) hC dX8_tellingLetter_53 (by decide) ?_
                  refine ih12 _ (by omega) ?_ ?_
                  · omega
                  · intro c q
                    rcases Nat.lt_or_ge c j with z | z
                    · exact h2 c z
                    · rw [show c = j by omega]
                      first
                        | exact fun r => zc26 r.1
                        | exact fun r => zc40 r.2
                · skip
                  refine xi_bipush (v := nI 10) hC dX8_tellingLetter_43 (pc' := 45) rfl (by decide +kernel) ?_
                  refine xi_iload_n hC dX8_tellingLetter_45 (pc' := 46) rfl rfl rfl ?_
                  refine xn_imul hC dX8_tellingLetter_46 (pc' := 47) rfl ?_
                  refine xi_iload_n hC dX8_tellingLetter_47 (pc' := 48) rfl rfl rfl ?_
                  refine xn_iadd hC dX8_tellingLetter_48 (pc' := 49) rfl ?_
                  refine xi_ireturn hC dX8_tellingLetter_49 hr rfl ?_
                  exact ⟨_, rfl, ⟨fun i' j' q => fst2_one (by omega) (by omega) ⟨zc26, zc40⟩ h1 h2 q, fun q => absurd ⟨zc26, zc40⟩ (q i j (by omega) (by omega))⟩, rfl⟩
        refine L12 _ _ (Nat.lt_succ_self _) ?_ ?_
        · omega
        · intro c q; exact absurd q (Nat.not_lt_zero _)
  refine L2 _ _ _ (Nat.lt_succ_self _) ?_ ?_
  · omega
  · intro a c q; exact absurd q (Nat.not_lt_zero _)

set_option maxRecDepth 100000 in
set_option maxHeartbeats 4000000 in
theorem c_X8_unaware (l : Launch) (D : XD) (b n : Nat) {C S : XM} {u w : Nat} (hW : MW S u w)  : xM l yX8_unaware cX8_unaware 5 (some .int) 4 97 0 0 D b n [.ref (b + oMod)] (xH D b (jn C S)) n (fun y' h' => ∃ (r : Int32) (T : XM), y' = some (.int r) ∧ s_unaware S u r T ∧ h' = xH D b (jn C T)) := by
  refine xM.of (lv := [some (.ref (b + oMod)), none, none, none, none]) (by decide +kernel) rfl (List.forall_mem_cons.mpr ⟨rfl, fun _ h => absurd h List.not_mem_nil⟩) (Nat.le_of_ble_eq_true rfl) rfl ?_
  intro p e s m args below meth c hC hr hnm
  obtain ⟨hU, hN, hVw, hKp, hLt, hTx, hAl⟩ := id hW
  obtain ⟨hu, hu2, hu5⟩ := id hU
  obtain ⟨hn, hw1, hw6⟩ := id hN
  refine xi_iconst (v := nI 0) hC dX8_unaware_0 (pc' := 1) rfl (by decide +kernel) ?_
  refine xi_istore_n (lv' := [some (.ref (b + oMod)), some (.int (nI 0)), none, none, none]) hC dX8_unaware_1 (pc' := 2) rfl rfl (by decide) rfl ?_
  refine xi_iconst (v := nI 0) hC dX8_unaware_2 (pc' := 3) rfl (by decide +kernel) ?_
  refine xi_istore_n (lv' := [some (.ref (b + oMod)), some (.int (nI 0)), some (.int (nI 0)), none, none]) hC dX8_unaware_3 (pc' := 4) rfl rfl (by decide) rfl ?_
  have L4 : ∀ (d : Nat) (i : Nat) (a : Int32) (T : XM) (v3 : Option Value) (v4 : Option Value), u - i < d → (i ≤ u) → (Sp S T) → (a = bitM (unQ S u) i) → xV p l e (xR 4 97 0 0) s m args below meth c D b 5 0 0 (MQ below (xQ D b n (fun y' h' => ∃ (r : Int32) (T : XM), y' = some (.int r) ∧ s_unaware S u r T ∧ h' = xH D b (jn C T))) args s 0 0 (fun q => b ≤ q)) n (xH D b (jn C T)) 4 [some (.ref (b + oMod)), some (.int a), some (.int (nI i)), v3, v4] [] := by
    intro d
    induction d with
    | zero => intro i a T v3 v4 h; exact absurd h (Nat.not_lt_zero _)
    | succ d ih4 =>
      intro i a T v3 v4 hd4 hi hSp ea
      refine xi_iload_n hC dX8_unaware_4 (pc' := 5) rfl rfl rfl ?_
      refine xi_aload_n hC dX8_unaware_5 (pc' := 6) rfl rfl rfl ?_
      refine xt_g_users hC dX8_unaware_6 (pc' := 9) rfl xw_f_X8_73 ?_
      refine xtop (y := (nI u)) ((hSp.2 0 (by decide) (by decide)).trans hu) ?_
      refine xn_icmpge (tgt := 98) hC dX8_unaware_9 (pc' := 12) rfl (by decide) (by omega) (by omega) (fun zc9 => ?_) (fun zc9 => ?_)
      · skip
        refine xi_iload_n hC dX8_unaware_98 (pc' := 99) rfl rfl rfl ?_
        refine xi_ireturn hC dX8_unaware_99 hr rfl ?_
        exact ⟨_, T, rfl, ⟨hSp, by rw [ea, show i = u by omega]⟩, rfl⟩
      · skip
        obtain ⟨v, hvw, hV⟩ := hVw i (by omega)
        have L35 : ∀ (T2 : XM) (w4 : Option Value), (Sp S T2) → xV p l e (xR 4 97 0 0) s m args below meth c D b 5 0 0 (MQ below (xQ D b n (fun y' h' => ∃ (r : Int32) (T : XM), y' = some (.int r) ∧ s_unaware S u r T ∧ h' = xH D b (jn C T))) args s 0 0 (fun q => b ≤ q)) n (xH D b (jn C T2)) 35 [some (.ref (b + oMod)), some (.int a), some (.int (nI i)), some (.int (bI (unB S u i 0))), w4] [] := by
          intro T2 w4 hSp2
          refine xi_iconst (v := nI 0) hC dX8_unaware_35 (pc' := 36) rfl (by decide +kernel) ?_
          refine xi_istore (lv' := [some (.ref (b + oMod)), some (.int a), some (.int (nI i)), some (.int (bI (unB S u i 0))), some (.int (nI 0))]) hC dX8_unaware_36 (pc' := 38) rfl (by decide) rfl ?_
          have L38 : ∀ (d : Nat) (j : Nat), u - j < d → (j ≤ u) → xV p l e (xR 4 97 0 0) s m args below meth c D b 5 0 0 (MQ below (xQ D b n (fun y' h' => ∃ (r : Int32) (T : XM), y' = some (.int r) ∧ s_unaware S u r T ∧ h' = xH D b (jn C T))) args s 0 0 (fun q => b ≤ q)) n (xH D b (jn C T2)) 38 [some (.ref (b + oMod)), some (.int a), some (.int (nI i)), some (.int (bI (unB S u i j))), some (.int (nI j))] [] := by
            intro d
            induction d with
            | zero => intro j h; exact absurd h (Nat.not_lt_zero _)
            | succ d ih38 =>
              intro j hd38 hj
              refine xi_iload hC dX8_unaware_38 (pc' := 40) rfl rfl ?_
              refine xi_aload_n hC dX8_unaware_40 (pc' := 41) rfl rfl rfl ?_
              refine xt_g_users hC dX8_unaware_41 (pc' := 44) rfl xw_f_X8_73 ?_
              refine xtop (y := (nI u)) ((hSp2.2 0 (by decide) (by decide)).trans hu) ?_
              refine xn_icmpge (tgt := 78) hC dX8_unaware_44 (pc' := 47) rfl (by decide) (by omega) (by omega) (fun zc44 => ?_) (fun zc44 => ?_)
              · skip
                refine xi_iload_n hC dX8_unaware_78 (pc' := 79) rfl rfl rfl ?_
                refine xi_iload_n hC dX8_unaware_79 (pc' := 80) rfl rfl rfl ?_
                refine xb_ifeq (tgt := 89) hC dX8_unaware_80 (pc' := 83) rfl (by decide) (fun zc80 => ?_) (fun zc80 => ?_)
                · skip
                  refine xi_iconst (v := nI 0) hC dX8_unaware_89 (pc' := 90) rfl (by decide +kernel) ?_
                  refine xi_ior hC dX8_unaware_90 (pc' := 91) rfl ?_
                  refine xi_istore_n (lv' := [some (.ref (b + oMod)), some (.int (a ||| (nI 0))), some (.int (nI i)), some (.int (bI (unB S u i j))), some (.int (nI j))]) hC dX8_unaware_91 (pc' := 92) rfl rfl (by decide) rfl ?_
                  refine xn_iinc (lv' := [some (.ref (b + oMod)), some (.int (a ||| (nI 0))), some (.int (nI (i + 1))), some (.int (bI (unB S u i j))), some (.int (nI j))]) hC dX8_unaware_92 (pc' := 95) rfl rfl (by decide) rfl ?_
                  refine xi_goto (tgt := 4) hC dX8_unaware_95 (by decide) ?_
                  refine ih4 _ _ _ _ _ (by omega) ?_ ?_ ?_
                  · omega
                  · exact hSp2
                  · rw [show j = u by omega] at zc80
                    first
                      | (rw [bitM_t (unB_u.mp zc80), ea])
                      | (rw [bitM_f (fun q => zc80 (unB_u.mpr q)), ea, or_0])
                · skip
                  refine xi_iconst (v := nI 1) hC dX8_unaware_83 (pc' := 84) rfl (by decide +kernel) ?_
                  refine xi_iload_n hC dX8_unaware_84 (pc' := 85) rfl rfl rfl ?_
                  refine xi_ishl hC dX8_unaware_85 (pc' := 86) rfl ?_
                  refine xi_goto (tgt := 90) hC dX8_unaware_86 (by decide) ?_
                  refine xi_ior hC dX8_unaware_90 (pc' := 91) rfl ?_
                  refine xi_istore_n (lv' := [some (.ref (b + oMod)), some (.int (a ||| ((nI 1) <<< ((nI i) &&& 31)))), some (.int (nI i)), some (.int (bI (unB S u i j))), some (.int (nI j))]) hC dX8_unaware_91 (pc' := 92) rfl rfl (by decide) rfl ?_
                  refine xn_iinc (lv' := [some (.ref (b + oMod)), some (.int (a ||| ((nI 1) <<< ((nI i) &&& 31)))), some (.int (nI (i + 1))), some (.int (bI (unB S u i j))), some (.int (nI j))]) hC dX8_unaware_92 (pc' := 95) rfl rfl (by decide) rfl ?_
                  refine xi_goto (tgt := 4) hC dX8_unaware_95 (by decide) ?_
                  refine ih4 _ _ _ _ _ (by omega) ?_ ?_ ?_
                  · omega
                  · exact hSp2
                  · rw [show j = u by omega] at zc80
                    first
                      | (rw [bitM_t (unB_u.mp zc80), ea])
                      | (rw [bitM_f (fun q => zc80 (unB_u.mpr q)), ea, or_0])
              · skip
                refine xi_iload_n hC dX8_unaware_47 (pc' := 48) rfl rfl rfl ?_
                refine xb_ifeq (tgt := 70) hC dX8_unaware_48 (pc' := 51) rfl (by decide) (fun zc48 => ?_) (fun zc48 => ?_)
                · skip
                  refine xi_iconst (v := nI 0) hC dX8_unaware_70 (pc' := 71) rfl (by decide +kernel) ?_
                  refine xtop (y := (bI (unB S u i (j + 1)))) (by
                      have k1 : sl (T2 m_knownOf) (5 * i) = rK S i := hSp2.rK i
                      have k2 : sl (T2 m_knownOf) (5 * j) = rK S j := hSp2.rK j
                      first
                        | exact (bI_f fun q => zc48 (unB_f q).1).symm
                        | (rw [k1, k2] at zc63
                           first
                             | exact (bI_f fun q => (unB_f q).2 (rel_ge.mp zc63)).symm
                             | exact (bI_t (unB_t zc48 fun q => zc63 (rel_ge.mpr q))).symm)) ?_
                  refine xi_istore_n (lv' := [some (.ref (b + oMod)), some (.int a), some (.int (nI i)), some (.int (bI (unB S u i (j + 1)))), some (.int (nI j))]) hC dX8_unaware_71 (pc' := 72) rfl rfl (by decide) rfl ?_
                  refine xn_iinc (lv' := [some (.ref (b + oMod)), some (.int a), some (.int (nI i)), some (.int (bI (unB S u i (j + 1)))), some (.int (nI (j + 1)))]) hC dX8_unaware_72 (pc' := 75) rfl rfl (by decide) rfl ?_
                  refine xi_goto (tgt := 38) hC dX8_unaware_75 (by decide) ?_
                  refine ih38 _ (by omega) ?_
                  · omega
                · skip
                  refine xi_aload_n hC dX8_unaware_51 (pc' := 52) rfl rfl rfl ?_
                  refine xi_aload_n hC dX8_unaware_52 (pc' := 53) rfl rfl rfl ?_
                  refine xg8_knownOf hC dX8_unaware_53 (pc' := 56) rfl xw_f_X8_38 kd_oMod ?_
                  refine xi_iload_n hC dX8_unaware_56 (pc' := 57) rfl rfl rfl ?_
                  refine xi_iload hC dX8_unaware_57 (pc' := 59) rfl rfl ?_
                  refine xi_callV (As := [.ref (b + m_knownOf), .int (nI i), .int (nI j)]) (rest := []) (c_X8_compared l D b n (C := C) (S := T2) (u := u) (oa := m_knownOf) (i := i) (j := j) (hSp2.mu hU) kd_m_knownOf (by decide) (by omega) (by omega)) hC dX8_unaware_59 (pc' := 62) rfl xw_m_X8_142 xw_c_X8_compared xw_ins_X8_compared xw_sel_X8_compared xw_ini_X8 xd_X8_compared (xH_at.trans (xsh_8 kd_oMod)) rfl ⟨Nat.le_of_ble_eq_true rfl, Nat.le_of_ble_eq_true rfl⟩ rfl (Nat.le_of_ble_eq_true rfl) ⟨Nat.le_of_ble_eq_true rfl, Nat.le_of_ble_eq_true rfl⟩ ?_
                  rintro _ _ ⟨rfl, rfl⟩
                  show xV _ _ _ _ _ _ _ _ _ _ _ _ _ _ _ _ _ (xH D b (jn C T2)) _ _ [.int (rel u (sl (T2 m_knownOf) (5 * i)) (sl (T2 m_knownOf) (5 * j)))]
                  refine xi_iconst (v := nI 2) hC dX8_unaware_62 (pc' := 63) rfl (by decide +kernel) ?_
                  refine xi_icmpge (tgt := 70) hC dX8_unaware_63 (pc' := 66) rfl (by decide) (fun zc63 => ?_) (fun zc63 => ?_)
                  · skip
                    refine xi_iconst (v := nI 0) hC dX8_unaware_70 (pc' := 71) rfl (by decide +kernel) ?_
                    refine xtop (y := (bI (unB S u i (j + 1)))) (by
                        have k1 : sl (T2 m_knownOf) (5 * i) = rK S i := hSp2.rK i
                        have k2 : sl (T2 m_knownOf) (5 * j) = rK S j := hSp2.rK j
                        first
                          | exact (bI_f fun q => zc48 (unB_f q).1).symm
                          | (rw [k1, k2] at zc63
                             first
                               | exact (bI_f fun q => (unB_f q).2 (rel_ge.mp zc63)).symm
                               | exact (bI_t (unB_t zc48 fun q => zc63 (rel_ge.mpr q))).symm)) ?_
                    refine xi_istore_n (lv' := [some (.ref (b + oMod)), some (.int a), some (.int (nI i)), some (.int (bI (unB S u i (j + 1)))), some (.int (nI j))]) hC dX8_unaware_71 (pc' := 72) rfl rfl (by decide) rfl ?_
                    refine xn_iinc (lv' := [some (.ref (b + oMod)), some (.int a), some (.int (nI i)), some (.int (bI (unB S u i (j + 1)))), some (.int (nI (j + 1)))]) hC dX8_unaware_72 (pc' := 75) rfl rfl (by decide) rfl ?_
                    refine xi_goto (tgt := 38) hC dX8_unaware_75 (by decide) ?_
                    refine ih38 _ (by omega) ?_
                    · omega
                  · skip
                    refine xi_iconst (v := nI 1) hC dX8_unaware_66 (pc' := 67) rfl (by decide +kernel) ?_
                    refine xi_goto (tgt := 71) hC dX8_unaware_67 (by decide) ?_
                    refine xtop (y := (bI (unB S u i (j + 1)))) (by
                        have k1 : sl (T2 m_knownOf) (5 * i) = rK S i := hSp2.rK i
                        have k2 : sl (T2 m_knownOf) (5 * j) = rK S j := hSp2.rK j
                        first
                          | exact (bI_f fun q => zc48 (unB_f q).1).symm
                          | (rw [k1, k2] at zc63
                             first
                               | exact (bI_f fun q => (unB_f q).2 (rel_ge.mp zc63)).symm
                               | exact (bI_t (unB_t zc48 fun q => zc63 (rel_ge.mpr q))).symm)) ?_
                    refine xi_istore_n (lv' := [some (.ref (b + oMod)), some (.int a), some (.int (nI i)), some (.int (bI (unB S u i (j + 1)))), some (.int (nI j))]) hC dX8_unaware_71 (pc' := 72) rfl rfl (by decide) rfl ?_
                    refine xn_iinc (lv' := [some (.ref (b + oMod)), some (.int a), some (.int (nI i)), some (.int (bI (unB S u i (j + 1)))), some (.int (nI (j + 1)))]) hC dX8_unaware_72 (pc' := 75) rfl rfl (by decide) rfl ?_
                    refine xi_goto (tgt := 38) hC dX8_unaware_75 (by decide) ?_
                    refine ih38 _ (by omega) ?_
                    · omega
          refine L38 _ _ (Nat.lt_succ_self _) ?_
          · omega
        refine xi_aload_n hC dX8_unaware_12 (pc' := 13) rfl rfl rfl ?_
        refine xg8_alarmOf hC dX8_unaware_13 (pc' := 16) rfl xw_f_X8_22 kd_oMod ?_
        refine xi_iload_n hC dX8_unaware_16 (pc' := 17) rfl rfl rfl ?_
        refine xt_l_i hC dX8_unaware_17 (pc' := 18) rfl (N := 5) kd_m_alarmOf (by decide) (by decide) rfl (by omega) ?_
        refine xi_ifne (tgt := 33) hC dX8_unaware_18 (pc' := 21) rfl (by decide) (fun zc18 => ?_) (fun zc18 => ?_)
        · skip
          refine xi_iconst (v := nI 0) hC dX8_unaware_33 (pc' := 34) rfl (by decide +kernel) ?_
          refine xtop (y := (bI (unB S u i 0))) (by
              first
                | exact (bI_f fun q => zc18 (by rw [hSp.1 m_alarmOf (by decide)]; exact q.1.1)).symm
                | exact (bI_f fun q => zc26 (by rw [hSp.al]; exact q.1.2 v (by omega) hV)).symm
                | exact (bI_t ⟨⟨by rw [← hSp.1 m_alarmOf (by decide)]; exact zc18, fun v' hv' e => by
                    obtain rfl := nI_inj (by omega) (by omega) (hV.symm.trans e)
                    rw [← hSp.al]; exact zc26⟩, fun c hc => absurd hc (Nat.not_lt_zero _)⟩).symm) ?_
          refine xi_istore_n (lv' := [some (.ref (b + oMod)), some (.int a), some (.int (nI i)), some (.int (bI (unB S u i 0))), v4]) hC dX8_unaware_34 (pc' := 35) rfl rfl (by decide) rfl ?_
          refine L35 _ _ ?_
          · first | exact hSp | exact hSp.tr (by assumption)
        · skip
          refine xi_aload_n hC dX8_unaware_21 (pc' := 22) rfl rfl rfl ?_
          refine xi_iload_n hC dX8_unaware_22 (pc' := 23) rfl rfl rfl ?_
          refine xi_callV (As := [.int (nI i)]) (rest := []) (c_X8_alarmFor l D b n (C := C) (S := T) (u := u) (v := v) (i := i) (hSp.mu hU) ((congrFun (hSp.1 m_viewOf (by decide)) i).trans hV) (by omega) (by omega)) hC dX8_unaware_23 (pc' := 26) rfl xw_m_X8_116 xw_c_X8_alarmFor xw_ins_X8_alarmFor xw_sel_X8_alarmFor xw_ini_X8 xd_X8_alarmFor (xH_at.trans (xsh_8 kd_oMod)) rfl ⟨Nat.le_of_ble_eq_true rfl, Nat.le_of_ble_eq_true rfl⟩ rfl (Nat.le_of_ble_eq_true rfl) ⟨Nat.le_of_ble_eq_true rfl, Nat.le_of_ble_eq_true rfl⟩ ?_
          rintro _ _ ⟨T_1, rfl, hSp_2, hP_3, rfl⟩
          show xV _ _ _ _ _ _ _ _ _ _ _ _ _ _ _ _ _ (xH D b (jn C T_1)) _ _ [.int (nI (al T u v i))]
          have hal4 : al T u v i < 4 := by rcases al_cases T u v i with ⟨q, -⟩ | ⟨-, ⟨q, -⟩ | ⟨-, ⟨q, -⟩ | ⟨q, -⟩⟩⟩ <;> omega
          refine xn_ifne (tgt := 33) hC dX8_unaware_26 (pc' := 29) rfl (by decide) (by omega) (fun zc26 => ?_) (fun zc26 => ?_)
          · skip
            refine xi_iconst (v := nI 0) hC dX8_unaware_33 (pc' := 34) rfl (by decide +kernel) ?_
            refine xtop (y := (bI (unB S u i 0))) (by
                first
                  | exact (bI_f fun q => zc18 (by rw [hSp.1 m_alarmOf (by decide)]; exact q.1.1)).symm
                  | exact (bI_f fun q => zc26 (by rw [hSp.al]; exact q.1.2 v (by omega) hV)).symm
                  | exact (bI_t ⟨⟨by rw [← hSp.1 m_alarmOf (by decide)]; exact zc18, fun v' hv' e => by
                      obtain rfl := nI_inj (by omega) (by omega) (hV.symm.trans e)
                      rw [← hSp.al]; exact zc26⟩, fun c hc => absurd hc (Nat.not_lt_zero _)⟩).symm) ?_
            refine xi_istore_n (lv' := [some (.ref (b + oMod)), some (.int a), some (.int (nI i)), some (.int (bI (unB S u i 0))), v4]) hC dX8_unaware_34 (pc' := 35) rfl rfl (by decide) rfl ?_
            refine L35 _ _ ?_
            · first | exact hSp | exact hSp.tr (by assumption)
          · skip
            refine xi_iconst (v := nI 1) hC dX8_unaware_29 (pc' := 30) rfl (by decide +kernel) ?_
            refine xi_goto (tgt := 34) hC dX8_unaware_30 (by decide) ?_
            refine xtop (y := (bI (unB S u i 0))) (by
                first
                  | exact (bI_f fun q => zc18 (by rw [hSp.1 m_alarmOf (by decide)]; exact q.1.1)).symm
                  | exact (bI_f fun q => zc26 (by rw [hSp.al]; exact q.1.2 v (by omega) hV)).symm
                  | exact (bI_t ⟨⟨by rw [← hSp.1 m_alarmOf (by decide)]; exact zc18, fun v' hv' e => by
                      obtain rfl := nI_inj (by omega) (by omega) (hV.symm.trans e)
                      rw [← hSp.al]; exact zc26⟩, fun c hc => absurd hc (Nat.not_lt_zero _)⟩).symm) ?_
            refine xi_istore_n (lv' := [some (.ref (b + oMod)), some (.int a), some (.int (nI i)), some (.int (bI (unB S u i 0))), v4]) hC dX8_unaware_34 (pc' := 35) rfl rfl (by decide) rfl ?_
            refine L35 _ _ ?_
            · first | exact hSp | exact hSp.tr (by assumption)
  refine L4 _ _ _ _ _ _ (Nat.lt_succ_self _) ?_ ?_ ?_
  · omega
  · exact Sp.rf
  · rfl
