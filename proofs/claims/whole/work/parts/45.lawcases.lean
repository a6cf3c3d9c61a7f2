/-! THE CLAIM OUT OF ONE WALK OF THE LAW'S BODY. Your part is whole_start (and what it stands on); all else here is the same for every law, but numbers. -/
def R_law : String := "ForkedStoreLaw"
def lw_P (b : Addr) (xs : List Int32) (args : Array Value) (s : State) : Prop := args = #[.ref b] ∧ s.IntsAt b xs ∧ xs.length ≤ 2048 ∧ (Jvm.Cond.and given_1 narrow_1).before args s = true
def lw_Q (_ : Array Value) (s : State) (o : Outcome) (t : State) : Prop := o = .returned (some (.int 1)) ∧ Framed s o t [] 705759 6984972
def lw_Z (below : List Frame) (a : Array Value) (s : State) : State → Prop := fun t => ∃ o, t.status = .running ∧ Ended t below o ∧ lw_Q a s o t
/-- the law's own end, with 1 on the stack, nothing written that was there before, its room as the claim has it -/
theorem lw_ret {p : Program} {l : Launch} {e : Env} {s : State} {m : MethodId} {below : List Frame} {meth : Method} {c : Code} {b : Nat} (hx : p.tables.exec = Jvm.exec) (hb : c.code = code) (hr : meth.sig.returnType = ret) (hlocks : meth.locks = false) {pc : Nat} {H : Heap} {ls : Array Slot} (hdg : decode code pc = .ok (.ireturn, 1)) : W p l e room_1 s m #[Value.ref b] below meth c H [] 705759 6984972 (lw_Z below #[Value.ref b] s) (F0 m pc ls [.int 1]) := by
  intro T hT X
  obtain ⟨fs, hret, hrun, hended, hW, hframe⟩ := X.leave (v := some (.int 1)) (hlocks := hlocks) (fun h => by rw [hr] at h; cases h)
  have hmeth' : T.vm.method? m = some meth := X.method'
  refine ⟨T.setFrames fs, ?_, .returned (some (.int 1)), hrun, hended, rfl, ⟨_, rfl⟩, hW, hframe⟩
  jvm_step X.here [X.here.top, hx, hb, hdg, hmeth', hr, ret, narrow_b1]
  (try refine ⟨rfl, ?_⟩); (try refine ⟨rfl, ?_⟩)
  first | (intro acts; rw [hret _ acts rfl rfl rfl]) | rw [hret _ _ rfl rfl rfl]
  exact Steps.refl _
/-- what holds at the law's entry: the machine, the code, the tables' words (any of lw_tbl by 'hts w (by decide +kernel)'), the script of L ints xs at the cell b, what the Statement gives of the start (any of its parts by flat_of_before) -/
def lw_At (p : Program) (s : State) (m : MethodId) (meth : Method) (c : Code) (b L : Nat) (xs : Nat → Int32) : Prop :=
  p.tables.exec = Jvm.exec ∧ c.code = code ∧ meth.sig.returnType = ret ∧ c.maxLocals = 4 ∧ s.vm.findClass R_law = some m.cls ∧ (∀ w ∈ lw_tbl, w.before #[Value.ref b] s = true) ∧ va_X b L xs s s.heap ∧ b < s.heap.size ∧ meth.locks = false ∧ (Jvm.Cond.and given_1 narrow_1).before #[Value.ref b] s = true

/-! ===== the law ===== -/
section XL
variable {p : Program} {l : Launch} {e : Env} {R : Room} {s : State} {m : MethodId} {args : Array Value} {below : List Frame} {meth : Method} {c : Code} {D : XD} {b nL cells slots : Nat} {Q : State → Prop} {n : Nat} {h : XH} {pc : Nat} {lv : List (Option Value)} {rest : List Value} {cc : ByteArray} {own : String}
theorem xi_sld {a L j : Nat} {xs : Nat → Int32} {i : Int32} (hC : xC p s m args meth c D cc nL own) (hdg : decode cc pc = .ok (.iaload, 1)) {pc' : Nat} (hp : pc + 1 = pc') (hX : va_X a L xs s s.heap) (hal : a < b) (hb : b = s.heap.size) (hi : i = nI j) (hj : j < L) (hL : L < 2 ^ 31)
    (k : xV p l e R s m args below meth c D b nL cells slots Q n h pc' lv (.int (xs j) :: rest)) : xV p l e R s m args below meth c D b nL cells slots Q n h pc lv (.int i :: .ref a :: rest) := by
  subst hb
  subst hi
  subst hp
  intro H locs ls h1 h2 h3
  refine va_sld (i := nI j) hC.1.1 hC.1.2.1 hX hal (Nat.not_le.mpr hal) h2 (vp_in_nI hj hL) hdg ?_
  rw [nI_clamp (by omega)]
  exact k H locs ls h1 h2 h3
theorem xi_slen {a L : Nat} {xs : Nat → Int32} (hC : xC p s m args meth c D cc nL own) (hdg : decode cc pc = .ok (.arraylength, 1)) {pc' : Nat} (hp : pc + 1 = pc') (hX : va_X a L xs s s.heap) (hal : a < b) (hb : b = s.heap.size)
    (k : xV p l e R s m args below meth c D b nL cells slots Q n h pc' lv (.int (nI L) :: rest)) : xV p l e R s m args below meth c D b nL cells slots Q n h pc lv (.ref a :: rest) := by
  subst hb
  subst hp
  intro H locs ls h1 h2 h3
  exact va_slen hC.1.1 hC.1.2.1 hX hal (Nat.not_le.mpr hal) h2 hdg (k H locs ls h1 h2 h3)
end XL
theorem RR.hi {σ σ' T : XM} {u w : Nat} (h : RR σ T u w) (hw : w ≤ 6) (e : ∀ o, o < 585 → σ' o = σ o) : RR σ' T u w :=
  ⟨by rw [e 0 (by decide)]; exact h.1, by rw [e 0 (by decide)]; exact h.2.1, fun i hi => (h.2.2.1 i hi).of (fun o o1 o2 => e o (by simp only [oMem] at o2; omega)) MS.rf, fun v hv => (h.2.2.2.1 v hv).of (fun o o1 o2 => e o (by simp only [oVw] at o2; omega)) VS.rf, h.2.2.2.2.of (e _ (by decide)) (e _ (by decide)) rfl rfl⟩
theorem jn_lo {C S : XM} {o : Nat} (h : o < 585) : jn C S o = C o := if_pos h
theorem jn_up {C S : XM} {o : Nat} (h : 585 ≤ o) : jn C S o = S o := if_neg (by omega)
theorem jn_hi {C S τ : XM} (h : Hi τ (jn C S)) : τ = jn τ S := by
  funext o
  by_cases q : o < 585
  · rw [jn_lo q]
  · rw [jn_up (by omega), h o (by omega), jn_up (by omega)]
theorem RR.j1 {σ T : XM} {u w : Nat} (h : RR σ T u w) (hw : w ≤ 6) : RR (jn σ T) T u w := h.hi hw (fun _ ho => jn_lo ho)
theorem RR.jj {C S T : XM} {u w : Nat} (h : RR (jn C S) T u w) (hw : w ≤ 6) : RR (jn C T) T u w := h.hi hw (fun _ ho => (jn_lo ho).trans (jn_lo ho).symm)
theorem nar_char (x : Int32) : vp_nar .char ((x.toUInt32 % 65536).toInt32) = (x.toUInt32 % 65536).toInt32 := pk_vc x
set_option maxRecDepth 100000 in
set_option maxHeartbeats 4000000 in
theorem law_0 {p : Program} {l : Launch} {e : Env} {s : State} {m : MethodId} {below : List Frame} {meth : Method} {c : Code} {D : XD} {a b L : Nat} {xs : Nat → Int32} (hC : xC p s m #[Value.ref a] meth c D cL_law 4 R_law) (hX : va_X a L xs s s.heap) (hal : a < b) (hb : b = s.heap.size) (hL : L ≤ 2048) {C S : XM} {N u w i : Nat} (hi : i + 4 ≤ L) (hS : SI N S u w) (hR : RR (jn C S) S u w) (hN : N + 21 < 2 ^ 31) (K : ∀ (C T : XM) (u w : Nat), SI (N + 20) T u w → RR (jn C T) T u w → xV p l e room_1 s m #[Value.ref a] below meth c D b 4 605 3415 (lw_Z below #[Value.ref a] s) (b + 605) (xH D b (jn C T)) 888 [some (.ref a), some (.ref (b + 0)), some (.ref (b + oMod)), some (.int (nI i))] []) : xV p l e room_1 s m #[Value.ref a] below meth c D b 4 605 3415 (lw_Z below #[Value.ref a] s) (b + 605) (xH D b (jn C S)) 152 [some (.ref a), some (.ref (b + 0)), some (.ref (b + oMod)), some (.int (nI i))] [] := by
  refine xi_aload_n hC dL_law_152 (pc' := 153) rfl rfl rfl ?_
  refine xi_aload_n hC dL_law_153 (pc' := 154) rfl rfl rfl ?_
  refine xi_iload_n hC dL_law_154 (pc' := 155) rfl rfl rfl ?_
  refine xi_iconst (v := nI 1) hC dL_law_155 (pc' := 156) rfl (by decide +kernel) ?_
  refine xn_iadd hC dL_law_156 (pc' := 157) rfl ?_
  refine xi_sld hC dL_law_157 (pc' := 158) rfl hX hal hb rfl (by omega) (by omega) ?_
  refine xi_callV (As := [.int (xs (i + 1))]) (rest := []) (c_X7_reset l D b (b + 605) (σ := jn C S) (S := S) (N := N) (u := u) (w := w) hS hR (by omega) (x := (xs (i + 1)))) hC dL_law_158 (pc' := 161) rfl xw_m_L_13 xw_c_X7_reset xw_ins_X7_reset xw_sel_X7_reset xw_ini_X7 xd_X7_reset (xH_at.trans (xsh_7 kd_0)) rfl ⟨Nat.le_of_ble_eq_true rfl, Nat.le_of_ble_eq_true rfl⟩ rfl (Nat.le_of_ble_eq_true rfl) ⟨Nat.le_of_ble_eq_true rfl, Nat.le_of_ble_eq_true rfl⟩ ?_
  rintro _ _ ⟨r1, τ1, rfl, hH1, hO1, rfl⟩
  refine xstate (jn_hi hH1) ?_
  show xV _ _ _ _ _ _ _ _ _ _ _ _ _ _ _ _ _ (xH D b (jn τ1 S)) _ _ [.int r1]
  refine xi_aload_n hC dL_law_161 (pc' := 162) rfl rfl rfl ?_
  refine xi_aload_n hC dL_law_162 (pc' := 163) rfl rfl rfl ?_
  refine xi_iload_n hC dL_law_163 (pc' := 164) rfl rfl rfl ?_
  refine xi_iconst (v := nI 1) hC dL_law_164 (pc' := 165) rfl (by decide +kernel) ?_
  refine xn_iadd hC dL_law_165 (pc' := 166) rfl ?_
  refine xi_sld hC dL_law_166 (pc' := 167) rfl hX hal hb rfl (by omega) (by omega) ?_
  refine xi_callV (As := [.int (xs (i + 1))]) (rest := [.int r1]) (c_X8_reset l D b (b + 605) (C := τ1) (S := S) (u := u) (w := w) hS.1 (x := (xs (i + 1)))) hC dL_law_167 (pc' := 170) rfl xw_m_L_17 xw_c_X8_reset xw_ins_X8_reset xw_sel_X8_reset xw_ini_X8 xd_X8_reset (xH_at.trans (xsh_8 kd_oMod)) rfl ⟨Nat.le_of_ble_eq_true rfl, Nat.le_of_ble_eq_true rfl⟩ rfl (Nat.le_of_ble_eq_true rfl) ⟨Nat.le_of_ble_eq_true rfl, Nat.le_of_ble_eq_true rfl⟩ ?_
  rintro _ _ ⟨r2, T2, rfl, hZ2, rfl⟩
  show xV _ _ _ _ _ _ _ _ _ _ _ _ _ _ _ _ _ (xH D b (jn τ1 T2)) _ _ [.int r2, .int r1]
  obtain ⟨e12, hR2⟩ := hO1 r2 T2 hZ2
  subst e12
  refine xi_icmpeq (tgt := 888) hC dL_law_170 (pc' := 173) rfl (by decide) (fun zc170 => ?_) (fun zc170 => ?_)
  · skip
    obtain ⟨u2, w2, hu2, hw2, e0, e1, hS2⟩ := SI_reset hS hZ2
    exact K τ1 T2 u2 w2 (hS2.up (by omega)) ((hR2 u2 w2 e0 e1 hu2 hw2).j1 hw2)
  · skip
    exact absurd rfl zc170

set_option maxRecDepth 100000 in
set_option maxHeartbeats 4000000 in
theorem law_1 {p : Program} {l : Launch} {e : Env} {s : State} {m : MethodId} {below : List Frame} {meth : Method} {c : Code} {D : XD} {a b L : Nat} {xs : Nat → Int32} (hC : xC p s m #[Value.ref a] meth c D cL_law 4 R_law) (hX : va_X a L xs s s.heap) (hal : a < b) (hb : b = s.heap.size) (hL : L ≤ 2048) {C S : XM} {N u w i : Nat} (hi : i + 4 ≤ L) (hS : SI N S u w) (hR : RR (jn C S) S u w) (hN : N + 21 < 2 ^ 31) (K : ∀ (C T : XM) (u w : Nat), SI (N + 20) T u w → RR (jn C T) T u w → xV p l e room_1 s m #[Value.ref a] below meth c D b 4 605 3415 (lw_Z below #[Value.ref a] s) (b + 605) (xH D b (jn C T)) 888 [some (.ref a), some (.ref (b + 0)), some (.ref (b + oMod)), some (.int (nI i))] []) : xV p l e room_1 s m #[Value.ref a] below meth c D b 4 605 3415 (lw_Z below #[Value.ref a] s) (b + 605) (xH D b (jn C S)) 175 [some (.ref a), some (.ref (b + 0)), some (.ref (b + oMod)), some (.int (nI i))] [] := by
  refine xi_aload_n hC dL_law_175 (pc' := 176) rfl rfl rfl ?_
  refine xi_aload_n hC dL_law_176 (pc' := 177) rfl rfl rfl ?_
  refine xi_iload_n hC dL_law_177 (pc' := 178) rfl rfl rfl ?_
  refine xi_iconst (v := nI 1) hC dL_law_178 (pc' := 179) rfl (by decide +kernel) ?_
  refine xn_iadd hC dL_law_179 (pc' := 180) rfl ?_
  refine xi_sld hC dL_law_180 (pc' := 181) rfl hX hal hb rfl (by omega) (by omega) ?_
  refine xi_aload_n hC dL_law_181 (pc' := 182) rfl rfl rfl ?_
  refine xi_iload_n hC dL_law_182 (pc' := 183) rfl rfl rfl ?_
  refine xi_iconst (v := nI 2) hC dL_law_183 (pc' := 184) rfl (by decide +kernel) ?_
  refine xn_iadd hC dL_law_184 (pc' := 185) rfl ?_
  refine xi_sld hC dL_law_185 (pc' := 186) rfl hX hal hb rfl (by omega) (by omega) ?_
  refine xi_callV (As := [.int (xs (i + 1)), .int (xs (i + 2))]) (rest := []) (c_X7_write l D b (b + 605) (σ := jn C S) (S := S) (N := N) (u := u) (w := w) hS hR (by omega) (x := (xs (i + 1))) (y := (xs (i + 2)))) hC dL_law_186 (pc' := 189) rfl xw_m_L_18 xw_c_X7_write xw_ins_X7_write xw_sel_X7_write xw_ini_X7 xd_X7_write (xH_at.trans (xsh_7 kd_0)) rfl ⟨Nat.le_of_ble_eq_true rfl, Nat.le_of_ble_eq_true rfl⟩ rfl (Nat.le_of_ble_eq_true rfl) ⟨Nat.le_of_ble_eq_true rfl, Nat.le_of_ble_eq_true rfl⟩ ?_
  rintro _ _ ⟨r1, τ1, rfl, hH1, hO1, rfl⟩
  refine xstate (jn_hi hH1) ?_
  show xV _ _ _ _ _ _ _ _ _ _ _ _ _ _ _ _ _ (xH D b (jn τ1 S)) _ _ [.int r1]
  refine xi_aload_n hC dL_law_189 (pc' := 190) rfl rfl rfl ?_
  refine xi_aload_n hC dL_law_190 (pc' := 191) rfl rfl rfl ?_
  refine xi_iload_n hC dL_law_191 (pc' := 192) rfl rfl rfl ?_
  refine xi_iconst (v := nI 1) hC dL_law_192 (pc' := 193) rfl (by decide +kernel) ?_
  refine xn_iadd hC dL_law_193 (pc' := 194) rfl ?_
  refine xi_sld hC dL_law_194 (pc' := 195) rfl hX hal hb rfl (by omega) (by omega) ?_
  refine xi_aload_n hC dL_law_195 (pc' := 196) rfl rfl rfl ?_
  refine xi_iload_n hC dL_law_196 (pc' := 197) rfl rfl rfl ?_
  refine xi_iconst (v := nI 2) hC dL_law_197 (pc' := 198) rfl (by decide +kernel) ?_
  refine xn_iadd hC dL_law_198 (pc' := 199) rfl ?_
  refine xi_sld hC dL_law_199 (pc' := 200) rfl hX hal hb rfl (by omega) (by omega) ?_
  refine xi_callV (As := [.int (xs (i + 1)), .int (xs (i + 2))]) (rest := [.int r1]) (c_X8_write l D b (b + 605) (C := τ1) (S := S) (u := u) (w := w) hS.1 (x := (xs (i + 1))) (y := (xs (i + 2)))) hC dL_law_200 (pc' := 203) rfl xw_m_L_22 xw_c_X8_write xw_ins_X8_write xw_sel_X8_write xw_ini_X8 xd_X8_write (xH_at.trans (xsh_8 kd_oMod)) rfl ⟨Nat.le_of_ble_eq_true rfl, Nat.le_of_ble_eq_true rfl⟩ rfl (Nat.le_of_ble_eq_true rfl) ⟨Nat.le_of_ble_eq_true rfl, Nat.le_of_ble_eq_true rfl⟩ ?_
  rintro _ _ ⟨r2, T2, rfl, hZ2, rfl⟩
  show xV _ _ _ _ _ _ _ _ _ _ _ _ _ _ _ _ _ (xH D b (jn τ1 T2)) _ _ [.int r2, .int r1]
  obtain ⟨e12, hR2⟩ := hO1 r2 T2 hZ2
  subst e12
  refine xi_icmpeq (tgt := 888) hC dL_law_203 (pc' := 206) rfl (by decide) (fun zc203 => ?_) (fun zc203 => ?_)
  · skip
    exact K τ1 T2 u w ((SI_write hS hZ2).up (by omega)) (hR2.j1 hS.1.2.1.2.2)
  · skip
    exact absurd rfl zc203

set_option maxRecDepth 100000 in
set_option maxHeartbeats 4000000 in
theorem law_2 {p : Program} {l : Launch} {e : Env} {s : State} {m : MethodId} {below : List Frame} {meth : Method} {c : Code} {D : XD} {a b L : Nat} {xs : Nat → Int32} (hC : xC p s m #[Value.ref a] meth c D cL_law 4 R_law) (hX : va_X a L xs s s.heap) (hal : a < b) (hb : b = s.heap.size) (hL : L ≤ 2048) {C S : XM} {N u w i : Nat} (hi : i + 4 ≤ L) (hS : SI N S u w) (hR : RR (jn C S) S u w) (hN : N + 21 < 2 ^ 31) (K : ∀ (C T : XM) (u w : Nat), SI (N + 20) T u w → RR (jn C T) T u w → xV p l e room_1 s m #[Value.ref a] below meth c D b 4 605 3415 (lw_Z below #[Value.ref a] s) (b + 605) (xH D b (jn C T)) 888 [some (.ref a), some (.ref (b + 0)), some (.ref (b + oMod)), some (.int (nI i))] []) : xV p l e room_1 s m #[Value.ref a] below meth c D b 4 605 3415 (lw_Z below #[Value.ref a] s) (b + 605) (xH D b (jn C S)) 208 [some (.ref a), some (.ref (b + 0)), some (.ref (b + oMod)), some (.int (nI i))] [] := by
  refine xi_aload_n hC dL_law_208 (pc' := 209) rfl rfl rfl ?_
  refine xi_aload_n hC dL_law_209 (pc' := 210) rfl rfl rfl ?_
  refine xi_iload_n hC dL_law_210 (pc' := 211) rfl rfl rfl ?_
  refine xi_iconst (v := nI 1) hC dL_law_211 (pc' := 212) rfl (by decide +kernel) ?_
  refine xn_iadd hC dL_law_212 (pc' := 213) rfl ?_
  refine xi_sld hC dL_law_213 (pc' := 214) rfl hX hal hb rfl (by omega) (by omega) ?_
  refine xi_aload_n hC dL_law_214 (pc' := 215) rfl rfl rfl ?_
  refine xi_iload_n hC dL_law_215 (pc' := 216) rfl rfl rfl ?_
  refine xi_iconst (v := nI 2) hC dL_law_216 (pc' := 217) rfl (by decide +kernel) ?_
  refine xn_iadd hC dL_law_217 (pc' := 218) rfl ?_
  refine xi_sld hC dL_law_218 (pc' := 219) rfl hX hal hb rfl (by omega) (by omega) ?_
  refine xi_callV (As := [.int (xs (i + 1)), .int (xs (i + 2))]) (rest := []) (c_X7_read l D b (b + 605) (σ := jn C S) (S := S) (N := N) (u := u) (w := w) hS hR (by omega) (x := (xs (i + 1))) (y := (xs (i + 2)))) hC dL_law_219 (pc' := 222) rfl xw_m_L_23 xw_c_X7_read xw_ins_X7_read xw_sel_X7_read xw_ini_X7 xd_X7_read (xH_at.trans (xsh_7 kd_0)) rfl ⟨Nat.le_of_ble_eq_true rfl, Nat.le_of_ble_eq_true rfl⟩ rfl (Nat.le_of_ble_eq_true rfl) ⟨Nat.le_of_ble_eq_true rfl, Nat.le_of_ble_eq_true rfl⟩ ?_
  rintro _ _ ⟨r1, τ1, rfl, hH1, hO1, rfl⟩
  refine xstate (jn_hi hH1) ?_
  show xV _ _ _ _ _ _ _ _ _ _ _ _ _ _ _ _ _ (xH D b (jn τ1 S)) _ _ [.int r1]
  refine xi_aload_n hC dL_law_222 (pc' := 223) rfl rfl rfl ?_
  refine xi_aload_n hC dL_law_223 (pc' := 224) rfl rfl rfl ?_
  refine xi_iload_n hC dL_law_224 (pc' := 225) rfl rfl rfl ?_
  refine xi_iconst (v := nI 1) hC dL_law_225 (pc' := 226) rfl (by decide +kernel) ?_
  refine xn_iadd hC dL_law_226 (pc' := 227) rfl ?_
  refine xi_sld hC dL_law_227 (pc' := 228) rfl hX hal hb rfl (by omega) (by omega) ?_
  refine xi_aload_n hC dL_law_228 (pc' := 229) rfl rfl rfl ?_
  refine xi_iload_n hC dL_law_229 (pc' := 230) rfl rfl rfl ?_
  refine xi_iconst (v := nI 2) hC dL_law_230 (pc' := 231) rfl (by decide +kernel) ?_
  refine xn_iadd hC dL_law_231 (pc' := 232) rfl ?_
  refine xi_sld hC dL_law_232 (pc' := 233) rfl hX hal hb rfl (by omega) (by omega) ?_
  refine xi_callV (As := [.int (xs (i + 1)), .int (xs (i + 2))]) (rest := [.int r1]) (c_X8_read l D b (b + 605) (C := τ1) (S := S) (u := u) (w := w) hS.1 (x := (xs (i + 1))) (y := (xs (i + 2)))) hC dL_law_233 (pc' := 236) rfl xw_m_L_26 xw_c_X8_read xw_ins_X8_read xw_sel_X8_read xw_ini_X8 xd_X8_read (xH_at.trans (xsh_8 kd_oMod)) rfl ⟨Nat.le_of_ble_eq_true rfl, Nat.le_of_ble_eq_true rfl⟩ rfl (Nat.le_of_ble_eq_true rfl) ⟨Nat.le_of_ble_eq_true rfl, Nat.le_of_ble_eq_true rfl⟩ ?_
  rintro _ _ ⟨r2, T2, rfl, hZ2, rfl⟩
  show xV _ _ _ _ _ _ _ _ _ _ _ _ _ _ _ _ _ (xH D b (jn τ1 T2)) _ _ [.int r2, .int r1]
  obtain ⟨e12, hR2⟩ := hO1 r2 T2 hZ2
  subst e12
  refine xi_icmpeq (tgt := 888) hC dL_law_236 (pc' := 239) rfl (by decide) (fun zc236 => ?_) (fun zc236 => ?_)
  · skip
    exact K τ1 T2 u w ((SI_read hS hZ2).up (by omega)) (hR2.j1 hS.1.2.1.2.2)
  · skip
    exact absurd rfl zc236

set_option maxRecDepth 100000 in
set_option maxHeartbeats 4000000 in
theorem law_3 {p : Program} {l : Launch} {e : Env} {s : State} {m : MethodId} {below : List Frame} {meth : Method} {c : Code} {D : XD} {a b L : Nat} {xs : Nat → Int32} (hC : xC p s m #[Value.ref a] meth c D cL_law 4 R_law) (hX : va_X a L xs s s.heap) (hal : a < b) (hb : b = s.heap.size) (hL : L ≤ 2048) {C S : XM} {N u w i : Nat} (hi : i + 4 ≤ L) (hS : SI N S u w) (hR : RR (jn C S) S u w) (hN : N + 21 < 2 ^ 31) (K : ∀ (C T : XM) (u w : Nat), SI (N + 20) T u w → RR (jn C T) T u w → xV p l e room_1 s m #[Value.ref a] below meth c D b 4 605 3415 (lw_Z below #[Value.ref a] s) (b + 605) (xH D b (jn C T)) 888 [some (.ref a), some (.ref (b + 0)), some (.ref (b + oMod)), some (.int (nI i))] []) : xV p l e room_1 s m #[Value.ref a] below meth c D b 4 605 3415 (lw_Z below #[Value.ref a] s) (b + 605) (xH D b (jn C S)) 241 [some (.ref a), some (.ref (b + 0)), some (.ref (b + oMod)), some (.int (nI i))] [] := by
  refine xi_aload_n hC dL_law_241 (pc' := 242) rfl rfl rfl ?_
  refine xi_aload_n hC dL_law_242 (pc' := 243) rfl rfl rfl ?_
  refine xi_iload_n hC dL_law_243 (pc' := 244) rfl rfl rfl ?_
  refine xi_iconst (v := nI 1) hC dL_law_244 (pc' := 245) rfl (by decide +kernel) ?_
  refine xn_iadd hC dL_law_245 (pc' := 246) rfl ?_
  refine xi_sld hC dL_law_246 (pc' := 247) rfl hX hal hb rfl (by omega) (by omega) ?_
  refine xi_callV (As := [.int (xs (i + 1))]) (rest := []) (c_X7_lastRead l D b (b + 605) (σ := jn C S) (S := S) (N := N) (u := u) (w := w) hS hR (by omega) (x := (xs (i + 1)))) hC dL_law_247 (pc' := 250) rfl xw_m_L_27 xw_c_X7_lastRead xw_ins_X7_lastRead xw_sel_X7_lastRead xw_ini_X7 xd_X7_lastRead (xH_at.trans (xsh_7 kd_0)) rfl ⟨Nat.le_of_ble_eq_true rfl, Nat.le_of_ble_eq_true rfl⟩ rfl (Nat.le_of_ble_eq_true rfl) ⟨Nat.le_of_ble_eq_true rfl, Nat.le_of_ble_eq_true rfl⟩ ?_
  rintro _ _ ⟨r1, rfl, hO1, rfl⟩
  show xV _ _ _ _ _ _ _ _ _ _ _ _ _ _ _ _ _ (xH D b (jn C S)) _ _ [.int r1]
  refine xi_aload_n hC dL_law_250 (pc' := 251) rfl rfl rfl ?_
  refine xi_aload_n hC dL_law_251 (pc' := 252) rfl rfl rfl ?_
  refine xi_iload_n hC dL_law_252 (pc' := 253) rfl rfl rfl ?_
  refine xi_iconst (v := nI 1) hC dL_law_253 (pc' := 254) rfl (by decide +kernel) ?_
  refine xn_iadd hC dL_law_254 (pc' := 255) rfl ?_
  refine xi_sld hC dL_law_255 (pc' := 256) rfl hX hal hb rfl (by omega) (by omega) ?_
  refine xi_callV (As := [.int (xs (i + 1))]) (rest := [.int r1]) (c_X8_lastRead l D b (b + 605) (C := C) (S := S) (u := u) (w := w) hS.1 (x := (xs (i + 1)))) hC dL_law_256 (pc' := 259) rfl xw_m_L_30 xw_c_X8_lastRead xw_ins_X8_lastRead xw_sel_X8_lastRead xw_ini_X8 xd_X8_lastRead (xH_at.trans (xsh_8 kd_oMod)) rfl ⟨Nat.le_of_ble_eq_true rfl, Nat.le_of_ble_eq_true rfl⟩ rfl (Nat.le_of_ble_eq_true rfl) ⟨Nat.le_of_ble_eq_true rfl, Nat.le_of_ble_eq_true rfl⟩ ?_
  rintro _ _ ⟨r2, rfl, hZ2, rfl⟩
  show xV _ _ _ _ _ _ _ _ _ _ _ _ _ _ _ _ _ (xH D b (jn C S)) _ _ [.int r2, .int r1]
  have e12 := hO1 r2 hZ2
  subst e12
  refine xi_icmpeq (tgt := 888) hC dL_law_259 (pc' := 262) rfl (by decide) (fun zc259 => ?_) (fun zc259 => ?_)
  · skip
    exact K C S u w (hS.up (by omega)) hR
  · skip
    exact absurd rfl zc259

set_option maxRecDepth 100000 in
set_option maxHeartbeats 4000000 in
theorem law_4 {p : Program} {l : Launch} {e : Env} {s : State} {m : MethodId} {below : List Frame} {meth : Method} {c : Code} {D : XD} {a b L : Nat} {xs : Nat → Int32} (hC : xC p s m #[Value.ref a] meth c D cL_law 4 R_law) (hX : va_X a L xs s s.heap) (hal : a < b) (hb : b = s.heap.size) (hL : L ≤ 2048) {C S : XM} {N u w i : Nat} (hi : i + 4 ≤ L) (hS : SI N S u w) (hR : RR (jn C S) S u w) (hN : N + 21 < 2 ^ 31) (K : ∀ (C T : XM) (u w : Nat), SI (N + 20) T u w → RR (jn C T) T u w → xV p l e room_1 s m #[Value.ref a] below meth c D b 4 605 3415 (lw_Z below #[Value.ref a] s) (b + 605) (xH D b (jn C T)) 888 [some (.ref a), some (.ref (b + 0)), some (.ref (b + oMod)), some (.int (nI i))] []) : xV p l e room_1 s m #[Value.ref a] below meth c D b 4 605 3415 (lw_Z below #[Value.ref a] s) (b + 605) (xH D b (jn C S)) 264 [some (.ref a), some (.ref (b + 0)), some (.ref (b + oMod)), some (.int (nI i))] [] := by
  refine xi_aload_n hC dL_law_264 (pc' := 265) rfl rfl rfl ?_
  refine xi_aload_n hC dL_law_265 (pc' := 266) rfl rfl rfl ?_
  refine xi_iload_n hC dL_law_266 (pc' := 267) rfl rfl rfl ?_
  refine xi_iconst (v := nI 1) hC dL_law_267 (pc' := 268) rfl (by decide +kernel) ?_
  refine xn_iadd hC dL_law_268 (pc' := 269) rfl ?_
  refine xi_sld hC dL_law_269 (pc' := 270) rfl hX hal hb rfl (by omega) (by omega) ?_
  refine xi_callV (As := [.int (xs (i + 1))]) (rest := []) (c_X7_check l D b (b + 605) (σ := jn C S) (S := S) (N := N) (u := u) (w := w) hS hR (by omega) (x := (xs (i + 1)))) hC dL_law_270 (pc' := 273) rfl xw_m_L_31 xw_c_X7_check xw_ins_X7_check xw_sel_X7_check xw_ini_X7 xd_X7_check (xH_at.trans (xsh_7 kd_0)) rfl ⟨Nat.le_of_ble_eq_true rfl, Nat.le_of_ble_eq_true rfl⟩ rfl (Nat.le_of_ble_eq_true rfl) ⟨Nat.le_of_ble_eq_true rfl, Nat.le_of_ble_eq_true rfl⟩ ?_
  rintro _ _ ⟨r1, rfl, hO1, rfl⟩
  show xV _ _ _ _ _ _ _ _ _ _ _ _ _ _ _ _ _ (xH D b (jn C S)) _ _ [.int r1]
  refine xi_aload_n hC dL_law_273 (pc' := 274) rfl rfl rfl ?_
  refine xi_aload_n hC dL_law_274 (pc' := 275) rfl rfl rfl ?_
  refine xi_iload_n hC dL_law_275 (pc' := 276) rfl rfl rfl ?_
  refine xi_iconst (v := nI 1) hC dL_law_276 (pc' := 277) rfl (by decide +kernel) ?_
  refine xn_iadd hC dL_law_277 (pc' := 278) rfl ?_
  refine xi_sld hC dL_law_278 (pc' := 279) rfl hX hal hb rfl (by omega) (by omega) ?_
  refine xi_callV (As := [.int (xs (i + 1))]) (rest := [.int r1]) (c_X8_check l D b (b + 605) (C := C) (S := S) (u := u) (w := w) hS.1 (x := (xs (i + 1)))) hC dL_law_279 (pc' := 282) rfl xw_m_L_34 xw_c_X8_check xw_ins_X8_check xw_sel_X8_check xw_ini_X8 xd_X8_check (xH_at.trans (xsh_8 kd_oMod)) rfl ⟨Nat.le_of_ble_eq_true rfl, Nat.le_of_ble_eq_true rfl⟩ rfl (Nat.le_of_ble_eq_true rfl) ⟨Nat.le_of_ble_eq_true rfl, Nat.le_of_ble_eq_true rfl⟩ ?_
  rintro _ _ ⟨r2, T2, rfl, hZ2, rfl⟩
  show xV _ _ _ _ _ _ _ _ _ _ _ _ _ _ _ _ _ (xH D b (jn C T2)) _ _ [.int r2, .int r1]
  have e12 := hO1 r2 T2 hZ2
  subst e12
  refine xi_icmpeq (tgt := 888) hC dL_law_282 (pc' := 285) rfl (by decide) (fun zc282 => ?_) (fun zc282 => ?_)
  · skip
    exact K C T2 u w ((hS.sp hZ2.1).up (by omega)) ((hR.sp hZ2.1).jj hS.1.2.1.2.2)
  · skip
    exact absurd rfl zc282

set_option maxRecDepth 100000 in
set_option maxHeartbeats 4000000 in
theorem law_5 {p : Program} {l : Launch} {e : Env} {s : State} {m : MethodId} {below : List Frame} {meth : Method} {c : Code} {D : XD} {a b L : Nat} {xs : Nat → Int32} (hC : xC p s m #[Value.ref a] meth c D cL_law 4 R_law) (hX : va_X a L xs s s.heap) (hal : a < b) (hb : b = s.heap.size) (hL : L ≤ 2048) {C S : XM} {N u w i : Nat} (hi : i + 4 ≤ L) (hS : SI N S u w) (hR : RR (jn C S) S u w) (hN : N + 21 < 2 ^ 31) (K : ∀ (C T : XM) (u w : Nat), SI (N + 20) T u w → RR (jn C T) T u w → xV p l e room_1 s m #[Value.ref a] below meth c D b 4 605 3415 (lw_Z below #[Value.ref a] s) (b + 605) (xH D b (jn C T)) 888 [some (.ref a), some (.ref (b + 0)), some (.ref (b + oMod)), some (.int (nI i))] []) : xV p l e room_1 s m #[Value.ref a] below meth c D b 4 605 3415 (lw_Z below #[Value.ref a] s) (b + 605) (xH D b (jn C S)) 287 [some (.ref a), some (.ref (b + 0)), some (.ref (b + oMod)), some (.int (nI i))] [] := by
  refine xi_aload_n hC dL_law_287 (pc' := 288) rfl rfl rfl ?_
  refine xi_aload_n hC dL_law_288 (pc' := 289) rfl rfl rfl ?_
  refine xi_iload_n hC dL_law_289 (pc' := 290) rfl rfl rfl ?_
  refine xi_iconst (v := nI 1) hC dL_law_290 (pc' := 291) rfl (by decide +kernel) ?_
  refine xn_iadd hC dL_law_291 (pc' := 292) rfl ?_
  refine xi_sld hC dL_law_292 (pc' := 293) rfl hX hal hb rfl (by omega) (by omega) ?_
  refine xi_aload_n hC dL_law_293 (pc' := 294) rfl rfl rfl ?_
  refine xi_iload_n hC dL_law_294 (pc' := 295) rfl rfl rfl ?_
  refine xi_iconst (v := nI 2) hC dL_law_295 (pc' := 296) rfl (by decide +kernel) ?_
  refine xn_iadd hC dL_law_296 (pc' := 297) rfl ?_
  refine xi_sld hC dL_law_297 (pc' := 298) rfl hX hal hb rfl (by omega) (by omega) ?_
  refine xi_callV (As := [.int (xs (i + 1)), .int (xs (i + 2))]) (rest := []) (c_X7_fork l D b (b + 605) (σ := jn C S) (S := S) (N := N) (u := u) (w := w) hS hR (by omega) (x := (xs (i + 1))) (y := (xs (i + 2)))) hC dL_law_298 (pc' := 301) rfl xw_m_L_35 xw_c_X7_fork xw_ins_X7_fork xw_sel_X7_fork xw_ini_X7 xd_X7_fork (xH_at.trans (xsh_7 kd_0)) rfl ⟨Nat.le_of_ble_eq_true rfl, Nat.le_of_ble_eq_true rfl⟩ rfl (Nat.le_of_ble_eq_true rfl) ⟨Nat.le_of_ble_eq_true rfl, Nat.le_of_ble_eq_true rfl⟩ ?_
  rintro _ _ ⟨r1, τ1, rfl, hH1, hO1, rfl⟩
  refine xstate (jn_hi hH1) ?_
  show xV _ _ _ _ _ _ _ _ _ _ _ _ _ _ _ _ _ (xH D b (jn τ1 S)) _ _ [.int r1]
  refine xi_aload_n hC dL_law_301 (pc' := 302) rfl rfl rfl ?_
  refine xi_aload_n hC dL_law_302 (pc' := 303) rfl rfl rfl ?_
  refine xi_iload_n hC dL_law_303 (pc' := 304) rfl rfl rfl ?_
  refine xi_iconst (v := nI 1) hC dL_law_304 (pc' := 305) rfl (by decide +kernel) ?_
  refine xn_iadd hC dL_law_305 (pc' := 306) rfl ?_
  refine xi_sld hC dL_law_306 (pc' := 307) rfl hX hal hb rfl (by omega) (by omega) ?_
  refine xi_aload_n hC dL_law_307 (pc' := 308) rfl rfl rfl ?_
  refine xi_iload_n hC dL_law_308 (pc' := 309) rfl rfl rfl ?_
  refine xi_iconst (v := nI 2) hC dL_law_309 (pc' := 310) rfl (by decide +kernel) ?_
  refine xn_iadd hC dL_law_310 (pc' := 311) rfl ?_
  refine xi_sld hC dL_law_311 (pc' := 312) rfl hX hal hb rfl (by omega) (by omega) ?_
  refine xi_callV (As := [.int (xs (i + 1)), .int (xs (i + 2))]) (rest := [.int r1]) (c_X8_fork l D b (b + 605) (C := τ1) (S := S) (u := u) (w := w) hS.1 (x := (xs (i + 1))) (y := (xs (i + 2)))) hC dL_law_312 (pc' := 315) rfl xw_m_L_38 xw_c_X8_fork xw_ins_X8_fork xw_sel_X8_fork xw_ini_X8 xd_X8_fork (xH_at.trans (xsh_8 kd_oMod)) rfl ⟨Nat.le_of_ble_eq_true rfl, Nat.le_of_ble_eq_true rfl⟩ rfl (Nat.le_of_ble_eq_true rfl) ⟨Nat.le_of_ble_eq_true rfl, Nat.le_of_ble_eq_true rfl⟩ ?_
  rintro _ _ ⟨r2, T2, rfl, hZ2, rfl⟩
  show xV _ _ _ _ _ _ _ _ _ _ _ _ _ _ _ _ _ (xH D b (jn τ1 T2)) _ _ [.int r2, .int r1]
  obtain ⟨e12, hR2⟩ := hO1 r2 T2 hZ2
  subst e12
  refine xi_icmpeq (tgt := 888) hC dL_law_315 (pc' := 318) rfl (by decide) (fun zc315 => ?_) (fun zc315 => ?_)
  · skip
    obtain ⟨w2, hw2, e1, hS2⟩ := SI_fork hS hZ2
    exact K τ1 T2 u w2 (hS2.up (by omega)) ((hR2 w2 e1 hw2).j1 hw2)
  · skip
    exact absurd rfl zc315

set_option maxRecDepth 100000 in
set_option maxHeartbeats 4000000 in
theorem law_6 {p : Program} {l : Launch} {e : Env} {s : State} {m : MethodId} {below : List Frame} {meth : Method} {c : Code} {D : XD} {a b L : Nat} {xs : Nat → Int32} (hC : xC p s m #[Value.ref a] meth c D cL_law 4 R_law) (hX : va_X a L xs s s.heap) (hal : a < b) (hb : b = s.heap.size) (hL : L ≤ 2048) {C S : XM} {N u w i : Nat} (hi : i + 4 ≤ L) (hS : SI N S u w) (hR : RR (jn C S) S u w) (hN : N + 21 < 2 ^ 31) (K : ∀ (C T : XM) (u w : Nat), SI (N + 20) T u w → RR (jn C T) T u w → xV p l e room_1 s m #[Value.ref a] below meth c D b 4 605 3415 (lw_Z below #[Value.ref a] s) (b + 605) (xH D b (jn C T)) 888 [some (.ref a), some (.ref (b + 0)), some (.ref (b + oMod)), some (.int (nI i))] []) : xV p l e room_1 s m #[Value.ref a] below meth c D b 4 605 3415 (lw_Z below #[Value.ref a] s) (b + 605) (xH D b (jn C S)) 320 [some (.ref a), some (.ref (b + 0)), some (.ref (b + oMod)), some (.int (nI i))] [] := by
  refine xi_aload_n hC dL_law_320 (pc' := 321) rfl rfl rfl ?_
  refine xi_aload_n hC dL_law_321 (pc' := 322) rfl rfl rfl ?_
  refine xi_iload_n hC dL_law_322 (pc' := 323) rfl rfl rfl ?_
  refine xi_iconst (v := nI 1) hC dL_law_323 (pc' := 324) rfl (by decide +kernel) ?_
  refine xn_iadd hC dL_law_324 (pc' := 325) rfl ?_
  refine xi_sld hC dL_law_325 (pc' := 326) rfl hX hal hb rfl (by omega) (by omega) ?_
  refine xi_aload_n hC dL_law_326 (pc' := 327) rfl rfl rfl ?_
  refine xi_iload_n hC dL_law_327 (pc' := 328) rfl rfl rfl ?_
  refine xi_iconst (v := nI 2) hC dL_law_328 (pc' := 329) rfl (by decide +kernel) ?_
  refine xn_iadd hC dL_law_329 (pc' := 330) rfl ?_
  refine xi_sld hC dL_law_330 (pc' := 331) rfl hX hal hb rfl (by omega) (by omega) ?_
  refine xi_callV (As := [.int (xs (i + 1)), .int (xs (i + 2))]) (rest := []) (c_X7_attach l D b (b + 605) (σ := jn C S) (S := S) (N := N) (u := u) (w := w) hS hR (by omega) (x := (xs (i + 1))) (y := (xs (i + 2)))) hC dL_law_331 (pc' := 334) rfl xw_m_L_39 xw_c_X7_attach xw_ins_X7_attach xw_sel_X7_attach xw_ini_X7 xd_X7_attach (xH_at.trans (xsh_7 kd_0)) rfl ⟨Nat.le_of_ble_eq_true rfl, Nat.le_of_ble_eq_true rfl⟩ rfl (Nat.le_of_ble_eq_true rfl) ⟨Nat.le_of_ble_eq_true rfl, Nat.le_of_ble_eq_true rfl⟩ ?_
  rintro _ _ ⟨r1, τ1, rfl, hH1, hO1, rfl⟩
  refine xstate (jn_hi hH1) ?_
  show xV _ _ _ _ _ _ _ _ _ _ _ _ _ _ _ _ _ (xH D b (jn τ1 S)) _ _ [.int r1]
  refine xi_aload_n hC dL_law_334 (pc' := 335) rfl rfl rfl ?_
  refine xi_aload_n hC dL_law_335 (pc' := 336) rfl rfl rfl ?_
  refine xi_iload_n hC dL_law_336 (pc' := 337) rfl rfl rfl ?_
  refine xi_iconst (v := nI 1) hC dL_law_337 (pc' := 338) rfl (by decide +kernel) ?_
  refine xn_iadd hC dL_law_338 (pc' := 339) rfl ?_
  refine xi_sld hC dL_law_339 (pc' := 340) rfl hX hal hb rfl (by omega) (by omega) ?_
  refine xi_aload_n hC dL_law_340 (pc' := 341) rfl rfl rfl ?_
  refine xi_iload_n hC dL_law_341 (pc' := 342) rfl rfl rfl ?_
  refine xi_iconst (v := nI 2) hC dL_law_342 (pc' := 343) rfl (by decide +kernel) ?_
  refine xn_iadd hC dL_law_343 (pc' := 344) rfl ?_
  refine xi_sld hC dL_law_344 (pc' := 345) rfl hX hal hb rfl (by omega) (by omega) ?_
  refine xi_callV (As := [.int (xs (i + 1)), .int (xs (i + 2))]) (rest := [.int r1]) (c_X8_attach l D b (b + 605) (C := τ1) (S := S) (u := u) (w := w) hS.1 (x := (xs (i + 1))) (y := (xs (i + 2)))) hC dL_law_345 (pc' := 348) rfl xw_m_L_42 xw_c_X8_attach xw_ins_X8_attach xw_sel_X8_attach xw_ini_X8 xd_X8_attach (xH_at.trans (xsh_8 kd_oMod)) rfl ⟨Nat.le_of_ble_eq_true rfl, Nat.le_of_ble_eq_true rfl⟩ rfl (Nat.le_of_ble_eq_true rfl) ⟨Nat.le_of_ble_eq_true rfl, Nat.le_of_ble_eq_true rfl⟩ ?_
  rintro _ _ ⟨r2, T2, rfl, hZ2, rfl⟩
  show xV _ _ _ _ _ _ _ _ _ _ _ _ _ _ _ _ _ (xH D b (jn τ1 T2)) _ _ [.int r2, .int r1]
  obtain ⟨e12, hR2⟩ := hO1 r2 T2 hZ2
  subst e12
  refine xi_icmpeq (tgt := 888) hC dL_law_348 (pc' := 351) rfl (by decide) (fun zc348 => ?_) (fun zc348 => ?_)
  · skip
    exact K τ1 T2 u w ((SI_attach hS hZ2).up (by omega)) (hR2.j1 hS.1.2.1.2.2)
  · skip
    exact absurd rfl zc348

set_option maxRecDepth 100000 in
set_option maxHeartbeats 4000000 in
theorem law_7 {p : Program} {l : Launch} {e : Env} {s : State} {m : MethodId} {below : List Frame} {meth : Method} {c : Code} {D : XD} {a b L : Nat} {xs : Nat → Int32} (hC : xC p s m #[Value.ref a] meth c D cL_law 4 R_law) (hX : va_X a L xs s s.heap) (hal : a < b) (hb : b = s.heap.size) (hL : L ≤ 2048) {C S : XM} {N u w i : Nat} (hi : i + 4 ≤ L) (hS : SI N S u w) (hR : RR (jn C S) S u w) (hN : N + 21 < 2 ^ 31) (K : ∀ (C T : XM) (u w : Nat), SI (N + 20) T u w → RR (jn C T) T u w → xV p l e room_1 s m #[Value.ref a] below meth c D b 4 605 3415 (lw_Z below #[Value.ref a] s) (b + 605) (xH D b (jn C T)) 888 [some (.ref a), some (.ref (b + 0)), some (.ref (b + oMod)), some (.int (nI i))] []) : xV p l e room_1 s m #[Value.ref a] below meth c D b 4 605 3415 (lw_Z below #[Value.ref a] s) (b + 605) (xH D b (jn C S)) 353 [some (.ref a), some (.ref (b + 0)), some (.ref (b + oMod)), some (.int (nI i))] [] := by
  refine xi_aload_n hC dL_law_353 (pc' := 354) rfl rfl rfl ?_
  refine xi_aload_n hC dL_law_354 (pc' := 355) rfl rfl rfl ?_
  refine xi_iload_n hC dL_law_355 (pc' := 356) rfl rfl rfl ?_
  refine xi_iconst (v := nI 1) hC dL_law_356 (pc' := 357) rfl (by decide +kernel) ?_
  refine xn_iadd hC dL_law_357 (pc' := 358) rfl ?_
  refine xi_sld hC dL_law_358 (pc' := 359) rfl hX hal hb rfl (by omega) (by omega) ?_
  refine xi_aload_n hC dL_law_359 (pc' := 360) rfl rfl rfl ?_
  refine xi_iload_n hC dL_law_360 (pc' := 361) rfl rfl rfl ?_
  refine xi_iconst (v := nI 2) hC dL_law_361 (pc' := 362) rfl (by decide +kernel) ?_
  refine xn_iadd hC dL_law_362 (pc' := 363) rfl ?_
  refine xi_sld hC dL_law_363 (pc' := 364) rfl hX hal hb rfl (by omega) (by omega) ?_
  refine xi_callV (As := [.int (xs (i + 1)), .int (xs (i + 2))]) (rest := []) (c_X7_rollBack l D b (b + 605) (σ := jn C S) (S := S) (N := N) (u := u) (w := w) hS hR (by omega) (x := (xs (i + 1))) (y := (xs (i + 2)))) hC dL_law_364 (pc' := 367) rfl xw_m_L_43 xw_c_X7_rollBack xw_ins_X7_rollBack xw_sel_X7_rollBack xw_ini_X7 xd_X7_rollBack (xH_at.trans (xsh_7 kd_0)) rfl ⟨Nat.le_of_ble_eq_true rfl, Nat.le_of_ble_eq_true rfl⟩ rfl (Nat.le_of_ble_eq_true rfl) ⟨Nat.le_of_ble_eq_true rfl, Nat.le_of_ble_eq_true rfl⟩ ?_
  rintro _ _ ⟨r1, τ1, rfl, hH1, hO1, rfl⟩
  refine xstate (jn_hi hH1) ?_
  show xV _ _ _ _ _ _ _ _ _ _ _ _ _ _ _ _ _ (xH D b (jn τ1 S)) _ _ [.int r1]
  refine xi_aload_n hC dL_law_367 (pc' := 368) rfl rfl rfl ?_
  refine xi_aload_n hC dL_law_368 (pc' := 369) rfl rfl rfl ?_
  refine xi_iload_n hC dL_law_369 (pc' := 370) rfl rfl rfl ?_
  refine xi_iconst (v := nI 1) hC dL_law_370 (pc' := 371) rfl (by decide +kernel) ?_
  refine xn_iadd hC dL_law_371 (pc' := 372) rfl ?_
  refine xi_sld hC dL_law_372 (pc' := 373) rfl hX hal hb rfl (by omega) (by omega) ?_
  refine xi_aload_n hC dL_law_373 (pc' := 374) rfl rfl rfl ?_
  refine xi_iload_n hC dL_law_374 (pc' := 375) rfl rfl rfl ?_
  refine xi_iconst (v := nI 2) hC dL_law_375 (pc' := 376) rfl (by decide +kernel) ?_
  refine xn_iadd hC dL_law_376 (pc' := 377) rfl ?_
  refine xi_sld hC dL_law_377 (pc' := 378) rfl hX hal hb rfl (by omega) (by omega) ?_
  refine xi_callV (As := [.int (xs (i + 1)), .int (xs (i + 2))]) (rest := [.int r1]) (c_X8_rollBack l D b (b + 605) (C := τ1) (S := S) (u := u) (w := w) hS.1 (x := (xs (i + 1))) (y := (xs (i + 2)))) hC dL_law_378 (pc' := 381) rfl xw_m_L_46 xw_c_X8_rollBack xw_ins_X8_rollBack xw_sel_X8_rollBack xw_ini_X8 xd_X8_rollBack (xH_at.trans (xsh_8 kd_oMod)) rfl ⟨Nat.le_of_ble_eq_true rfl, Nat.le_of_ble_eq_true rfl⟩ rfl (Nat.le_of_ble_eq_true rfl) ⟨Nat.le_of_ble_eq_true rfl, Nat.le_of_ble_eq_true rfl⟩ ?_
  rintro _ _ ⟨r2, T2, rfl, hZ2, rfl⟩
  show xV _ _ _ _ _ _ _ _ _ _ _ _ _ _ _ _ _ (xH D b (jn τ1 T2)) _ _ [.int r2, .int r1]
  obtain ⟨e12, hR2⟩ := hO1 r2 T2 hZ2
  subst e12
  refine xi_icmpeq (tgt := 888) hC dL_law_381 (pc' := 384) rfl (by decide) (fun zc381 => ?_) (fun zc381 => ?_)
  · skip
    exact K τ1 T2 u w ((SI_roll hS hZ2).up (by omega)) (hR2.j1 hS.1.2.1.2.2)
  · skip
    exact absurd rfl zc381

set_option maxRecDepth 100000 in
set_option maxHeartbeats 4000000 in
theorem law_8 {p : Program} {l : Launch} {e : Env} {s : State} {m : MethodId} {below : List Frame} {meth : Method} {c : Code} {D : XD} {a b L : Nat} {xs : Nat → Int32} (hC : xC p s m #[Value.ref a] meth c D cL_law 4 R_law) (hX : va_X a L xs s s.heap) (hal : a < b) (hb : b = s.heap.size) (hL : L ≤ 2048) {C S : XM} {N u w i : Nat} (hi : i + 4 ≤ L) (hS : SI N S u w) (hR : RR (jn C S) S u w) (hN : N + 21 < 2 ^ 31) (K : ∀ (C T : XM) (u w : Nat), SI (N + 20) T u w → RR (jn C T) T u w → xV p l e room_1 s m #[Value.ref a] below meth c D b 4 605 3415 (lw_Z below #[Value.ref a] s) (b + 605) (xH D b (jn C T)) 888 [some (.ref a), some (.ref (b + 0)), some (.ref (b + oMod)), some (.int (nI i))] []) : xV p l e room_1 s m #[Value.ref a] below meth c D b 4 605 3415 (lw_Z below #[Value.ref a] s) (b + 605) (xH D b (jn C S)) 386 [some (.ref a), some (.ref (b + 0)), some (.ref (b + oMod)), some (.int (nI i))] [] := by
  refine xi_aload_n hC dL_law_386 (pc' := 387) rfl rfl rfl ?_
  refine xi_aload_n hC dL_law_387 (pc' := 388) rfl rfl rfl ?_
  refine xi_iload_n hC dL_law_388 (pc' := 389) rfl rfl rfl ?_
  refine xi_iconst (v := nI 1) hC dL_law_389 (pc' := 390) rfl (by decide +kernel) ?_
  refine xn_iadd hC dL_law_390 (pc' := 391) rfl ?_
  refine xi_sld hC dL_law_391 (pc' := 392) rfl hX hal hb rfl (by omega) (by omega) ?_
  refine xi_aload_n hC dL_law_392 (pc' := 393) rfl rfl rfl ?_
  refine xi_iload_n hC dL_law_393 (pc' := 394) rfl rfl rfl ?_
  refine xi_iconst (v := nI 2) hC dL_law_394 (pc' := 395) rfl (by decide +kernel) ?_
  refine xn_iadd hC dL_law_395 (pc' := 396) rfl ?_
  refine xi_sld hC dL_law_396 (pc' := 397) rfl hX hal hb rfl (by omega) (by omega) ?_
  refine xi_callV (As := [.int (xs (i + 1)), .int (xs (i + 2))]) (rest := []) (c_X7_mix l D b (b + 605) (σ := jn C S) (S := S) (N := N) (u := u) (w := w) hS hR (by omega) (x := (xs (i + 1))) (y := (xs (i + 2)))) hC dL_law_397 (pc' := 400) rfl xw_m_L_47 xw_c_X7_mix xw_ins_X7_mix xw_sel_X7_mix xw_ini_X7 xd_X7_mix (xH_at.trans (xsh_7 kd_0)) rfl ⟨Nat.le_of_ble_eq_true rfl, Nat.le_of_ble_eq_true rfl⟩ rfl (Nat.le_of_ble_eq_true rfl) ⟨Nat.le_of_ble_eq_true rfl, Nat.le_of_ble_eq_true rfl⟩ ?_
  rintro _ _ ⟨r1, τ1, rfl, hH1, hO1, rfl⟩
  refine xstate (jn_hi hH1) ?_
  show xV _ _ _ _ _ _ _ _ _ _ _ _ _ _ _ _ _ (xH D b (jn τ1 S)) _ _ [.int r1]
  refine xi_aload_n hC dL_law_400 (pc' := 401) rfl rfl rfl ?_
  refine xi_aload_n hC dL_law_401 (pc' := 402) rfl rfl rfl ?_
  refine xi_iload_n hC dL_law_402 (pc' := 403) rfl rfl rfl ?_
  refine xi_iconst (v := nI 1) hC dL_law_403 (pc' := 404) rfl (by decide +kernel) ?_
  refine xn_iadd hC dL_law_404 (pc' := 405) rfl ?_
  refine xi_sld hC dL_law_405 (pc' := 406) rfl hX hal hb rfl (by omega) (by omega) ?_
  refine xi_aload_n hC dL_law_406 (pc' := 407) rfl rfl rfl ?_
  refine xi_iload_n hC dL_law_407 (pc' := 408) rfl rfl rfl ?_
  refine xi_iconst (v := nI 2) hC dL_law_408 (pc' := 409) rfl (by decide +kernel) ?_
  refine xn_iadd hC dL_law_409 (pc' := 410) rfl ?_
  refine xi_sld hC dL_law_410 (pc' := 411) rfl hX hal hb rfl (by omega) (by omega) ?_
  refine xi_callV (As := [.int (xs (i + 1)), .int (xs (i + 2))]) (rest := [.int r1]) (c_X8_mix l D b (b + 605) (C := τ1) (S := S) (u := u) (w := w) hS.1 (x := (xs (i + 1))) (y := (xs (i + 2)))) hC dL_law_411 (pc' := 414) rfl xw_m_L_50 xw_c_X8_mix xw_ins_X8_mix xw_sel_X8_mix xw_ini_X8 xd_X8_mix (xH_at.trans (xsh_8 kd_oMod)) rfl ⟨Nat.le_of_ble_eq_true rfl, Nat.le_of_ble_eq_true rfl⟩ rfl (Nat.le_of_ble_eq_true rfl) ⟨Nat.le_of_ble_eq_true rfl, Nat.le_of_ble_eq_true rfl⟩ ?_
  rintro _ _ ⟨r2, T2, rfl, hZ2, rfl⟩
  show xV _ _ _ _ _ _ _ _ _ _ _ _ _ _ _ _ _ (xH D b (jn τ1 T2)) _ _ [.int r2, .int r1]
  obtain ⟨e12, hR2⟩ := hO1 r2 T2 hZ2
  subst e12
  refine xi_icmpeq (tgt := 888) hC dL_law_414 (pc' := 417) rfl (by decide) (fun zc414 => ?_) (fun zc414 => ?_)
  · skip
    exact K τ1 T2 u w ((SI_mix hS hZ2).up (by omega)) (hR2.j1 hS.1.2.1.2.2)
  · skip
    exact absurd rfl zc414

set_option maxRecDepth 100000 in
set_option maxHeartbeats 4000000 in
theorem law_9 {p : Program} {l : Launch} {e : Env} {s : State} {m : MethodId} {below : List Frame} {meth : Method} {c : Code} {D : XD} {a b L : Nat} {xs : Nat → Int32} (hC : xC p s m #[Value.ref a] meth c D cL_law 4 R_law) (hX : va_X a L xs s s.heap) (hal : a < b) (hb : b = s.heap.size) (hL : L ≤ 2048) {C S : XM} {N u w i : Nat} (hi : i + 4 ≤ L) (hS : SI N S u w) (hR : RR (jn C S) S u w) (hN : N + 21 < 2 ^ 31) (K : ∀ (C T : XM) (u w : Nat), SI (N + 20) T u w → RR (jn C T) T u w → xV p l e room_1 s m #[Value.ref a] below meth c D b 4 605 3415 (lw_Z below #[Value.ref a] s) (b + 605) (xH D b (jn C T)) 888 [some (.ref a), some (.ref (b + 0)), some (.ref (b + oMod)), some (.int (nI i))] []) : xV p l e room_1 s m #[Value.ref a] below meth c D b 4 605 3415 (lw_Z below #[Value.ref a] s) (b + 605) (xH D b (jn C S)) 419 [some (.ref a), some (.ref (b + 0)), some (.ref (b + oMod)), some (.int (nI i))] [] := by
  refine xi_aload_n hC dL_law_419 (pc' := 420) rfl rfl rfl ?_
  refine xi_aload_n hC dL_law_420 (pc' := 421) rfl rfl rfl ?_
  refine xi_iload_n hC dL_law_421 (pc' := 422) rfl rfl rfl ?_
  refine xi_iconst (v := nI 1) hC dL_law_422 (pc' := 423) rfl (by decide +kernel) ?_
  refine xn_iadd hC dL_law_423 (pc' := 424) rfl ?_
  refine xi_sld hC dL_law_424 (pc' := 425) rfl hX hal hb rfl (by omega) (by omega) ?_
  refine xi_aload_n hC dL_law_425 (pc' := 426) rfl rfl rfl ?_
  refine xi_iload_n hC dL_law_426 (pc' := 427) rfl rfl rfl ?_
  refine xi_iconst (v := nI 2) hC dL_law_427 (pc' := 428) rfl (by decide +kernel) ?_
  refine xn_iadd hC dL_law_428 (pc' := 429) rfl ?_
  refine xi_sld hC dL_law_429 (pc' := 430) rfl hX hal hb rfl (by omega) (by omega) ?_
  refine xi_callV (As := [.int (xs (i + 1)), .int (xs (i + 2))]) (rest := []) (c_X7_sendLetter l D b (b + 605) (σ := jn C S) (S := S) (N := N) (u := u) (w := w) hS hR (by omega) (x := (xs (i + 1))) (y := (xs (i + 2)))) hC dL_law_430 (pc' := 433) rfl xw_m_L_51 xw_c_X7_sendLetter xw_ins_X7_sendLetter xw_sel_X7_sendLetter xw_ini_X7 xd_X7_sendLetter (xH_at.trans (xsh_7 kd_0)) rfl ⟨Nat.le_of_ble_eq_true rfl, Nat.le_of_ble_eq_true rfl⟩ rfl (Nat.le_of_ble_eq_true rfl) ⟨Nat.le_of_ble_eq_true rfl, Nat.le_of_ble_eq_true rfl⟩ ?_
  rintro _ _ ⟨r1, τ1, rfl, hH1, hO1, rfl⟩
  refine xstate (jn_hi hH1) ?_
  show xV _ _ _ _ _ _ _ _ _ _ _ _ _ _ _ _ _ (xH D b (jn τ1 S)) _ _ [.int r1]
  refine xi_aload_n hC dL_law_433 (pc' := 434) rfl rfl rfl ?_
  refine xi_aload_n hC dL_law_434 (pc' := 435) rfl rfl rfl ?_
  refine xi_iload_n hC dL_law_435 (pc' := 436) rfl rfl rfl ?_
  refine xi_iconst (v := nI 1) hC dL_law_436 (pc' := 437) rfl (by decide +kernel) ?_
  refine xn_iadd hC dL_law_437 (pc' := 438) rfl ?_
  refine xi_sld hC dL_law_438 (pc' := 439) rfl hX hal hb rfl (by omega) (by omega) ?_
  refine xi_aload_n hC dL_law_439 (pc' := 440) rfl rfl rfl ?_
  refine xi_iload_n hC dL_law_440 (pc' := 441) rfl rfl rfl ?_
  refine xi_iconst (v := nI 2) hC dL_law_441 (pc' := 442) rfl (by decide +kernel) ?_
  refine xn_iadd hC dL_law_442 (pc' := 443) rfl ?_
  refine xi_sld hC dL_law_443 (pc' := 444) rfl hX hal hb rfl (by omega) (by omega) ?_
  refine xi_callV (As := [.int (xs (i + 1)), .int (xs (i + 2))]) (rest := [.int r1]) (c_X8_sendLetter l D b (b + 605) (C := τ1) (S := S) (u := u) (w := w) hS.1 (x := (xs (i + 1))) (y := (xs (i + 2)))) hC dL_law_444 (pc' := 447) rfl xw_m_L_54 xw_c_X8_sendLetter xw_ins_X8_sendLetter xw_sel_X8_sendLetter xw_ini_X8 xd_X8_sendLetter (xH_at.trans (xsh_8 kd_oMod)) rfl ⟨Nat.le_of_ble_eq_true rfl, Nat.le_of_ble_eq_true rfl⟩ rfl (Nat.le_of_ble_eq_true rfl) ⟨Nat.le_of_ble_eq_true rfl, Nat.le_of_ble_eq_true rfl⟩ ?_
  rintro _ _ ⟨r2, T2, rfl, hZ2, rfl⟩
  show xV _ _ _ _ _ _ _ _ _ _ _ _ _ _ _ _ _ (xH D b (jn τ1 T2)) _ _ [.int r2, .int r1]
  obtain ⟨e12, hR2⟩ := hO1 r2 T2 hZ2
  subst e12
  refine xi_icmpeq (tgt := 888) hC dL_law_447 (pc' := 450) rfl (by decide) (fun zc447 => ?_) (fun zc447 => ?_)
  · skip
    exact K τ1 T2 u w ((SI_send hS hZ2).up (by omega)) (hR2.j1 hS.1.2.1.2.2)
  · skip
    exact absurd rfl zc447

set_option maxRecDepth 100000 in
set_option maxHeartbeats 4000000 in
theorem law_10 {p : Program} {l : Launch} {e : Env} {s : State} {m : MethodId} {below : List Frame} {meth : Method} {c : Code} {D : XD} {a b L : Nat} {xs : Nat → Int32} (hC : xC p s m #[Value.ref a] meth c D cL_law 4 R_law) (hX : va_X a L xs s s.heap) (hal : a < b) (hb : b = s.heap.size) (hL : L ≤ 2048) {C S : XM} {N u w i : Nat} (hi : i + 4 ≤ L) (hS : SI N S u w) (hR : RR (jn C S) S u w) (hN : N + 21 < 2 ^ 31) (K : ∀ (C T : XM) (u w : Nat), SI (N + 20) T u w → RR (jn C T) T u w → xV p l e room_1 s m #[Value.ref a] below meth c D b 4 605 3415 (lw_Z below #[Value.ref a] s) (b + 605) (xH D b (jn C T)) 888 [some (.ref a), some (.ref (b + 0)), some (.ref (b + oMod)), some (.int (nI i))] []) : xV p l e room_1 s m #[Value.ref a] below meth c D b 4 605 3415 (lw_Z below #[Value.ref a] s) (b + 605) (xH D b (jn C S)) 452 [some (.ref a), some (.ref (b + 0)), some (.ref (b + oMod)), some (.int (nI i))] [] := by
  refine xi_aload_n hC dL_law_452 (pc' := 453) rfl rfl rfl ?_
  refine xi_aload_n hC dL_law_453 (pc' := 454) rfl rfl rfl ?_
  refine xi_iload_n hC dL_law_454 (pc' := 455) rfl rfl rfl ?_
  refine xi_iconst (v := nI 1) hC dL_law_455 (pc' := 456) rfl (by decide +kernel) ?_
  refine xn_iadd hC dL_law_456 (pc' := 457) rfl ?_
  refine xi_sld hC dL_law_457 (pc' := 458) rfl hX hal hb rfl (by omega) (by omega) ?_
  refine xi_callV (As := [.int (xs (i + 1))]) (rest := []) (c_X7_readLetter l D b (b + 605) (σ := jn C S) (S := S) (N := N) (u := u) (w := w) hS hR (by omega) (x := (xs (i + 1)))) hC dL_law_458 (pc' := 461) rfl xw_m_L_55 xw_c_X7_readLetter xw_ins_X7_readLetter xw_sel_X7_readLetter xw_ini_X7 xd_X7_readLetter (xH_at.trans (xsh_7 kd_0)) rfl ⟨Nat.le_of_ble_eq_true rfl, Nat.le_of_ble_eq_true rfl⟩ rfl (Nat.le_of_ble_eq_true rfl) ⟨Nat.le_of_ble_eq_true rfl, Nat.le_of_ble_eq_true rfl⟩ ?_
  rintro _ _ ⟨r1, τ1, rfl, hH1, hO1, rfl⟩
  refine xstate (jn_hi hH1) ?_
  show xV _ _ _ _ _ _ _ _ _ _ _ _ _ _ _ _ _ (xH D b (jn τ1 S)) _ _ [.int r1]
  refine xi_aload_n hC dL_law_461 (pc' := 462) rfl rfl rfl ?_
  refine xi_aload_n hC dL_law_462 (pc' := 463) rfl rfl rfl ?_
  refine xi_iload_n hC dL_law_463 (pc' := 464) rfl rfl rfl ?_
  refine xi_iconst (v := nI 1) hC dL_law_464 (pc' := 465) rfl (by decide +kernel) ?_
  refine xn_iadd hC dL_law_465 (pc' := 466) rfl ?_
  refine xi_sld hC dL_law_466 (pc' := 467) rfl hX hal hb rfl (by omega) (by omega) ?_
  refine xi_callV (As := [.int (xs (i + 1))]) (rest := [.int r1]) (c_X8_readLetter l D b (b + 605) (C := τ1) (S := S) (u := u) (w := w) hS.1 (x := (xs (i + 1)))) hC dL_law_467 (pc' := 470) rfl xw_m_L_58 xw_c_X8_readLetter xw_ins_X8_readLetter xw_sel_X8_readLetter xw_ini_X8 xd_X8_readLetter (xH_at.trans (xsh_8 kd_oMod)) rfl ⟨Nat.le_of_ble_eq_true rfl, Nat.le_of_ble_eq_true rfl⟩ rfl (Nat.le_of_ble_eq_true rfl) ⟨Nat.le_of_ble_eq_true rfl, Nat.le_of_ble_eq_true rfl⟩ ?_
  rintro _ _ ⟨r2, T2, rfl, hZ2, rfl⟩
  show xV _ _ _ _ _ _ _ _ _ _ _ _ _ _ _ _ _ (xH D b (jn τ1 T2)) _ _ [.int r2, .int r1]
  obtain ⟨e12, hR2⟩ := hO1 r2 T2 hZ2
  subst e12
  refine xi_icmpeq (tgt := 888) hC dL_law_470 (pc' := 473) rfl (by decide) (fun zc470 => ?_) (fun zc470 => ?_)
  · skip
    exact K τ1 T2 u w ((SI_readL hS hZ2).up (by omega)) (hR2.j1 hS.1.2.1.2.2)
  · skip
    exact absurd rfl zc470

set_option maxRecDepth 100000 in
set_option maxHeartbeats 4000000 in
theorem law_11 {p : Program} {l : Launch} {e : Env} {s : State} {m : MethodId} {below : List Frame} {meth : Method} {c : Code} {D : XD} {a b L : Nat} {xs : Nat → Int32} (hC : xC p s m #[Value.ref a] meth c D cL_law 4 R_law) (hX : va_X a L xs s s.heap) (hal : a < b) (hb : b = s.heap.size) (hL : L ≤ 2048) {C S : XM} {N u w i : Nat} (hi : i + 4 ≤ L) (hS : SI N S u w) (hR : RR (jn C S) S u w) (hN : N + 21 < 2 ^ 31) (K : ∀ (C T : XM) (u w : Nat), SI (N + 20) T u w → RR (jn C T) T u w → xV p l e room_1 s m #[Value.ref a] below meth c D b 4 605 3415 (lw_Z below #[Value.ref a] s) (b + 605) (xH D b (jn C T)) 888 [some (.ref a), some (.ref (b + 0)), some (.ref (b + oMod)), some (.int (nI i))] []) : xV p l e room_1 s m #[Value.ref a] below meth c D b 4 605 3415 (lw_Z below #[Value.ref a] s) (b + 605) (xH D b (jn C S)) 475 [some (.ref a), some (.ref (b + 0)), some (.ref (b + oMod)), some (.int (nI i))] [] := by
  refine xi_aload_n hC dL_law_475 (pc' := 476) rfl rfl rfl ?_
  refine xi_aload_n hC dL_law_476 (pc' := 477) rfl rfl rfl ?_
  refine xi_iload_n hC dL_law_477 (pc' := 478) rfl rfl rfl ?_
  refine xi_iconst (v := nI 1) hC dL_law_478 (pc' := 479) rfl (by decide +kernel) ?_
  refine xn_iadd hC dL_law_479 (pc' := 480) rfl ?_
  refine xi_sld hC dL_law_480 (pc' := 481) rfl hX hal hb rfl (by omega) (by omega) ?_
  refine xi_callV (As := [.int (xs (i + 1))]) (rest := []) (c_X7_loseLetter l D b (b + 605) (σ := jn C S) (S := S) (N := N) (u := u) (w := w) hS hR (by omega) (x := (xs (i + 1)))) hC dL_law_481 (pc' := 484) rfl xw_m_L_59 xw_c_X7_loseLetter xw_ins_X7_loseLetter xw_sel_X7_loseLetter xw_ini_X7 xd_X7_loseLetter (xH_at.trans (xsh_7 kd_0)) rfl ⟨Nat.le_of_ble_eq_true rfl, Nat.le_of_ble_eq_true rfl⟩ rfl (Nat.le_of_ble_eq_true rfl) ⟨Nat.le_of_ble_eq_true rfl, Nat.le_of_ble_eq_true rfl⟩ ?_
  rintro _ _ ⟨r1, τ1, rfl, hH1, hO1, rfl⟩
  refine xstate (jn_hi hH1) ?_
  show xV _ _ _ _ _ _ _ _ _ _ _ _ _ _ _ _ _ (xH D b (jn τ1 S)) _ _ [.int r1]
  refine xi_aload_n hC dL_law_484 (pc' := 485) rfl rfl rfl ?_
  refine xi_aload_n hC dL_law_485 (pc' := 486) rfl rfl rfl ?_
  refine xi_iload_n hC dL_law_486 (pc' := 487) rfl rfl rfl ?_
  refine xi_iconst (v := nI 1) hC dL_law_487 (pc' := 488) rfl (by decide +kernel) ?_
  refine xn_iadd hC dL_law_488 (pc' := 489) rfl ?_
  refine xi_sld hC dL_law_489 (pc' := 490) rfl hX hal hb rfl (by omega) (by omega) ?_
  refine xi_callV (As := [.int (xs (i + 1))]) (rest := [.int r1]) (c_X8_loseLetter l D b (b + 605) (C := τ1) (S := S) (u := u) (w := w) hS.1 (x := (xs (i + 1)))) hC dL_law_490 (pc' := 493) rfl xw_m_L_62 xw_c_X8_loseLetter xw_ins_X8_loseLetter xw_sel_X8_loseLetter xw_ini_X8 xd_X8_loseLetter (xH_at.trans (xsh_8 kd_oMod)) rfl ⟨Nat.le_of_ble_eq_true rfl, Nat.le_of_ble_eq_true rfl⟩ rfl (Nat.le_of_ble_eq_true rfl) ⟨Nat.le_of_ble_eq_true rfl, Nat.le_of_ble_eq_true rfl⟩ ?_
  rintro _ _ ⟨r2, T2, rfl, hZ2, rfl⟩
  show xV _ _ _ _ _ _ _ _ _ _ _ _ _ _ _ _ _ (xH D b (jn τ1 T2)) _ _ [.int r2, .int r1]
  obtain ⟨e12, hR2⟩ := hO1 r2 T2 hZ2
  subst e12
  refine xi_icmpeq (tgt := 888) hC dL_law_493 (pc' := 496) rfl (by decide) (fun zc493 => ?_) (fun zc493 => ?_)
  · skip
    exact K τ1 T2 u w ((SI_lose hS hZ2).up (by omega)) (hR2.j1 hS.1.2.1.2.2)
  · skip
    exact absurd rfl zc493

set_option maxRecDepth 100000 in
set_option maxHeartbeats 4000000 in
theorem law_12 {p : Program} {l : Launch} {e : Env} {s : State} {m : MethodId} {below : List Frame} {meth : Method} {c : Code} {D : XD} {a b L : Nat} {xs : Nat → Int32} (hC : xC p s m #[Value.ref a] meth c D cL_law 4 R_law) (hX : va_X a L xs s s.heap) (hal : a < b) (hb : b = s.heap.size) (hL : L ≤ 2048) {C S : XM} {N u w i : Nat} (hi : i + 4 ≤ L) (hS : SI N S u w) (hR : RR (jn C S) S u w) (hN : N + 21 < 2 ^ 31) (K : ∀ (C T : XM) (u w : Nat), SI (N + 20) T u w → RR (jn C T) T u w → xV p l e room_1 s m #[Value.ref a] below meth c D b 4 605 3415 (lw_Z below #[Value.ref a] s) (b + 605) (xH D b (jn C T)) 888 [some (.ref a), some (.ref (b + 0)), some (.ref (b + oMod)), some (.int (nI i))] []) : xV p l e room_1 s m #[Value.ref a] below meth c D b 4 605 3415 (lw_Z below #[Value.ref a] s) (b + 605) (xH D b (jn C S)) 498 [some (.ref a), some (.ref (b + 0)), some (.ref (b + oMod)), some (.int (nI i))] [] := by
  refine xi_aload_n hC dL_law_498 (pc' := 499) rfl rfl rfl ?_
  refine xi_aload_n hC dL_law_499 (pc' := 500) rfl rfl rfl ?_
  refine xi_iload_n hC dL_law_500 (pc' := 501) rfl rfl rfl ?_
  refine xi_iconst (v := nI 1) hC dL_law_501 (pc' := 502) rfl (by decide +kernel) ?_
  refine xn_iadd hC dL_law_502 (pc' := 503) rfl ?_
  refine xi_sld hC dL_law_503 (pc' := 504) rfl hX hal hb rfl (by omega) (by omega) ?_
  refine xi_aload_n hC dL_law_504 (pc' := 505) rfl rfl rfl ?_
  refine xi_iload_n hC dL_law_505 (pc' := 506) rfl rfl rfl ?_
  refine xi_iconst (v := nI 2) hC dL_law_506 (pc' := 507) rfl (by decide +kernel) ?_
  refine xn_iadd hC dL_law_507 (pc' := 508) rfl ?_
  refine xi_sld hC dL_law_508 (pc' := 509) rfl hX hal hb rfl (by omega) (by omega) ?_
  refine xi_callV (As := [.int (xs (i + 1)), .int (xs (i + 2))]) (rest := []) (c_X7_passProof l D b (b + 605) (σ := jn C S) (S := S) (N := N) (u := u) (w := w) hS hR (by omega) (x := (xs (i + 1))) (y := (xs (i + 2)))) hC dL_law_509 (pc' := 512) rfl xw_m_L_63 xw_c_X7_passProof xw_ins_X7_passProof xw_sel_X7_passProof xw_ini_X7 xd_X7_passProof (xH_at.trans (xsh_7 kd_0)) rfl ⟨Nat.le_of_ble_eq_true rfl, Nat.le_of_ble_eq_true rfl⟩ rfl (Nat.le_of_ble_eq_true rfl) ⟨Nat.le_of_ble_eq_true rfl, Nat.le_of_ble_eq_true rfl⟩ ?_
  rintro _ _ ⟨r1, τ1, rfl, hH1, hO1, rfl⟩
  refine xstate (jn_hi hH1) ?_
  show xV _ _ _ _ _ _ _ _ _ _ _ _ _ _ _ _ _ (xH D b (jn τ1 S)) _ _ [.int r1]
  refine xi_aload_n hC dL_law_512 (pc' := 513) rfl rfl rfl ?_
  refine xi_aload_n hC dL_law_513 (pc' := 514) rfl rfl rfl ?_
  refine xi_iload_n hC dL_law_514 (pc' := 515) rfl rfl rfl ?_
  refine xi_iconst (v := nI 1) hC dL_law_515 (pc' := 516) rfl (by decide +kernel) ?_
  refine xn_iadd hC dL_law_516 (pc' := 517) rfl ?_
  refine xi_sld hC dL_law_517 (pc' := 518) rfl hX hal hb rfl (by omega) (by omega) ?_
  refine xi_aload_n hC dL_law_518 (pc' := 519) rfl rfl rfl ?_
  refine xi_iload_n hC dL_law_519 (pc' := 520) rfl rfl rfl ?_
  refine xi_iconst (v := nI 2) hC dL_law_520 (pc' := 521) rfl (by decide +kernel) ?_
  refine xn_iadd hC dL_law_521 (pc' := 522) rfl ?_
  refine xi_sld hC dL_law_522 (pc' := 523) rfl hX hal hb rfl (by omega) (by omega) ?_
  refine xi_callV (As := [.int (xs (i + 1)), .int (xs (i + 2))]) (rest := [.int r1]) (c_X8_passProof l D b (b + 605) (C := τ1) (S := S) (u := u) (w := w) hS.1 (x := (xs (i + 1))) (y := (xs (i + 2)))) hC dL_law_523 (pc' := 526) rfl xw_m_L_66 xw_c_X8_passProof xw_ins_X8_passProof xw_sel_X8_passProof xw_ini_X8 xd_X8_passProof (xH_at.trans (xsh_8 kd_oMod)) rfl ⟨Nat.le_of_ble_eq_true rfl, Nat.le_of_ble_eq_true rfl⟩ rfl (Nat.le_of_ble_eq_true rfl) ⟨Nat.le_of_ble_eq_true rfl, Nat.le_of_ble_eq_true rfl⟩ ?_
  rintro _ _ ⟨r2, T2, rfl, hZ2, rfl⟩
  show xV _ _ _ _ _ _ _ _ _ _ _ _ _ _ _ _ _ (xH D b (jn τ1 T2)) _ _ [.int r2, .int r1]
  obtain ⟨e12, hR2⟩ := hO1 r2 T2 hZ2
  subst e12
  refine xi_icmpeq (tgt := 888) hC dL_law_526 (pc' := 529) rfl (by decide) (fun zc526 => ?_) (fun zc526 => ?_)
  · skip
    exact K τ1 T2 u w ((SI_pass hS hZ2).up (by omega)) (hR2.j1 hS.1.2.1.2.2)
  · skip
    exact absurd rfl zc526

set_option maxRecDepth 100000 in
set_option maxHeartbeats 4000000 in
theorem law_13 {p : Program} {l : Launch} {e : Env} {s : State} {m : MethodId} {below : List Frame} {meth : Method} {c : Code} {D : XD} {a b L : Nat} {xs : Nat → Int32} (hC : xC p s m #[Value.ref a] meth c D cL_law 4 R_law) (hX : va_X a L xs s s.heap) (hal : a < b) (hb : b = s.heap.size) (hL : L ≤ 2048) {C S : XM} {N u w i : Nat} (hi : i + 4 ≤ L) (hS : SI N S u w) (hR : RR (jn C S) S u w) (hN : N + 21 < 2 ^ 31) (K : ∀ (C T : XM) (u w : Nat), SI (N + 20) T u w → RR (jn C T) T u w → xV p l e room_1 s m #[Value.ref a] below meth c D b 4 605 3415 (lw_Z below #[Value.ref a] s) (b + 605) (xH D b (jn C T)) 888 [some (.ref a), some (.ref (b + 0)), some (.ref (b + oMod)), some (.int (nI i))] []) : xV p l e room_1 s m #[Value.ref a] below meth c D b 4 605 3415 (lw_Z below #[Value.ref a] s) (b + 605) (xH D b (jn C S)) 531 [some (.ref a), some (.ref (b + 0)), some (.ref (b + oMod)), some (.int (nI i))] [] := by
  refine xi_aload_n hC dL_law_531 (pc' := 532) rfl rfl rfl ?_
  refine xi_aload_n hC dL_law_532 (pc' := 533) rfl rfl rfl ?_
  refine xi_iload_n hC dL_law_533 (pc' := 534) rfl rfl rfl ?_
  refine xi_iconst (v := nI 1) hC dL_law_534 (pc' := 535) rfl (by decide +kernel) ?_
  refine xn_iadd hC dL_law_535 (pc' := 536) rfl ?_
  refine xi_sld hC dL_law_536 (pc' := 537) rfl hX hal hb rfl (by omega) (by omega) ?_
  refine xi_callV (As := [.int (xs (i + 1))]) (rest := []) (c_X7_count l D b (b + 605) (σ := jn C S) (S := S) (N := N) (u := u) (w := w) hS hR (by omega) (x := (xs (i + 1)))) hC dL_law_537 (pc' := 540) rfl xw_m_L_67 xw_c_X7_count xw_ins_X7_count xw_sel_X7_count xw_ini_X7 xd_X7_count (xH_at.trans (xsh_7 kd_0)) rfl ⟨Nat.le_of_ble_eq_true rfl, Nat.le_of_ble_eq_true rfl⟩ rfl (Nat.le_of_ble_eq_true rfl) ⟨Nat.le_of_ble_eq_true rfl, Nat.le_of_ble_eq_true rfl⟩ ?_
  rintro _ _ ⟨r1, rfl, hO1, rfl⟩
  show xV _ _ _ _ _ _ _ _ _ _ _ _ _ _ _ _ _ (xH D b (jn C S)) _ _ [.int r1]
  refine xi_aload_n hC dL_law_540 (pc' := 541) rfl rfl rfl ?_
  refine xi_aload_n hC dL_law_541 (pc' := 542) rfl rfl rfl ?_
  refine xi_iload_n hC dL_law_542 (pc' := 543) rfl rfl rfl ?_
  refine xi_iconst (v := nI 1) hC dL_law_543 (pc' := 544) rfl (by decide +kernel) ?_
  refine xn_iadd hC dL_law_544 (pc' := 545) rfl ?_
  refine xi_sld hC dL_law_545 (pc' := 546) rfl hX hal hb rfl (by omega) (by omega) ?_
  refine xi_callV (As := [.int (xs (i + 1))]) (rest := [.int r1]) (c_X8_count l D b (b + 605) (C := C) (S := S) (u := u) (w := w) hS.1 (x := (xs (i + 1)))) hC dL_law_546 (pc' := 549) rfl xw_m_L_70 xw_c_X8_count xw_ins_X8_count xw_sel_X8_count xw_ini_X8 xd_X8_count (xH_at.trans (xsh_8 kd_oMod)) rfl ⟨Nat.le_of_ble_eq_true rfl, Nat.le_of_ble_eq_true rfl⟩ rfl (Nat.le_of_ble_eq_true rfl) ⟨Nat.le_of_ble_eq_true rfl, Nat.le_of_ble_eq_true rfl⟩ ?_
  rintro _ _ ⟨r2, rfl, hZ2, rfl⟩
  show xV _ _ _ _ _ _ _ _ _ _ _ _ _ _ _ _ _ (xH D b (jn C S)) _ _ [.int r2, .int r1]
  have e12 := hO1 r2 hZ2
  subst e12
  refine xi_icmpeq (tgt := 888) hC dL_law_549 (pc' := 552) rfl (by decide) (fun zc549 => ?_) (fun zc549 => ?_)
  · skip
    exact K C S u w (hS.up (by omega)) hR
  · skip
    exact absurd rfl zc549

set_option maxRecDepth 100000 in
set_option maxHeartbeats 4000000 in
theorem law_14 {p : Program} {l : Launch} {e : Env} {s : State} {m : MethodId} {below : List Frame} {meth : Method} {c : Code} {D : XD} {a b L : Nat} {xs : Nat → Int32} (hC : xC p s m #[Value.ref a] meth c D cL_law 4 R_law) (hX : va_X a L xs s s.heap) (hal : a < b) (hb : b = s.heap.size) (hL : L ≤ 2048) {C S : XM} {N u w i : Nat} (hi : i + 4 ≤ L) (hS : SI N S u w) (hR : RR (jn C S) S u w) (hN : N + 21 < 2 ^ 31) (K : ∀ (C T : XM) (u w : Nat), SI (N + 20) T u w → RR (jn C T) T u w → xV p l e room_1 s m #[Value.ref a] below meth c D b 4 605 3415 (lw_Z below #[Value.ref a] s) (b + 605) (xH D b (jn C T)) 888 [some (.ref a), some (.ref (b + 0)), some (.ref (b + oMod)), some (.int (nI i))] []) : xV p l e room_1 s m #[Value.ref a] below meth c D b 4 605 3415 (lw_Z below #[Value.ref a] s) (b + 605) (xH D b (jn C S)) 554 [some (.ref a), some (.ref (b + 0)), some (.ref (b + oMod)), some (.int (nI i))] [] := by
  refine xi_aload_n hC dL_law_554 (pc' := 555) rfl rfl rfl ?_
  refine xi_aload_n hC dL_law_555 (pc' := 556) rfl rfl rfl ?_
  refine xi_iload_n hC dL_law_556 (pc' := 557) rfl rfl rfl ?_
  refine xi_iconst (v := nI 1) hC dL_law_557 (pc' := 558) rfl (by decide +kernel) ?_
  refine xn_iadd hC dL_law_558 (pc' := 559) rfl ?_
  refine xi_sld hC dL_law_559 (pc' := 560) rfl hX hal hb rfl (by omega) (by omega) ?_
  refine xi_aload_n hC dL_law_560 (pc' := 561) rfl rfl rfl ?_
  refine xi_iload_n hC dL_law_561 (pc' := 562) rfl rfl rfl ?_
  refine xi_iconst (v := nI 2) hC dL_law_562 (pc' := 563) rfl (by decide +kernel) ?_
  refine xn_iadd hC dL_law_563 (pc' := 564) rfl ?_
  refine xi_sld hC dL_law_564 (pc' := 565) rfl hX hal hb rfl (by omega) (by omega) ?_
  refine xi_callV (As := [.int (xs (i + 1)), .int (xs (i + 2))]) (rest := []) (c_X7_user l D b (b + 605) (σ := jn C S) (S := S) (N := N) (u := u) (w := w) hS hR (by omega) (x := (xs (i + 1))) (y := (xs (i + 2)))) hC dL_law_565 (pc' := 568) rfl xw_m_L_71 xw_c_X7_user xw_ins_X7_user xw_sel_X7_user xw_ini_X7 xd_X7_user (xH_at.trans (xsh_7 kd_0)) rfl ⟨Nat.le_of_ble_eq_true rfl, Nat.le_of_ble_eq_true rfl⟩ rfl (Nat.le_of_ble_eq_true rfl) ⟨Nat.le_of_ble_eq_true rfl, Nat.le_of_ble_eq_true rfl⟩ ?_
  rintro _ _ ⟨r1, rfl, hO1, rfl⟩
  show xV _ _ _ _ _ _ _ _ _ _ _ _ _ _ _ _ _ (xH D b (jn C S)) _ _ [.int r1]
  refine xi_aload_n hC dL_law_568 (pc' := 569) rfl rfl rfl ?_
  refine xi_aload_n hC dL_law_569 (pc' := 570) rfl rfl rfl ?_
  refine xi_iload_n hC dL_law_570 (pc' := 571) rfl rfl rfl ?_
  refine xi_iconst (v := nI 1) hC dL_law_571 (pc' := 572) rfl (by decide +kernel) ?_
  refine xn_iadd hC dL_law_572 (pc' := 573) rfl ?_
  refine xi_sld hC dL_law_573 (pc' := 574) rfl hX hal hb rfl (by omega) (by omega) ?_
  refine xi_aload_n hC dL_law_574 (pc' := 575) rfl rfl rfl ?_
  refine xi_iload_n hC dL_law_575 (pc' := 576) rfl rfl rfl ?_
  refine xi_iconst (v := nI 2) hC dL_law_576 (pc' := 577) rfl (by decide +kernel) ?_
  refine xn_iadd hC dL_law_577 (pc' := 578) rfl ?_
  refine xi_sld hC dL_law_578 (pc' := 579) rfl hX hal hb rfl (by omega) (by omega) ?_
  refine xi_callV (As := [.int (xs (i + 1)), .int (xs (i + 2))]) (rest := [.int r1]) (c_X8_user l D b (b + 605) (C := C) (S := S) (u := u) (w := w) hS.1 (x := (xs (i + 1))) (y := (xs (i + 2)))) hC dL_law_579 (pc' := 582) rfl xw_m_L_74 xw_c_X8_user xw_ins_X8_user xw_sel_X8_user xw_ini_X8 xd_X8_user (xH_at.trans (xsh_8 kd_oMod)) rfl ⟨Nat.le_of_ble_eq_true rfl, Nat.le_of_ble_eq_true rfl⟩ rfl (Nat.le_of_ble_eq_true rfl) ⟨Nat.le_of_ble_eq_true rfl, Nat.le_of_ble_eq_true rfl⟩ ?_
  rintro _ _ ⟨r2, rfl, hZ2, rfl⟩
  show xV _ _ _ _ _ _ _ _ _ _ _ _ _ _ _ _ _ (xH D b (jn C S)) _ _ [.int r2, .int r1]
  have e12 := hO1 r2 hZ2
  subst e12
  refine xi_icmpeq (tgt := 888) hC dL_law_582 (pc' := 585) rfl (by decide) (fun zc582 => ?_) (fun zc582 => ?_)
  · skip
    exact K C S u w (hS.up (by omega)) hR
  · skip
    exact absurd rfl zc582

set_option maxRecDepth 100000 in
set_option maxHeartbeats 4000000 in
theorem law_15 {p : Program} {l : Launch} {e : Env} {s : State} {m : MethodId} {below : List Frame} {meth : Method} {c : Code} {D : XD} {a b L : Nat} {xs : Nat → Int32} (hC : xC p s m #[Value.ref a] meth c D cL_law 4 R_law) (hX : va_X a L xs s s.heap) (hal : a < b) (hb : b = s.heap.size) (hL : L ≤ 2048) {C S : XM} {N u w i : Nat} (hi : i + 4 ≤ L) (hS : SI N S u w) (hR : RR (jn C S) S u w) (hN : N + 21 < 2 ^ 31) (K : ∀ (C T : XM) (u w : Nat), SI (N + 20) T u w → RR (jn C T) T u w → xV p l e room_1 s m #[Value.ref a] below meth c D b 4 605 3415 (lw_Z below #[Value.ref a] s) (b + 605) (xH D b (jn C T)) 888 [some (.ref a), some (.ref (b + 0)), some (.ref (b + oMod)), some (.int (nI i))] []) : xV p l e room_1 s m #[Value.ref a] below meth c D b 4 605 3415 (lw_Z below #[Value.ref a] s) (b + 605) (xH D b (jn C S)) 587 [some (.ref a), some (.ref (b + 0)), some (.ref (b + oMod)), some (.int (nI i))] [] := by
  refine xi_aload_n hC dL_law_587 (pc' := 588) rfl rfl rfl ?_
  refine xi_aload_n hC dL_law_588 (pc' := 589) rfl rfl rfl ?_
  refine xi_iload_n hC dL_law_589 (pc' := 590) rfl rfl rfl ?_
  refine xi_iconst (v := nI 1) hC dL_law_590 (pc' := 591) rfl (by decide +kernel) ?_
  refine xn_iadd hC dL_law_591 (pc' := 592) rfl ?_
  refine xi_sld hC dL_law_592 (pc' := 593) rfl hX hal hb rfl (by omega) (by omega) ?_
  refine xi_aload_n hC dL_law_593 (pc' := 594) rfl rfl rfl ?_
  refine xi_iload_n hC dL_law_594 (pc' := 595) rfl rfl rfl ?_
  refine xi_iconst (v := nI 2) hC dL_law_595 (pc' := 596) rfl (by decide +kernel) ?_
  refine xn_iadd hC dL_law_596 (pc' := 597) rfl ?_
  refine xi_sld hC dL_law_597 (pc' := 598) rfl hX hal hb rfl (by omega) (by omega) ?_
  refine xi_aload_n hC dL_law_598 (pc' := 599) rfl rfl rfl ?_
  refine xi_iload_n hC dL_law_599 (pc' := 600) rfl rfl rfl ?_
  refine xi_iconst (v := nI 3) hC dL_law_600 (pc' := 601) rfl (by decide +kernel) ?_
  refine xn_iadd hC dL_law_601 (pc' := 602) rfl ?_
  refine xi_sld hC dL_law_602 (pc' := 603) rfl hX hal hb rfl (by omega) (by omega) ?_
  refine xi_callV (As := [.int (xs (i + 1)), .int (xs (i + 2)), .int (xs (i + 3))]) (rest := []) (c_X7_vector l D b (b + 605) (σ := jn C S) (S := S) (N := N) (u := u) (w := w) hS hR (by omega) (x := (xs (i + 1))) (y := (xs (i + 2))) (z := (xs (i + 3)))) hC dL_law_603 (pc' := 606) rfl xw_m_L_75 xw_c_X7_vector xw_ins_X7_vector xw_sel_X7_vector xw_ini_X7 xd_X7_vector (xH_at.trans (xsh_7 kd_0)) rfl ⟨Nat.le_of_ble_eq_true rfl, Nat.le_of_ble_eq_true rfl⟩ rfl (Nat.le_of_ble_eq_true rfl) ⟨Nat.le_of_ble_eq_true rfl, Nat.le_of_ble_eq_true rfl⟩ ?_
  rintro _ _ ⟨r1, rfl, hO1, rfl⟩
  show xV _ _ _ _ _ _ _ _ _ _ _ _ _ _ _ _ _ (xH D b (jn C S)) _ _ [.int r1]
  refine xi_aload_n hC dL_law_606 (pc' := 607) rfl rfl rfl ?_
  refine xi_aload_n hC dL_law_607 (pc' := 608) rfl rfl rfl ?_
  refine xi_iload_n hC dL_law_608 (pc' := 609) rfl rfl rfl ?_
  refine xi_iconst (v := nI 1) hC dL_law_609 (pc' := 610) rfl (by decide +kernel) ?_
  refine xn_iadd hC dL_law_610 (pc' := 611) rfl ?_
  refine xi_sld hC dL_law_611 (pc' := 612) rfl hX hal hb rfl (by omega) (by omega) ?_
  refine xi_aload_n hC dL_law_612 (pc' := 613) rfl rfl rfl ?_
  refine xi_iload_n hC dL_law_613 (pc' := 614) rfl rfl rfl ?_
  refine xi_iconst (v := nI 2) hC dL_law_614 (pc' := 615) rfl (by decide +kernel) ?_
  refine xn_iadd hC dL_law_615 (pc' := 616) rfl ?_
  refine xi_sld hC dL_law_616 (pc' := 617) rfl hX hal hb rfl (by omega) (by omega) ?_
  refine xi_aload_n hC dL_law_617 (pc' := 618) rfl rfl rfl ?_
  refine xi_iload_n hC dL_law_618 (pc' := 619) rfl rfl rfl ?_
  refine xi_iconst (v := nI 3) hC dL_law_619 (pc' := 620) rfl (by decide +kernel) ?_
  refine xn_iadd hC dL_law_620 (pc' := 621) rfl ?_
  refine xi_sld hC dL_law_621 (pc' := 622) rfl hX hal hb rfl (by omega) (by omega) ?_
  refine xi_callV (As := [.int (xs (i + 1)), .int (xs (i + 2)), .int (xs (i + 3))]) (rest := [.int r1]) (c_X8_vector l D b (b + 605) (C := C) (S := S) (u := u) (w := w) hS.1 (x := (xs (i + 1))) (y := (xs (i + 2))) (z := (xs (i + 3)))) hC dL_law_622 (pc' := 625) rfl xw_m_L_79 xw_c_X8_vector xw_ins_X8_vector xw_sel_X8_vector xw_ini_X8 xd_X8_vector (xH_at.trans (xsh_8 kd_oMod)) rfl ⟨Nat.le_of_ble_eq_true rfl, Nat.le_of_ble_eq_true rfl⟩ rfl (Nat.le_of_ble_eq_true rfl) ⟨Nat.le_of_ble_eq_true rfl, Nat.le_of_ble_eq_true rfl⟩ ?_
  rintro _ _ ⟨r2, rfl, hZ2, rfl⟩
  show xV _ _ _ _ _ _ _ _ _ _ _ _ _ _ _ _ _ (xH D b (jn C S)) _ _ [.int r2, .int r1]
  have e12 := hO1 r2 hZ2
  subst e12
  refine xi_icmpeq (tgt := 888) hC dL_law_625 (pc' := 628) rfl (by decide) (fun zc625 => ?_) (fun zc625 => ?_)
  · skip
    exact K C S u w (hS.up (by omega)) hR
  · skip
    exact absurd rfl zc625

set_option maxRecDepth 100000 in
set_option maxHeartbeats 4000000 in
theorem law_16 {p : Program} {l : Launch} {e : Env} {s : State} {m : MethodId} {below : List Frame} {meth : Method} {c : Code} {D : XD} {a b L : Nat} {xs : Nat → Int32} (hC : xC p s m #[Value.ref a] meth c D cL_law 4 R_law) (hX : va_X a L xs s s.heap) (hal : a < b) (hb : b = s.heap.size) (hL : L ≤ 2048) {C S : XM} {N u w i : Nat} (hi : i + 4 ≤ L) (hS : SI N S u w) (hR : RR (jn C S) S u w) (hN : N + 21 < 2 ^ 31) (K : ∀ (C T : XM) (u w : Nat), SI (N + 20) T u w → RR (jn C T) T u w → xV p l e room_1 s m #[Value.ref a] below meth c D b 4 605 3415 (lw_Z below #[Value.ref a] s) (b + 605) (xH D b (jn C T)) 888 [some (.ref a), some (.ref (b + 0)), some (.ref (b + oMod)), some (.int (nI i))] []) : xV p l e room_1 s m #[Value.ref a] below meth c D b 4 605 3415 (lw_Z below #[Value.ref a] s) (b + 605) (xH D b (jn C S)) 630 [some (.ref a), some (.ref (b + 0)), some (.ref (b + oMod)), some (.int (nI i))] [] := by
  refine xi_aload_n hC dL_law_630 (pc' := 631) rfl rfl rfl ?_
  refine xi_aload_n hC dL_law_631 (pc' := 632) rfl rfl rfl ?_
  refine xi_iload_n hC dL_law_632 (pc' := 633) rfl rfl rfl ?_
  refine xi_iconst (v := nI 1) hC dL_law_633 (pc' := 634) rfl (by decide +kernel) ?_
  refine xn_iadd hC dL_law_634 (pc' := 635) rfl ?_
  refine xi_sld hC dL_law_635 (pc' := 636) rfl hX hal hb rfl (by omega) (by omega) ?_
  refine xi_aload_n hC dL_law_636 (pc' := 637) rfl rfl rfl ?_
  refine xi_iload_n hC dL_law_637 (pc' := 638) rfl rfl rfl ?_
  refine xi_iconst (v := nI 2) hC dL_law_638 (pc' := 639) rfl (by decide +kernel) ?_
  refine xn_iadd hC dL_law_639 (pc' := 640) rfl ?_
  refine xi_sld hC dL_law_640 (pc' := 641) rfl hX hal hb rfl (by omega) (by omega) ?_
  refine xi_aload_n hC dL_law_641 (pc' := 642) rfl rfl rfl ?_
  refine xi_iload_n hC dL_law_642 (pc' := 643) rfl rfl rfl ?_
  refine xi_iconst (v := nI 3) hC dL_law_643 (pc' := 644) rfl (by decide +kernel) ?_
  refine xn_iadd hC dL_law_644 (pc' := 645) rfl ?_
  refine xi_sld hC dL_law_645 (pc' := 646) rfl hX hal hb rfl (by omega) (by omega) ?_
  refine xi_callV (As := [.int (xs (i + 1)), .int (xs (i + 2)), .int (xs (i + 3))]) (rest := []) (c_X7_entry l D b (b + 605) (σ := jn C S) (S := S) (N := N) (u := u) (w := w) hS hR (by omega) (x := (xs (i + 1))) (y := (xs (i + 2))) (z := (xs (i + 3)))) hC dL_law_646 (pc' := 649) rfl xw_m_L_80 xw_c_X7_entry xw_ins_X7_entry xw_sel_X7_entry xw_ini_X7 xd_X7_entry (xH_at.trans (xsh_7 kd_0)) rfl ⟨Nat.le_of_ble_eq_true rfl, Nat.le_of_ble_eq_true rfl⟩ rfl (Nat.le_of_ble_eq_true rfl) ⟨Nat.le_of_ble_eq_true rfl, Nat.le_of_ble_eq_true rfl⟩ ?_
  rintro _ _ ⟨r1, rfl, hO1, rfl⟩
  show xV _ _ _ _ _ _ _ _ _ _ _ _ _ _ _ _ _ (xH D b (jn C S)) _ _ [.int r1]
  refine xi_aload_n hC dL_law_649 (pc' := 650) rfl rfl rfl ?_
  refine xi_aload_n hC dL_law_650 (pc' := 651) rfl rfl rfl ?_
  refine xi_iload_n hC dL_law_651 (pc' := 652) rfl rfl rfl ?_
  refine xi_iconst (v := nI 1) hC dL_law_652 (pc' := 653) rfl (by decide +kernel) ?_
  refine xn_iadd hC dL_law_653 (pc' := 654) rfl ?_
  refine xi_sld hC dL_law_654 (pc' := 655) rfl hX hal hb rfl (by omega) (by omega) ?_
  refine xi_aload_n hC dL_law_655 (pc' := 656) rfl rfl rfl ?_
  refine xi_iload_n hC dL_law_656 (pc' := 657) rfl rfl rfl ?_
  refine xi_iconst (v := nI 2) hC dL_law_657 (pc' := 658) rfl (by decide +kernel) ?_
  refine xn_iadd hC dL_law_658 (pc' := 659) rfl ?_
  refine xi_sld hC dL_law_659 (pc' := 660) rfl hX hal hb rfl (by omega) (by omega) ?_
  refine xi_aload_n hC dL_law_660 (pc' := 661) rfl rfl rfl ?_
  refine xi_iload_n hC dL_law_661 (pc' := 662) rfl rfl rfl ?_
  refine xi_iconst (v := nI 3) hC dL_law_662 (pc' := 663) rfl (by decide +kernel) ?_
  refine xn_iadd hC dL_law_663 (pc' := 664) rfl ?_
  refine xi_sld hC dL_law_664 (pc' := 665) rfl hX hal hb rfl (by omega) (by omega) ?_
  refine xi_callV (As := [.int (xs (i + 1)), .int (xs (i + 2)), .int (xs (i + 3))]) (rest := [.int r1]) (c_X8_entry l D b (b + 605) (C := C) (S := S) (u := u) (w := w) hS.1 (x := (xs (i + 1))) (y := (xs (i + 2))) (z := (xs (i + 3)))) hC dL_law_665 (pc' := 668) rfl xw_m_L_83 xw_c_X8_entry xw_ins_X8_entry xw_sel_X8_entry xw_ini_X8 xd_X8_entry (xH_at.trans (xsh_8 kd_oMod)) rfl ⟨Nat.le_of_ble_eq_true rfl, Nat.le_of_ble_eq_true rfl⟩ rfl (Nat.le_of_ble_eq_true rfl) ⟨Nat.le_of_ble_eq_true rfl, Nat.le_of_ble_eq_true rfl⟩ ?_
  rintro _ _ ⟨r2, rfl, hZ2, rfl⟩
  show xV _ _ _ _ _ _ _ _ _ _ _ _ _ _ _ _ _ (xH D b (jn C S)) _ _ [.int r2, .int r1]
  have e12 := hO1 r2 hZ2
  subst e12
  refine xi_icmpeq (tgt := 888) hC dL_law_668 (pc' := 671) rfl (by decide) (fun zc668 => ?_) (fun zc668 => ?_)
  · skip
    exact K C S u w (hS.up (by omega)) hR
  · skip
    exact absurd rfl zc668

set_option maxRecDepth 100000 in
set_option maxHeartbeats 4000000 in
theorem law_17 {p : Program} {l : Launch} {e : Env} {s : State} {m : MethodId} {below : List Frame} {meth : Method} {c : Code} {D : XD} {a b L : Nat} {xs : Nat → Int32} (hC : xC p s m #[Value.ref a] meth c D cL_law 4 R_law) (hX : va_X a L xs s s.heap) (hal : a < b) (hb : b = s.heap.size) (hL : L ≤ 2048) {C S : XM} {N u w i : Nat} (hi : i + 4 ≤ L) (hS : SI N S u w) (hR : RR (jn C S) S u w) (hN : N + 21 < 2 ^ 31) (K : ∀ (C T : XM) (u w : Nat), SI (N + 20) T u w → RR (jn C T) T u w → xV p l e room_1 s m #[Value.ref a] below meth c D b 4 605 3415 (lw_Z below #[Value.ref a] s) (b + 605) (xH D b (jn C T)) 888 [some (.ref a), some (.ref (b + 0)), some (.ref (b + oMod)), some (.int (nI i))] []) : xV p l e room_1 s m #[Value.ref a] below meth c D b 4 605 3415 (lw_Z below #[Value.ref a] s) (b + 605) (xH D b (jn C S)) 673 [some (.ref a), some (.ref (b + 0)), some (.ref (b + oMod)), some (.int (nI i))] [] := by
  refine xi_aload_n hC dL_law_673 (pc' := 674) rfl rfl rfl ?_
  refine xi_aload_n hC dL_law_674 (pc' := 675) rfl rfl rfl ?_
  refine xi_iload_n hC dL_law_675 (pc' := 676) rfl rfl rfl ?_
  refine xi_iconst (v := nI 1) hC dL_law_676 (pc' := 677) rfl (by decide +kernel) ?_
  refine xn_iadd hC dL_law_677 (pc' := 678) rfl ?_
  refine xi_sld hC dL_law_678 (pc' := 679) rfl hX hal hb rfl (by omega) (by omega) ?_
  refine xi_aload_n hC dL_law_679 (pc' := 680) rfl rfl rfl ?_
  refine xi_iload_n hC dL_law_680 (pc' := 681) rfl rfl rfl ?_
  refine xi_iconst (v := nI 2) hC dL_law_681 (pc' := 682) rfl (by decide +kernel) ?_
  refine xn_iadd hC dL_law_682 (pc' := 683) rfl ?_
  refine xi_sld hC dL_law_683 (pc' := 684) rfl hX hal hb rfl (by omega) (by omega) ?_
  refine xi_callV (As := [.int (xs (i + 1)), .int (xs (i + 2))]) (rest := []) (c_X7_content l D b (b + 605) (σ := jn C S) (S := S) (N := N) (u := u) (w := w) hS hR (by omega) (x := (xs (i + 1))) (y := (xs (i + 2)))) hC dL_law_684 (pc' := 687) rfl xw_m_L_84 xw_c_X7_content xw_ins_X7_content xw_sel_X7_content xw_ini_X7 xd_X7_content (xH_at.trans (xsh_7 kd_0)) rfl ⟨Nat.le_of_ble_eq_true rfl, Nat.le_of_ble_eq_true rfl⟩ rfl (Nat.le_of_ble_eq_true rfl) ⟨Nat.le_of_ble_eq_true rfl, Nat.le_of_ble_eq_true rfl⟩ ?_
  rintro _ _ ⟨r1, rfl, hO1, rfl⟩
  show xV _ _ _ _ _ _ _ _ _ _ _ _ _ _ _ _ _ (xH D b (jn C S)) _ _ [.int r1]
  refine xi_aload_n hC dL_law_687 (pc' := 688) rfl rfl rfl ?_
  refine xi_aload_n hC dL_law_688 (pc' := 689) rfl rfl rfl ?_
  refine xi_iload_n hC dL_law_689 (pc' := 690) rfl rfl rfl ?_
  refine xi_iconst (v := nI 1) hC dL_law_690 (pc' := 691) rfl (by decide +kernel) ?_
  refine xn_iadd hC dL_law_691 (pc' := 692) rfl ?_
  refine xi_sld hC dL_law_692 (pc' := 693) rfl hX hal hb rfl (by omega) (by omega) ?_
  refine xi_aload_n hC dL_law_693 (pc' := 694) rfl rfl rfl ?_
  refine xi_iload_n hC dL_law_694 (pc' := 695) rfl rfl rfl ?_
  refine xi_iconst (v := nI 2) hC dL_law_695 (pc' := 696) rfl (by decide +kernel) ?_
  refine xn_iadd hC dL_law_696 (pc' := 697) rfl ?_
  refine xi_sld hC dL_law_697 (pc' := 698) rfl hX hal hb rfl (by omega) (by omega) ?_
  refine xi_callV (As := [.int (xs (i + 1)), .int (xs (i + 2))]) (rest := [.int r1]) (c_X8_content l D b (b + 605) (C := C) (S := S) (u := u) (w := w) hS.1 (x := (xs (i + 1))) (y := (xs (i + 2)))) hC dL_law_698 (pc' := 701) rfl xw_m_L_87 xw_c_X8_content xw_ins_X8_content xw_sel_X8_content xw_ini_X8 xd_X8_content (xH_at.trans (xsh_8 kd_oMod)) rfl ⟨Nat.le_of_ble_eq_true rfl, Nat.le_of_ble_eq_true rfl⟩ rfl (Nat.le_of_ble_eq_true rfl) ⟨Nat.le_of_ble_eq_true rfl, Nat.le_of_ble_eq_true rfl⟩ ?_
  rintro _ _ ⟨r2, rfl, hZ2, rfl⟩
  show xV _ _ _ _ _ _ _ _ _ _ _ _ _ _ _ _ _ (xH D b (jn C S)) _ _ [.int r2, .int r1]
  have e12 := hO1 r2 hZ2
  subst e12
  refine xi_icmpeq (tgt := 888) hC dL_law_701 (pc' := 704) rfl (by decide) (fun zc701 => ?_) (fun zc701 => ?_)
  · skip
    exact K C S u w (hS.up (by omega)) hR
  · skip
    exact absurd rfl zc701

set_option maxRecDepth 100000 in
set_option maxHeartbeats 4000000 in
theorem law_18 {p : Program} {l : Launch} {e : Env} {s : State} {m : MethodId} {below : List Frame} {meth : Method} {c : Code} {D : XD} {a b L : Nat} {xs : Nat → Int32} (hC : xC p s m #[Value.ref a] meth c D cL_law 4 R_law) (hX : va_X a L xs s s.heap) (hal : a < b) (hb : b = s.heap.size) (hL : L ≤ 2048) {C S : XM} {N u w i : Nat} (hi : i + 4 ≤ L) (hS : SI N S u w) (hR : RR (jn C S) S u w) (hN : N + 21 < 2 ^ 31) (K : ∀ (C T : XM) (u w : Nat), SI (N + 20) T u w → RR (jn C T) T u w → xV p l e room_1 s m #[Value.ref a] below meth c D b 4 605 3415 (lw_Z below #[Value.ref a] s) (b + 605) (xH D b (jn C T)) 888 [some (.ref a), some (.ref (b + 0)), some (.ref (b + oMod)), some (.int (nI i))] []) : xV p l e room_1 s m #[Value.ref a] below meth c D b 4 605 3415 (lw_Z below #[Value.ref a] s) (b + 605) (xH D b (jn C S)) 706 [some (.ref a), some (.ref (b + 0)), some (.ref (b + oMod)), some (.int (nI i))] [] := by
  refine xi_aload_n hC dL_law_706 (pc' := 707) rfl rfl rfl ?_
  refine xi_aload_n hC dL_law_707 (pc' := 708) rfl rfl rfl ?_
  refine xi_iload_n hC dL_law_708 (pc' := 709) rfl rfl rfl ?_
  refine xi_iconst (v := nI 1) hC dL_law_709 (pc' := 710) rfl (by decide +kernel) ?_
  refine xn_iadd hC dL_law_710 (pc' := 711) rfl ?_
  refine xi_sld hC dL_law_711 (pc' := 712) rfl hX hal hb rfl (by omega) (by omega) ?_
  refine xi_aload_n hC dL_law_712 (pc' := 713) rfl rfl rfl ?_
  refine xi_iload_n hC dL_law_713 (pc' := 714) rfl rfl rfl ?_
  refine xi_iconst (v := nI 2) hC dL_law_714 (pc' := 715) rfl (by decide +kernel) ?_
  refine xn_iadd hC dL_law_715 (pc' := 716) rfl ?_
  refine xi_sld hC dL_law_716 (pc' := 717) rfl hX hal hb rfl (by omega) (by omega) ?_
  refine xi_callV (As := [.int (xs (i + 1)), .int (xs (i + 2))]) (rest := []) (c_X7_view l D b (b + 605) (σ := jn C S) (S := S) (N := N) (u := u) (w := w) hS hR (by omega) (x := (xs (i + 1))) (y := (xs (i + 2)))) hC dL_law_717 (pc' := 720) rfl xw_m_L_88 xw_c_X7_view xw_ins_X7_view xw_sel_X7_view xw_ini_X7 xd_X7_view (xH_at.trans (xsh_7 kd_0)) rfl ⟨Nat.le_of_ble_eq_true rfl, Nat.le_of_ble_eq_true rfl⟩ rfl (Nat.le_of_ble_eq_true rfl) ⟨Nat.le_of_ble_eq_true rfl, Nat.le_of_ble_eq_true rfl⟩ ?_
  rintro _ _ ⟨r1, rfl, hO1, rfl⟩
  show xV _ _ _ _ _ _ _ _ _ _ _ _ _ _ _ _ _ (xH D b (jn C S)) _ _ [.int r1]
  refine xi_aload_n hC dL_law_720 (pc' := 721) rfl rfl rfl ?_
  refine xi_aload_n hC dL_law_721 (pc' := 722) rfl rfl rfl ?_
  refine xi_iload_n hC dL_law_722 (pc' := 723) rfl rfl rfl ?_
  refine xi_iconst (v := nI 1) hC dL_law_723 (pc' := 724) rfl (by decide +kernel) ?_
  refine xn_iadd hC dL_law_724 (pc' := 725) rfl ?_
  refine xi_sld hC dL_law_725 (pc' := 726) rfl hX hal hb rfl (by omega) (by omega) ?_
  refine xi_aload_n hC dL_law_726 (pc' := 727) rfl rfl rfl ?_
  refine xi_iload_n hC dL_law_727 (pc' := 728) rfl rfl rfl ?_
  refine xi_iconst (v := nI 2) hC dL_law_728 (pc' := 729) rfl (by decide +kernel) ?_
  refine xn_iadd hC dL_law_729 (pc' := 730) rfl ?_
  refine xi_sld hC dL_law_730 (pc' := 731) rfl hX hal hb rfl (by omega) (by omega) ?_
  refine xi_callV (As := [.int (xs (i + 1)), .int (xs (i + 2))]) (rest := [.int r1]) (c_X8_view l D b (b + 605) (C := C) (S := S) (u := u) (w := w) hS.1 (x := (xs (i + 1))) (y := (xs (i + 2)))) hC dL_law_731 (pc' := 734) rfl xw_m_L_91 xw_c_X8_view xw_ins_X8_view xw_sel_X8_view xw_ini_X8 xd_X8_view (xH_at.trans (xsh_8 kd_oMod)) rfl ⟨Nat.le_of_ble_eq_true rfl, Nat.le_of_ble_eq_true rfl⟩ rfl (Nat.le_of_ble_eq_true rfl) ⟨Nat.le_of_ble_eq_true rfl, Nat.le_of_ble_eq_true rfl⟩ ?_
  rintro _ _ ⟨r2, T2, rfl, hZ2, rfl⟩
  show xV _ _ _ _ _ _ _ _ _ _ _ _ _ _ _ _ _ (xH D b (jn C T2)) _ _ [.int r2, .int r1]
  have e12 := hO1 r2 T2 hZ2
  subst e12
  refine xi_icmpeq (tgt := 888) hC dL_law_734 (pc' := 737) rfl (by decide) (fun zc734 => ?_) (fun zc734 => ?_)
  · skip
    exact K C T2 u w ((hS.sp hZ2.1).up (by omega)) ((hR.sp hZ2.1).jj hS.1.2.1.2.2)
  · skip
    exact absurd rfl zc734

set_option maxRecDepth 100000 in
set_option maxHeartbeats 4000000 in
theorem law_19 {p : Program} {l : Launch} {e : Env} {s : State} {m : MethodId} {below : List Frame} {meth : Method} {c : Code} {D : XD} {a b L : Nat} {xs : Nat → Int32} (hC : xC p s m #[Value.ref a] meth c D cL_law 4 R_law) (hX : va_X a L xs s s.heap) (hal : a < b) (hb : b = s.heap.size) (hL : L ≤ 2048) {C S : XM} {N u w i : Nat} (hi : i + 4 ≤ L) (hS : SI N S u w) (hR : RR (jn C S) S u w) (hN : N + 21 < 2 ^ 31) (K : ∀ (C T : XM) (u w : Nat), SI (N + 20) T u w → RR (jn C T) T u w → xV p l e room_1 s m #[Value.ref a] below meth c D b 4 605 3415 (lw_Z below #[Value.ref a] s) (b + 605) (xH D b (jn C T)) 888 [some (.ref a), some (.ref (b + 0)), some (.ref (b + oMod)), some (.int (nI i))] []) : xV p l e room_1 s m #[Value.ref a] below meth c D b 4 605 3415 (lw_Z below #[Value.ref a] s) (b + 605) (xH D b (jn C S)) 739 [some (.ref a), some (.ref (b + 0)), some (.ref (b + oMod)), some (.int (nI i))] [] := by
  refine xi_aload_n hC dL_law_739 (pc' := 740) rfl rfl rfl ?_
  refine xi_aload_n hC dL_law_740 (pc' := 741) rfl rfl rfl ?_
  refine xi_iload_n hC dL_law_741 (pc' := 742) rfl rfl rfl ?_
  refine xi_iconst (v := nI 1) hC dL_law_742 (pc' := 743) rfl (by decide +kernel) ?_
  refine xn_iadd hC dL_law_743 (pc' := 744) rfl ?_
  refine xi_sld hC dL_law_744 (pc' := 745) rfl hX hal hb rfl (by omega) (by omega) ?_
  refine xi_aload_n hC dL_law_745 (pc' := 746) rfl rfl rfl ?_
  refine xi_iload_n hC dL_law_746 (pc' := 747) rfl rfl rfl ?_
  refine xi_iconst (v := nI 2) hC dL_law_747 (pc' := 748) rfl (by decide +kernel) ?_
  refine xn_iadd hC dL_law_748 (pc' := 749) rfl ?_
  refine xi_sld hC dL_law_749 (pc' := 750) rfl hX hal hb rfl (by omega) (by omega) ?_
  refine xi_aload_n hC dL_law_750 (pc' := 751) rfl rfl rfl ?_
  refine xi_iload_n hC dL_law_751 (pc' := 752) rfl rfl rfl ?_
  refine xi_iconst (v := nI 3) hC dL_law_752 (pc' := 753) rfl (by decide +kernel) ?_
  refine xn_iadd hC dL_law_753 (pc' := 754) rfl ?_
  refine xi_sld hC dL_law_754 (pc' := 755) rfl hX hal hb rfl (by omega) (by omega) ?_
  refine xi_ifeq (tgt := 762) hC dL_law_755 (pc' := 758) rfl (by decide) (fun zc755 => ?_) (fun zc755 => ?_)
  · skip
    refine xi_iconst (v := nI 0) hC dL_law_762 (pc' := 763) rfl (by decide +kernel) ?_
    refine xi_callV (As := [.int (xs (i + 1)), .int (xs (i + 2)), .int (nI 0)]) (rest := []) (c_X7_compare l D b (b + 605) (σ := jn C S) (S := S) (N := N) (u := u) (w := w) hS hR (by omega) (x := (xs (i + 1))) (y := (xs (i + 2))) (z := (nI 0))) hC dL_law_763 (pc' := 766) rfl xw_m_L_92 xw_c_X7_compare xw_ins_X7_compare xw_sel_X7_compare xw_ini_X7 xd_X7_compare (xH_at.trans (xsh_7 kd_0)) rfl ⟨Nat.le_of_ble_eq_true rfl, Nat.le_of_ble_eq_true rfl⟩ rfl (Nat.le_of_ble_eq_true rfl) ⟨Nat.le_of_ble_eq_true rfl, Nat.le_of_ble_eq_true rfl⟩ ?_
    rintro _ _ ⟨r1, rfl, hO1, rfl⟩
    show xV _ _ _ _ _ _ _ _ _ _ _ _ _ _ _ _ _ (xH D b (jn C S)) _ _ [.int r1]
    refine xi_aload_n hC dL_law_766 (pc' := 767) rfl rfl rfl ?_
    refine xi_aload_n hC dL_law_767 (pc' := 768) rfl rfl rfl ?_
    refine xi_iload_n hC dL_law_768 (pc' := 769) rfl rfl rfl ?_
    refine xi_iconst (v := nI 1) hC dL_law_769 (pc' := 770) rfl (by decide +kernel) ?_
    refine xn_iadd hC dL_law_770 (pc' := 771) rfl ?_
    refine xi_sld hC dL_law_771 (pc' := 772) rfl hX hal hb rfl (by omega) (by omega) ?_
    refine xi_aload_n hC dL_law_772 (pc' := 773) rfl rfl rfl ?_
    refine xi_iload_n hC dL_law_773 (pc' := 774) rfl rfl rfl ?_
    refine xi_iconst (v := nI 2) hC dL_law_774 (pc' := 775) rfl (by decide +kernel) ?_
    refine xn_iadd hC dL_law_775 (pc' := 776) rfl ?_
    refine xi_sld hC dL_law_776 (pc' := 777) rfl hX hal hb rfl (by omega) (by omega) ?_
    refine xi_aload_n hC dL_law_777 (pc' := 778) rfl rfl rfl ?_
    refine xi_iload_n hC dL_law_778 (pc' := 779) rfl rfl rfl ?_
    refine xi_iconst (v := nI 3) hC dL_law_779 (pc' := 780) rfl (by decide +kernel) ?_
    refine xn_iadd hC dL_law_780 (pc' := 781) rfl ?_
    refine xi_sld hC dL_law_781 (pc' := 782) rfl hX hal hb rfl (by omega) (by omega) ?_
    refine xi_ifeq (tgt := 789) hC dL_law_782 (pc' := 785) rfl (by decide) (fun zc782 => ?_) (fun zc782 => ?_)
    · skip
      refine xi_iconst (v := nI 0) hC dL_law_789 (pc' := 790) rfl (by decide +kernel) ?_
      refine xi_callV (As := [.int (xs (i + 1)), .int (xs (i + 2)), .int (nI 0)]) (rest := [.int r1]) (c_X8_compare l D b (b + 605) (C := C) (S := S) (u := u) (w := w) hS.1 (x := (xs (i + 1))) (y := (xs (i + 2))) (z := (nI 0))) hC dL_law_790 (pc' := 793) rfl xw_m_L_96 xw_c_X8_compare xw_ins_X8_compare xw_sel_X8_compare xw_ini_X8 xd_X8_compare (xH_at.trans (xsh_8 kd_oMod)) rfl ⟨Nat.le_of_ble_eq_true rfl, Nat.le_of_ble_eq_true rfl⟩ rfl (Nat.le_of_ble_eq_true rfl) ⟨Nat.le_of_ble_eq_true rfl, Nat.le_of_ble_eq_true rfl⟩ ?_
      rintro _ _ ⟨r2, rfl, hZ2, rfl⟩
      show xV _ _ _ _ _ _ _ _ _ _ _ _ _ _ _ _ _ (xH D b (jn C S)) _ _ [.int r2, .int r1]
      have e12 := hO1 r2 hZ2
      subst e12
      refine xi_icmpeq (tgt := 888) hC dL_law_793 (pc' := 796) rfl (by decide) (fun zc793 => ?_) (fun zc793 => ?_)
      · skip
        exact K C S u w (hS.up (by omega)) hR
      · skip
        exact absurd rfl zc793
    · skip
      exact absurd zc755 zc782
  · skip
    refine xi_iconst (v := nI 1) hC dL_law_758 (pc' := 759) rfl (by decide +kernel) ?_
    refine xi_goto (tgt := 763) hC dL_law_759 (by decide) ?_
    refine xi_callV (As := [.int (xs (i + 1)), .int (xs (i + 2)), .int (nI 1)]) (rest := []) (c_X7_compare l D b (b + 605) (σ := jn C S) (S := S) (N := N) (u := u) (w := w) hS hR (by omega) (x := (xs (i + 1))) (y := (xs (i + 2))) (z := (nI 1))) hC dL_law_763 (pc' := 766) rfl xw_m_L_92 xw_c_X7_compare xw_ins_X7_compare xw_sel_X7_compare xw_ini_X7 xd_X7_compare (xH_at.trans (xsh_7 kd_0)) rfl ⟨Nat.le_of_ble_eq_true rfl, Nat.le_of_ble_eq_true rfl⟩ rfl (Nat.le_of_ble_eq_true rfl) ⟨Nat.le_of_ble_eq_true rfl, Nat.le_of_ble_eq_true rfl⟩ ?_
    rintro _ _ ⟨r1, rfl, hO1, rfl⟩
    show xV _ _ _ _ _ _ _ _ _ _ _ _ _ _ _ _ _ (xH D b (jn C S)) _ _ [.int r1]
    refine xi_aload_n hC dL_law_766 (pc' := 767) rfl rfl rfl ?_
    refine xi_aload_n hC dL_law_767 (pc' := 768) rfl rfl rfl ?_
    refine xi_iload_n hC dL_law_768 (pc' := 769) rfl rfl rfl ?_
    refine xi_iconst (v := nI 1) hC dL_law_769 (pc' := 770) rfl (by decide +kernel) ?_
    refine xn_iadd hC dL_law_770 (pc' := 771) rfl ?_
    refine xi_sld hC dL_law_771 (pc' := 772) rfl hX hal hb rfl (by omega) (by omega) ?_
    refine xi_aload_n hC dL_law_772 (pc' := 773) rfl rfl rfl ?_
    refine xi_iload_n hC dL_law_773 (pc' := 774) rfl rfl rfl ?_
    refine xi_iconst (v := nI 2) hC dL_law_774 (pc' := 775) rfl (by decide +kernel) ?_
    refine xn_iadd hC dL_law_775 (pc' := 776) rfl ?_
    refine xi_sld hC dL_law_776 (pc' := 777) rfl hX hal hb rfl (by omega) (by omega) ?_
    refine xi_aload_n hC dL_law_777 (pc' := 778) rfl rfl rfl ?_
    refine xi_iload_n hC dL_law_778 (pc' := 779) rfl rfl rfl ?_
    refine xi_iconst (v := nI 3) hC dL_law_779 (pc' := 780) rfl (by decide +kernel) ?_
    refine xn_iadd hC dL_law_780 (pc' := 781) rfl ?_
    refine xi_sld hC dL_law_781 (pc' := 782) rfl hX hal hb rfl (by omega) (by omega) ?_
    refine xi_ifeq (tgt := 789) hC dL_law_782 (pc' := 785) rfl (by decide) (fun zc782 => ?_) (fun zc782 => ?_)
    · skip
      exact absurd zc782 zc755
    · skip
      refine xi_iconst (v := nI 1) hC dL_law_785 (pc' := 786) rfl (by decide +kernel) ?_
      refine xi_goto (tgt := 790) hC dL_law_786 (by decide) ?_
      refine xi_callV (As := [.int (xs (i + 1)), .int (xs (i + 2)), .int (nI 1)]) (rest := [.int r1]) (c_X8_compare l D b (b + 605) (C := C) (S := S) (u := u) (w := w) hS.1 (x := (xs (i + 1))) (y := (xs (i + 2))) (z := (nI 1))) hC dL_law_790 (pc' := 793) rfl xw_m_L_96 xw_c_X8_compare xw_ins_X8_compare xw_sel_X8_compare xw_ini_X8 xd_X8_compare (xH_at.trans (xsh_8 kd_oMod)) rfl ⟨Nat.le_of_ble_eq_true rfl, Nat.le_of_ble_eq_true rfl⟩ rfl (Nat.le_of_ble_eq_true rfl) ⟨Nat.le_of_ble_eq_true rfl, Nat.le_of_ble_eq_true rfl⟩ ?_
      rintro _ _ ⟨r2, rfl, hZ2, rfl⟩
      show xV _ _ _ _ _ _ _ _ _ _ _ _ _ _ _ _ _ (xH D b (jn C S)) _ _ [.int r2, .int r1]
      have e12 := hO1 r2 hZ2
      subst e12
      refine xi_icmpeq (tgt := 888) hC dL_law_793 (pc' := 796) rfl (by decide) (fun zc793 => ?_) (fun zc793 => ?_)
      · skip
        exact K C S u w (hS.up (by omega)) hR
      · skip
        exact absurd rfl zc793

set_option maxRecDepth 100000 in
set_option maxHeartbeats 4000000 in
theorem law_20 {p : Program} {l : Launch} {e : Env} {s : State} {m : MethodId} {below : List Frame} {meth : Method} {c : Code} {D : XD} {a b L : Nat} {xs : Nat → Int32} (hC : xC p s m #[Value.ref a] meth c D cL_law 4 R_law) (hX : va_X a L xs s s.heap) (hal : a < b) (hb : b = s.heap.size) (hL : L ≤ 2048) {C S : XM} {N u w i : Nat} (hi : i + 4 ≤ L) (hS : SI N S u w) (hR : RR (jn C S) S u w) (hN : N + 21 < 2 ^ 31) (K : ∀ (C T : XM) (u w : Nat), SI (N + 20) T u w → RR (jn C T) T u w → xV p l e room_1 s m #[Value.ref a] below meth c D b 4 605 3415 (lw_Z below #[Value.ref a] s) (b + 605) (xH D b (jn C T)) 888 [some (.ref a), some (.ref (b + 0)), some (.ref (b + oMod)), some (.int (nI i))] []) : xV p l e room_1 s m #[Value.ref a] below meth c D b 4 605 3415 (lw_Z below #[Value.ref a] s) (b + 605) (xH D b (jn C S)) 798 [some (.ref a), some (.ref (b + 0)), some (.ref (b + oMod)), some (.int (nI i))] [] := by
  refine xi_aload_n hC dL_law_798 (pc' := 799) rfl rfl rfl ?_
  refine xi_callV (As := []) (rest := []) (c_X7_forkedPairs l D b (b + 605) (σ := jn C S) (S := S) (N := N) (u := u) (w := w) hS hR (by omega) ) hC dL_law_799 (pc' := 802) rfl xw_m_L_97 xw_c_X7_forkedPairs xw_ins_X7_forkedPairs xw_sel_X7_forkedPairs xw_ini_X7 xd_X7_forkedPairs (xH_at.trans (xsh_7 kd_0)) rfl ⟨Nat.le_of_ble_eq_true rfl, Nat.le_of_ble_eq_true rfl⟩ rfl (Nat.le_of_ble_eq_true rfl) ⟨Nat.le_of_ble_eq_true rfl, Nat.le_of_ble_eq_true rfl⟩ ?_
  rintro _ _ ⟨r1, rfl, hO1, rfl⟩
  show xV _ _ _ _ _ _ _ _ _ _ _ _ _ _ _ _ _ (xH D b (jn C S)) _ _ [.int r1]
  refine xi_aload_n hC dL_law_802 (pc' := 803) rfl rfl rfl ?_
  refine xi_callV (As := []) (rest := [.int r1]) (c_X8_forkedPairs l D b (b + 605) (C := C) (S := S) (u := u) (w := w) hS.1 ) hC dL_law_803 (pc' := 806) rfl xw_m_L_101 xw_c_X8_forkedPairs xw_ins_X8_forkedPairs xw_sel_X8_forkedPairs xw_ini_X8 xd_X8_forkedPairs (xH_at.trans (xsh_8 kd_oMod)) rfl ⟨Nat.le_of_ble_eq_true rfl, Nat.le_of_ble_eq_true rfl⟩ rfl (Nat.le_of_ble_eq_true rfl) ⟨Nat.le_of_ble_eq_true rfl, Nat.le_of_ble_eq_true rfl⟩ ?_
  rintro _ _ ⟨r2, rfl, hZ2, rfl⟩
  show xV _ _ _ _ _ _ _ _ _ _ _ _ _ _ _ _ _ (xH D b (jn C S)) _ _ [.int r2, .int r1]
  have e12 := hO1 r2 hZ2
  subst e12
  refine xi_icmpeq (tgt := 888) hC dL_law_806 (pc' := 809) rfl (by decide) (fun zc806 => ?_) (fun zc806 => ?_)
  · skip
    exact K C S u w (hS.up (by omega)) hR
  · skip
    exact absurd rfl zc806

set_option maxRecDepth 100000 in
set_option maxHeartbeats 4000000 in
theorem law_21 {p : Program} {l : Launch} {e : Env} {s : State} {m : MethodId} {below : List Frame} {meth : Method} {c : Code} {D : XD} {a b L : Nat} {xs : Nat → Int32} (hC : xC p s m #[Value.ref a] meth c D cL_law 4 R_law) (hX : va_X a L xs s s.heap) (hal : a < b) (hb : b = s.heap.size) (hL : L ≤ 2048) {C S : XM} {N u w i : Nat} (hi : i + 4 ≤ L) (hS : SI N S u w) (hR : RR (jn C S) S u w) (hN : N + 21 < 2 ^ 31) (K : ∀ (C T : XM) (u w : Nat), SI (N + 20) T u w → RR (jn C T) T u w → xV p l e room_1 s m #[Value.ref a] below meth c D b 4 605 3415 (lw_Z below #[Value.ref a] s) (b + 605) (xH D b (jn C T)) 888 [some (.ref a), some (.ref (b + 0)), some (.ref (b + oMod)), some (.int (nI i))] []) : xV p l e room_1 s m #[Value.ref a] below meth c D b 4 605 3415 (lw_Z below #[Value.ref a] s) (b + 605) (xH D b (jn C S)) 811 [some (.ref a), some (.ref (b + 0)), some (.ref (b + oMod)), some (.int (nI i))] [] := by
  refine xi_aload_n hC dL_law_811 (pc' := 812) rfl rfl rfl ?_
  refine xi_callV (As := []) (rest := []) (c_X7_tellingLetter l D b (b + 605) (σ := jn C S) (S := S) (N := N) (u := u) (w := w) hS hR (by omega) ) hC dL_law_812 (pc' := 815) rfl xw_m_L_102 xw_c_X7_tellingLetter xw_ins_X7_tellingLetter xw_sel_X7_tellingLetter xw_ini_X7 xd_X7_tellingLetter (xH_at.trans (xsh_7 kd_0)) rfl ⟨Nat.le_of_ble_eq_true rfl, Nat.le_of_ble_eq_true rfl⟩ rfl (Nat.le_of_ble_eq_true rfl) ⟨Nat.le_of_ble_eq_true rfl, Nat.le_of_ble_eq_true rfl⟩ ?_
  rintro _ _ ⟨r1, rfl, hO1, rfl⟩
  show xV _ _ _ _ _ _ _ _ _ _ _ _ _ _ _ _ _ (xH D b (jn C S)) _ _ [.int r1]
  refine xi_aload_n hC dL_law_815 (pc' := 816) rfl rfl rfl ?_
  refine xi_callV (As := []) (rest := [.int r1]) (c_X8_tellingLetter l D b (b + 605) (C := C) (S := S) (u := u) (w := w) hS.1 ) hC dL_law_816 (pc' := 819) rfl xw_m_L_105 xw_c_X8_tellingLetter xw_ins_X8_tellingLetter xw_sel_X8_tellingLetter xw_ini_X8 xd_X8_tellingLetter (xH_at.trans (xsh_8 kd_oMod)) rfl ⟨Nat.le_of_ble_eq_true rfl, Nat.le_of_ble_eq_true rfl⟩ rfl (Nat.le_of_ble_eq_true rfl) ⟨Nat.le_of_ble_eq_true rfl, Nat.le_of_ble_eq_true rfl⟩ ?_
  rintro _ _ ⟨r2, rfl, hZ2, rfl⟩
  show xV _ _ _ _ _ _ _ _ _ _ _ _ _ _ _ _ _ (xH D b (jn C S)) _ _ [.int r2, .int r1]
  have e12 := hO1 r2 hZ2
  subst e12
  refine xi_icmpeq (tgt := 888) hC dL_law_819 (pc' := 822) rfl (by decide) (fun zc819 => ?_) (fun zc819 => ?_)
  · skip
    exact K C S u w (hS.up (by omega)) hR
  · skip
    exact absurd rfl zc819

set_option maxRecDepth 100000 in
set_option maxHeartbeats 4000000 in
theorem law_22 {p : Program} {l : Launch} {e : Env} {s : State} {m : MethodId} {below : List Frame} {meth : Method} {c : Code} {D : XD} {a b L : Nat} {xs : Nat → Int32} (hC : xC p s m #[Value.ref a] meth c D cL_law 4 R_law) (hX : va_X a L xs s s.heap) (hal : a < b) (hb : b = s.heap.size) (hL : L ≤ 2048) {C S : XM} {N u w i : Nat} (hi : i + 4 ≤ L) (hS : SI N S u w) (hR : RR (jn C S) S u w) (hN : N + 21 < 2 ^ 31) (K : ∀ (C T : XM) (u w : Nat), SI (N + 20) T u w → RR (jn C T) T u w → xV p l e room_1 s m #[Value.ref a] below meth c D b 4 605 3415 (lw_Z below #[Value.ref a] s) (b + 605) (xH D b (jn C T)) 888 [some (.ref a), some (.ref (b + 0)), some (.ref (b + oMod)), some (.int (nI i))] []) : xV p l e room_1 s m #[Value.ref a] below meth c D b 4 605 3415 (lw_Z below #[Value.ref a] s) (b + 605) (xH D b (jn C S)) 824 [some (.ref a), some (.ref (b + 0)), some (.ref (b + oMod)), some (.int (nI i))] [] := by
  refine xi_aload_n hC dL_law_824 (pc' := 825) rfl rfl rfl ?_
  refine xi_callV (As := []) (rest := []) (c_X7_unaware l D b (b + 605) (σ := jn C S) (S := S) (N := N) (u := u) (w := w) hS hR (by omega) ) hC dL_law_825 (pc' := 828) rfl xw_m_L_106 xw_c_X7_unaware xw_ins_X7_unaware xw_sel_X7_unaware xw_ini_X7 xd_X7_unaware (xH_at.trans (xsh_7 kd_0)) rfl ⟨Nat.le_of_ble_eq_true rfl, Nat.le_of_ble_eq_true rfl⟩ rfl (Nat.le_of_ble_eq_true rfl) ⟨Nat.le_of_ble_eq_true rfl, Nat.le_of_ble_eq_true rfl⟩ ?_
  rintro _ _ ⟨r1, rfl, hO1, rfl⟩
  show xV _ _ _ _ _ _ _ _ _ _ _ _ _ _ _ _ _ (xH D b (jn C S)) _ _ [.int r1]
  refine xi_aload_n hC dL_law_828 (pc' := 829) rfl rfl rfl ?_
  refine xi_callV (As := []) (rest := [.int r1]) (c_X8_unaware l D b (b + 605) (C := C) (S := S) (u := u) (w := w) hS.1 ) hC dL_law_829 (pc' := 832) rfl xw_m_L_109 xw_c_X8_unaware xw_ins_X8_unaware xw_sel_X8_unaware xw_ini_X8 xd_X8_unaware (xH_at.trans (xsh_8 kd_oMod)) rfl ⟨Nat.le_of_ble_eq_true rfl, Nat.le_of_ble_eq_true rfl⟩ rfl (Nat.le_of_ble_eq_true rfl) ⟨Nat.le_of_ble_eq_true rfl, Nat.le_of_ble_eq_true rfl⟩ ?_
  rintro _ _ ⟨r2, T2, rfl, hZ2, rfl⟩
  show xV _ _ _ _ _ _ _ _ _ _ _ _ _ _ _ _ _ (xH D b (jn C T2)) _ _ [.int r2, .int r1]
  have e12 := hO1 r2 T2 hZ2
  subst e12
  refine xi_icmpeq (tgt := 888) hC dL_law_832 (pc' := 835) rfl (by decide) (fun zc832 => ?_) (fun zc832 => ?_)
  · skip
    exact K C T2 u w ((hS.sp hZ2.1).up (by omega)) ((hR.sp hZ2.1).jj hS.1.2.1.2.2)
  · skip
    exact absurd rfl zc832

set_option maxRecDepth 100000 in
set_option maxHeartbeats 4000000 in
theorem law_23 {p : Program} {l : Launch} {e : Env} {s : State} {m : MethodId} {below : List Frame} {meth : Method} {c : Code} {D : XD} {a b L : Nat} {xs : Nat → Int32} (hC : xC p s m #[Value.ref a] meth c D cL_law 4 R_law) (hX : va_X a L xs s s.heap) (hal : a < b) (hb : b = s.heap.size) (hL : L ≤ 2048) {C S : XM} {N u w i : Nat} (hi : i + 4 ≤ L) (hS : SI N S u w) (hR : RR (jn C S) S u w) (hN : N + 21 < 2 ^ 31) (K : ∀ (C T : XM) (u w : Nat), SI (N + 20) T u w → RR (jn C T) T u w → xV p l e room_1 s m #[Value.ref a] below meth c D b 4 605 3415 (lw_Z below #[Value.ref a] s) (b + 605) (xH D b (jn C T)) 888 [some (.ref a), some (.ref (b + 0)), some (.ref (b + oMod)), some (.int (nI i))] []) : xV p l e room_1 s m #[Value.ref a] below meth c D b 4 605 3415 (lw_Z below #[Value.ref a] s) (b + 605) (xH D b (jn C S)) 837 [some (.ref a), some (.ref (b + 0)), some (.ref (b + oMod)), some (.int (nI i))] [] := by
  refine xi_aload_n hC dL_law_837 (pc' := 838) rfl rfl rfl ?_
  refine xi_aload_n hC dL_law_838 (pc' := 839) rfl rfl rfl ?_
  refine xi_iload_n hC dL_law_839 (pc' := 840) rfl rfl rfl ?_
  refine xi_iconst (v := nI 1) hC dL_law_840 (pc' := 841) rfl (by decide +kernel) ?_
  refine xn_iadd hC dL_law_841 (pc' := 842) rfl ?_
  refine xi_sld hC dL_law_842 (pc' := 843) rfl hX hal hb rfl (by omega) (by omega) ?_
  refine xi_i2c hC dL_law_843 (pc' := 844) rfl rfl ?_
  refine xi_callV (As := [.int ((xs (i + 1)).toUInt32 % 65536).toInt32]) (rest := []) (c_X7_type l D b (b + 605) (σ := jn C S) (S := S) (N := N) (u := u) (w := w) hS hR (by omega) (x := ((xs (i + 1)).toUInt32 % 65536).toInt32) (nar_char _)) hC dL_law_844 (pc' := 847) rfl xw_m_L_110 xw_c_X7_type xw_ins_X7_type xw_sel_X7_type xw_ini_X7 xd_X7_type (xH_at.trans (xsh_7 kd_0)) rfl ⟨Nat.le_of_ble_eq_true rfl, Nat.le_of_ble_eq_true rfl⟩ rfl (Nat.le_of_ble_eq_true rfl) ⟨Nat.le_of_ble_eq_true rfl, Nat.le_of_ble_eq_true rfl⟩ ?_
  rintro _ _ ⟨r1, τ1, rfl, hH1, hO1, rfl⟩
  refine xstate (jn_hi hH1) ?_
  show xV _ _ _ _ _ _ _ _ _ _ _ _ _ _ _ _ _ (xH D b (jn τ1 S)) _ _ [.int r1]
  refine xi_aload_n hC dL_law_847 (pc' := 848) rfl rfl rfl ?_
  refine xi_aload_n hC dL_law_848 (pc' := 849) rfl rfl rfl ?_
  refine xi_iload_n hC dL_law_849 (pc' := 850) rfl rfl rfl ?_
  refine xi_iconst (v := nI 1) hC dL_law_850 (pc' := 851) rfl (by decide +kernel) ?_
  refine xn_iadd hC dL_law_851 (pc' := 852) rfl ?_
  refine xi_sld hC dL_law_852 (pc' := 853) rfl hX hal hb rfl (by omega) (by omega) ?_
  refine xi_i2c hC dL_law_853 (pc' := 854) rfl rfl ?_
  refine xi_callV (As := [.int ((xs (i + 1)).toUInt32 % 65536).toInt32]) (rest := [.int r1]) (c_X8_type l D b (b + 605) (C := τ1) (S := S) (u := u) (w := w) hS.1 (x := ((xs (i + 1)).toUInt32 % 65536).toInt32) (nar_char _)) hC dL_law_854 (pc' := 857) rfl xw_m_L_114 xw_c_X8_type xw_ins_X8_type xw_sel_X8_type xw_ini_X8 xd_X8_type (xH_at.trans (xsh_8 kd_oMod)) rfl ⟨Nat.le_of_ble_eq_true rfl, Nat.le_of_ble_eq_true rfl⟩ rfl (Nat.le_of_ble_eq_true rfl) ⟨Nat.le_of_ble_eq_true rfl, Nat.le_of_ble_eq_true rfl⟩ ?_
  rintro _ _ ⟨r2, T2, rfl, hZ2, rfl⟩
  show xV _ _ _ _ _ _ _ _ _ _ _ _ _ _ _ _ _ (xH D b (jn τ1 T2)) _ _ [.int r2, .int r1]
  obtain ⟨e12, hR2⟩ := hO1 r2 T2 hZ2
  subst e12
  refine xi_icmpeq (tgt := 888) hC dL_law_857 (pc' := 860) rfl (by decide) (fun zc857 => ?_) (fun zc857 => ?_)
  · skip
    exact K τ1 T2 u w ((SI_type hS hZ2).up (by omega)) (hR2.j1 hS.1.2.1.2.2)
  · skip
    exact absurd rfl zc857

set_option maxRecDepth 100000 in
set_option maxHeartbeats 4000000 in
theorem law_24 {p : Program} {l : Launch} {e : Env} {s : State} {m : MethodId} {below : List Frame} {meth : Method} {c : Code} {D : XD} {a b L : Nat} {xs : Nat → Int32} (hC : xC p s m #[Value.ref a] meth c D cL_law 4 R_law) (hX : va_X a L xs s s.heap) (hal : a < b) (hb : b = s.heap.size) (hL : L ≤ 2048) {C S : XM} {N u w i : Nat} (hi : i + 4 ≤ L) (hS : SI N S u w) (hR : RR (jn C S) S u w) (hN : N + 21 < 2 ^ 31) (K : ∀ (C T : XM) (u w : Nat), SI (N + 20) T u w → RR (jn C T) T u w → xV p l e room_1 s m #[Value.ref a] below meth c D b 4 605 3415 (lw_Z below #[Value.ref a] s) (b + 605) (xH D b (jn C T)) 888 [some (.ref a), some (.ref (b + 0)), some (.ref (b + oMod)), some (.int (nI i))] []) : xV p l e room_1 s m #[Value.ref a] below meth c D b 4 605 3415 (lw_Z below #[Value.ref a] s) (b + 605) (xH D b (jn C S)) 862 [some (.ref a), some (.ref (b + 0)), some (.ref (b + oMod)), some (.int (nI i))] [] := by
  refine xi_aload_n hC dL_law_862 (pc' := 863) rfl rfl rfl ?_
  refine xi_callV (As := []) (rest := []) (c_X7_clearText l D b (b + 605) (σ := jn C S) (S := S) (N := N) (u := u) (w := w) hS hR (by omega) ) hC dL_law_863 (pc' := 866) rfl xw_m_L_115 xw_c_X7_clearText xw_ins_X7_clearText xw_sel_X7_clearText xw_ini_X7 xd_X7_clearText (xH_at.trans (xsh_7 kd_0)) rfl ⟨Nat.le_of_ble_eq_true rfl, Nat.le_of_ble_eq_true rfl⟩ rfl (Nat.le_of_ble_eq_true rfl) ⟨Nat.le_of_ble_eq_true rfl, Nat.le_of_ble_eq_true rfl⟩ ?_
  rintro _ _ ⟨r1, τ1, rfl, hH1, hO1, rfl⟩
  refine xstate (jn_hi hH1) ?_
  show xV _ _ _ _ _ _ _ _ _ _ _ _ _ _ _ _ _ (xH D b (jn τ1 S)) _ _ [.int r1]
  refine xi_aload_n hC dL_law_866 (pc' := 867) rfl rfl rfl ?_
  refine xi_callV (As := []) (rest := [.int r1]) (c_X8_clearText l D b (b + 605) (C := τ1) (S := S)) hC dL_law_867 (pc' := 870) rfl xw_m_L_118 xw_c_X8_clearText xw_ins_X8_clearText xw_sel_X8_clearText xw_ini_X8 xd_X8_clearText (xH_at.trans (xsh_8 kd_oMod)) rfl ⟨Nat.le_of_ble_eq_true rfl, Nat.le_of_ble_eq_true rfl⟩ rfl (Nat.le_of_ble_eq_true rfl) ⟨Nat.le_of_ble_eq_true rfl, Nat.le_of_ble_eq_true rfl⟩ ?_
  rintro _ _ ⟨r2, T2, rfl, hZ2, rfl⟩
  show xV _ _ _ _ _ _ _ _ _ _ _ _ _ _ _ _ _ (xH D b (jn τ1 T2)) _ _ [.int r2, .int r1]
  obtain ⟨e12, hR2⟩ := hO1 r2 T2 hZ2
  subst e12
  refine xi_icmpeq (tgt := 888) hC dL_law_870 (pc' := 873) rfl (by decide) (fun zc870 => ?_) (fun zc870 => ?_)
  · skip
    exact K τ1 T2 u w ((SI_clear hS hZ2).up (by omega)) (hR2.j1 hS.1.2.1.2.2)
  · skip
    exact absurd rfl zc870

set_option maxRecDepth 100000 in
set_option maxHeartbeats 4000000 in
theorem law_25 {p : Program} {l : Launch} {e : Env} {s : State} {m : MethodId} {below : List Frame} {meth : Method} {c : Code} {D : XD} {a b L : Nat} {xs : Nat → Int32} (hC : xC p s m #[Value.ref a] meth c D cL_law 4 R_law) (hX : va_X a L xs s s.heap) (hal : a < b) (hb : b = s.heap.size) (hL : L ≤ 2048) {C S : XM} {N u w i : Nat} (hi : i + 4 ≤ L) (hS : SI N S u w) (hR : RR (jn C S) S u w) (hN : N + 21 < 2 ^ 31) (K : ∀ (C T : XM) (u w : Nat), SI (N + 20) T u w → RR (jn C T) T u w → xV p l e room_1 s m #[Value.ref a] below meth c D b 4 605 3415 (lw_Z below #[Value.ref a] s) (b + 605) (xH D b (jn C T)) 888 [some (.ref a), some (.ref (b + 0)), some (.ref (b + oMod)), some (.int (nI i))] []) : xV p l e room_1 s m #[Value.ref a] below meth c D b 4 605 3415 (lw_Z below #[Value.ref a] s) (b + 605) (xH D b (jn C S)) 875 [some (.ref a), some (.ref (b + 0)), some (.ref (b + oMod)), some (.int (nI i))] [] := by
  refine xi_aload_n hC dL_law_875 (pc' := 876) rfl rfl rfl ?_
  refine xi_callV (As := []) (rest := []) (c_X7_run l D b (b + 605) (σ := jn C S) (S := S) (N := N) (u := u) (w := w) hS hR hN) hC dL_law_876 (pc' := 879) rfl xw_m_L_119 xw_c_X7_run xw_ins_X7_run xw_sel_X7_run xw_ini_X7 xd_X7_run (xH_at.trans (xsh_7 kd_0)) rfl ⟨Nat.le_of_ble_eq_true rfl, Nat.le_of_ble_eq_true rfl⟩ rfl (Nat.le_of_ble_eq_true rfl) ⟨Nat.le_of_ble_eq_true rfl, Nat.le_of_ble_eq_true rfl⟩ ?_
  rintro _ _ ⟨r1, τ1, T1, rfl, hH1, hq1, hR1, rfl⟩
  refine xstate (jn_hi hH1) ?_
  show xV _ _ _ _ _ _ _ _ _ _ _ _ _ _ _ _ _ (xH D b (jn τ1 S)) _ _ [.int r1]
  refine xi_aload_n hC dL_law_879 (pc' := 880) rfl rfl rfl ?_
  refine xi_callV (As := []) (rest := [.int r1]) (c_X8_run l D b (b + 605) (C := τ1) (S := S) (u := u) (w := w) hS.1 ) hC dL_law_880 (pc' := 883) rfl xw_m_L_122 xw_c_X8_run xw_ins_X8_run xw_sel_X8_run xw_ini_X8 xd_X8_run (xH_at.trans (xsh_8 kd_oMod)) rfl ⟨Nat.le_of_ble_eq_true rfl, Nat.le_of_ble_eq_true rfl⟩ rfl (Nat.le_of_ble_eq_true rfl) ⟨Nat.le_of_ble_eq_true rfl, Nat.le_of_ble_eq_true rfl⟩ ?_
  rintro _ _ ⟨r2, T2, rfl, hZ2, rfl⟩
  show xV _ _ _ _ _ _ _ _ _ _ _ _ _ _ _ _ _ (xH D b (jn τ1 T2)) _ _ [.int r2, .int r1]
  obtain ⟨e12, hE2⟩ := dt_run hS.1 hq1 hZ2
  subst e12
  refine xi_icmpeq (tgt := 888) hC dL_law_883 (pc' := 886) rfl (by decide) (fun zc883 => ?_) (fun zc883 => ?_)
  · skip
    exact K τ1 T2 u w (SI_run hS hZ2) ((hR1.eqM hE2).j1 hS.1.2.1.2.2)
  · skip
    exact absurd rfl zc883
