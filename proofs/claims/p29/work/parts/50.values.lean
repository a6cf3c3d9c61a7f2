/-! ===== p29: what each question answers ===== -/
theorem no_U {u : Nat} (hu : u ≤ 6) : ¬ isU u (nI u) := fun ⟨i, hi, q⟩ => by
  have := nI_inj (by omega) (by omega) q
  omega
theorem no_m1 {u : Nat} (hu : u ≤ 6) : ¬ isU u (-1) := fun ⟨i, hi, q⟩ => nI_m1 (a := i) (by omega) q.symm
theorem no_ge {u a : Nat} (hu : u ≤ a) (ha : a < 2 ^ 31) : ¬ isU u (nI a) := fun ⟨i, hi, q⟩ => by
  have := nI_inj (by omega) (by omega) q
  omega
/-- the two vectors of a user's proof -/
def pF (S : XM) (i : Nat) : Nat → Int32 := sl (S m_proofOf) (10 * i)
def pS (S : XM) (i : Nat) : Nat → Int32 := sl (S m_proofOf) (10 * i + 5)
/-- the content of a register in a view -/
def cV (S : XM) (v i : Nat) : Int32 := S m_row (30 * v + 25 + i)
noncomputable def lastV (S : XM) (i : Nat) : Int32 := @ite _ (S m_hasRead i = 0) (Classical.propDecidable _) (-10005) (S m_readOf i)
theorem lastV_congr {S T : XM} {i : Nat} (h1 : T m_hasRead i = S m_hasRead i) (h2 : T m_readOf i = S m_readOf i) : lastV T i = lastV S i := by unfold lastV; rw [h1, h2]
theorem su_0 {S : XM} {u i : Nat} (hi : i < u) (hu : u ≤ 5) {v : Nat} (h : S m_viewOf i = nI v) : s_user S u (nI i) (nI 0) (nI v) := ⟨fun q => absurd ⟨i, hi, rfl⟩ q, fun j hj e => by
  obtain rfl := nI_inj (by omega) (by omega) e
  exact ⟨fun _ => h.symm, fun q => absurd q (by decide), fun q => absurd q (by decide), fun q => absurd q (by decide), fun q => absurd q (by decide), fun q => absurd q (by decide), fun q => absurd q (by decide), fun q => absurd q (by decide), fun q => absurd q (by decide)⟩⟩
theorem su_1 {S : XM} {u i : Nat} (hi : i < u) (hu : u ≤ 5) {a : Nat} (h : S m_alarmOf i = nI a) : s_user S u (nI i) (nI 1) (nI a) := ⟨fun q => absurd ⟨i, hi, rfl⟩ q, fun j hj e => by
  obtain rfl := nI_inj (by omega) (by omega) e
  exact ⟨fun q => absurd q (by decide), fun _ => h.symm, fun q => absurd q (by decide), fun q => absurd q (by decide), fun q => absurd q (by decide), fun q => absurd q (by decide), fun q => absurd q (by decide), fun q => absurd q (by decide), fun q => absurd q (by decide)⟩⟩
theorem su_2f {S : XM} {u i : Nat} (hi : i < u) (hu : u ≤ 5) (h : S m_hasProof i = 0) : s_user S u (nI i) (nI 2) (nI 0) := ⟨fun q => absurd ⟨i, hi, rfl⟩ q, fun j hj e => by
  obtain rfl := nI_inj (by omega) (by omega) e
  exact ⟨fun q => absurd q (by decide), fun q => absurd q (by decide), fun _ => ⟨fun _ => rfl, fun q => absurd h q⟩, fun q => absurd q (by decide), fun q => absurd q (by decide), fun q => absurd q (by decide), fun q => absurd q (by decide), fun q => absurd q (by decide), fun q => absurd q (by decide)⟩⟩
theorem su_2t {S : XM} {u i : Nat} (hi : i < u) (hu : u ≤ 5) (h : S m_hasProof i ≠ 0) : s_user S u (nI i) (nI 2) (nI 1) := ⟨fun q => absurd ⟨i, hi, rfl⟩ q, fun j hj e => by
  obtain rfl := nI_inj (by omega) (by omega) e
  exact ⟨fun q => absurd q (by decide), fun q => absurd q (by decide), fun _ => ⟨fun q => absurd q h, fun _ => rfl⟩, fun q => absurd q (by decide), fun q => absurd q (by decide), fun q => absurd q (by decide), fun q => absurd q (by decide), fun q => absurd q (by decide), fun q => absurd q (by decide)⟩⟩
theorem su_3 {S : XM} {u i : Nat} (hi : i < u) (hu : u ≤ 5) {z : Nat} (h : S m_lettersOf i = nI z) : s_user S u (nI i) (nI 3) (nI z) := ⟨fun q => absurd ⟨i, hi, rfl⟩ q, fun j hj e => by
  obtain rfl := nI_inj (by omega) (by omega) e
  exact ⟨fun q => absurd q (by decide), fun q => absurd q (by decide), fun q => absurd q (by decide), fun _ => h.symm, fun q => absurd q (by decide), fun q => absurd q (by decide), fun q => absurd q (by decide), fun q => absurd q (by decide), fun q => absurd q (by decide)⟩⟩
theorem su_3i {S : XM} {u i : Nat} (hi : i < u) (hu : u ≤ 5) : s_user S u (nI i) (nI 3) (S m_lettersOf i) := ⟨fun q => absurd ⟨i, hi, rfl⟩ q, fun j hj e => by
  obtain rfl := nI_inj (by omega) (by omega) e
  exact ⟨fun q => absurd q (by decide), fun q => absurd q (by decide), fun q => absurd q (by decide), fun _ => rfl, fun q => absurd q (by decide), fun q => absurd q (by decide), fun q => absurd q (by decide), fun q => absurd q (by decide), fun q => absurd q (by decide)⟩⟩
theorem su_4 {S : XM} {u i : Nat} (hi : i < u) (hu : u ≤ 5) : s_user S u (nI i) (nI 4) (S m_doneOf i) := ⟨fun q => absurd ⟨i, hi, rfl⟩ q, fun j hj e => by
  obtain rfl := nI_inj (by omega) (by omega) e
  exact ⟨fun q => absurd q (by decide), fun q => absurd q (by decide), fun q => absurd q (by decide), fun q => absurd q (by decide), fun _ => rfl, fun q => absurd q (by decide), fun q => absurd q (by decide), fun q => absurd q (by decide), fun q => absurd q (by decide)⟩⟩
theorem su_5 {S : XM} {u i : Nat} (hi : i < u) (hu : u ≤ 5) : s_user S u (nI i) (nI 5) (S m_shownTo i) := ⟨fun q => absurd ⟨i, hi, rfl⟩ q, fun j hj e => by
  obtain rfl := nI_inj (by omega) (by omega) e
  exact ⟨fun q => absurd q (by decide), fun q => absurd q (by decide), fun q => absurd q (by decide), fun q => absurd q (by decide), fun q => absurd q (by decide), fun _ => rfl, fun q => absurd q (by decide), fun q => absurd q (by decide), fun q => absurd q (by decide)⟩⟩
theorem su_6 {S : XM} {u i : Nat} (hi : i < u) (hu : u ≤ 5) : s_user S u (nI i) (nI 6) (S m_sentBy i) := ⟨fun q => absurd ⟨i, hi, rfl⟩ q, fun j hj e => by
  obtain rfl := nI_inj (by omega) (by omega) e
  exact ⟨fun q => absurd q (by decide), fun q => absurd q (by decide), fun q => absurd q (by decide), fun q => absurd q (by decide), fun q => absurd q (by decide), fun q => absurd q (by decide), fun _ => rfl, fun q => absurd q (by decide), fun q => absurd q (by decide)⟩⟩
theorem su_7f {S : XM} {u i : Nat} (hi : i < u) (hu : u ≤ 5) (h : S m_hasProof i = 0) : s_user S u (nI i) (nI 7) (-10005) := ⟨fun q => absurd ⟨i, hi, rfl⟩ q, fun j hj e => by
  obtain rfl := nI_inj (by omega) (by omega) e
  exact ⟨fun q => absurd q (by decide), fun q => absurd q (by decide), fun q => absurd q (by decide), fun q => absurd q (by decide), fun q => absurd q (by decide), fun q => absurd q (by decide), fun q => absurd q (by decide), fun _ => ⟨fun _ => rfl, fun q => absurd h q⟩, fun q => absurd q (by decide)⟩⟩
theorem su_7t {S : XM} {u i : Nat} (hi : i < u) (hu : u ≤ 5) {d : Nat} (h : S m_hasProof i ≠ 0) (h2 : S m_depthOf i = nI d) : s_user S u (nI i) (nI 7) (nI d) := ⟨fun q => absurd ⟨i, hi, rfl⟩ q, fun j hj e => by
  obtain rfl := nI_inj (by omega) (by omega) e
  exact ⟨fun q => absurd q (by decide), fun q => absurd q (by decide), fun q => absurd q (by decide), fun q => absurd q (by decide), fun q => absurd q (by decide), fun q => absurd q (by decide), fun q => absurd q (by decide), fun _ => ⟨fun q => absurd q h, fun _ => h2.symm⟩, fun q => absurd q (by decide)⟩⟩
theorem su_8 {S : XM} {u i : Nat} (hi : i < u) (hu : u ≤ 5) : s_user S u (nI i) (nI 8) (-10002) := ⟨fun q => absurd ⟨i, hi, rfl⟩ q, fun j hj e => by
  obtain rfl := nI_inj (by omega) (by omega) e
  exact ⟨fun q => absurd q (by decide), fun q => absurd q (by decide), fun q => absurd q (by decide), fun q => absurd q (by decide), fun q => absurd q (by decide), fun q => absurd q (by decide), fun q => absurd q (by decide), fun q => absurd q (by decide), fun _ => rfl⟩⟩
theorem su_no {S : XM} {u : Nat} {x y : Int32} (h : ¬ isU u x) : s_user S u x y (-10001) := ⟨fun _ => rfl, fun i hi e => absurd ⟨i, hi, e⟩ h⟩
theorem sc_0 {S : XM} {u w : Nat} : s_count S u w (nI 0) (nI u) := ⟨fun _ => rfl, fun q => absurd q (by decide), fun q => absurd q (by decide), fun q => absurd q (by decide), fun q => absurd q (by decide), fun q => absurd q (by decide), fun q => absurd q (by decide)⟩
theorem sc_1 {S : XM} {u w : Nat} : s_count S u w (nI 1) (nI w) := ⟨fun q => absurd q (by decide), fun _ => rfl, fun q => absurd q (by decide), fun q => absurd q (by decide), fun q => absurd q (by decide), fun q => absurd q (by decide), fun q => absurd q (by decide)⟩
theorem sc_2 {S : XM} {u w : Nat} : s_count S u w (nI 2) (nI (xcnt (fun i => 0 < S m_alarmOf i) u)) := ⟨fun q => absurd q (by decide), fun q => absurd q (by decide), fun _ => rfl, fun q => absurd q (by decide), fun q => absurd q (by decide), fun q => absurd q (by decide), fun q => absurd q (by decide)⟩
theorem sc_3 {S : XM} {u w : Nat} : s_count S u w (nI 3) (nI (xcnt (fun i => S m_hasProof i ≠ 0) u)) := ⟨fun q => absurd q (by decide), fun q => absurd q (by decide), fun q => absurd q (by decide), fun _ => rfl, fun q => absurd q (by decide), fun q => absurd q (by decide), fun q => absurd q (by decide)⟩
theorem sc_4 {S : XM} {u w : Nat} : s_count S u w (nI 4) (S oMod 2) := ⟨fun q => absurd q (by decide), fun q => absurd q (by decide), fun q => absurd q (by decide), fun q => absurd q (by decide), fun _ => rfl, fun q => absurd q (by decide), fun q => absurd q (by decide)⟩
theorem sc_5 {S : XM} {u w : Nat} : s_count S u w (nI 5) (xsum (S m_lettersOf) u) := ⟨fun q => absurd q (by decide), fun q => absurd q (by decide), fun q => absurd q (by decide), fun q => absurd q (by decide), fun q => absurd q (by decide), fun _ => rfl, fun q => absurd q (by decide)⟩
theorem sc_6 {S : XM} {u w : Nat} : s_count S u w (nI 6) (-10002) := ⟨fun q => absurd q (by decide), fun q => absurd q (by decide), fun q => absurd q (by decide), fun q => absurd q (by decide), fun q => absurd q (by decide), fun q => absurd q (by decide), fun _ => rfl⟩
theorem sv_0 {S : XM} {u i p : Nat} (hi : i < u) (hp : p < u) (hu : u ≤ 5) : s_vector S u (nI i) (nI 0) (nI p) (rG S i p) := ⟨fun q => absurd ⟨⟨i, hi, rfl⟩, ⟨p, hp, rfl⟩⟩ q, fun i2 p2 hi2 hp2 e e2 => by
  obtain rfl := nI_inj (by omega) (by omega) e
  obtain rfl := nI_inj (by omega) (by omega) e2
  exact ⟨fun q => absurd ⟨by decide, by decide⟩ q, fun _ => rfl, fun q => absurd q (by decide), fun q => absurd q (by decide), fun q => absurd q (by decide)⟩⟩
theorem sv_1 {S : XM} {u i p : Nat} (hi : i < u) (hp : p < u) (hu : u ≤ 5) : s_vector S u (nI i) (nI 1) (nI p) (rK S i p) := ⟨fun q => absurd ⟨⟨i, hi, rfl⟩, ⟨p, hp, rfl⟩⟩ q, fun i2 p2 hi2 hp2 e e2 => by
  obtain rfl := nI_inj (by omega) (by omega) e
  obtain rfl := nI_inj (by omega) (by omega) e2
  exact ⟨fun q => absurd ⟨by decide, by decide⟩ q, fun q => absurd q (by decide), fun _ => rfl, fun q => absurd q (by decide), fun q => absurd q (by decide)⟩⟩
theorem sv_2t {S : XM} {u i p : Nat} (hi : i < u) (hp : p < u) (hu : u ≤ 5) (h : S m_hasProof i ≠ 0) : s_vector S u (nI i) (nI 2) (nI p) (pF S i p) := ⟨fun q => absurd ⟨⟨i, hi, rfl⟩, ⟨p, hp, rfl⟩⟩ q, fun i2 p2 hi2 hp2 e e2 => by
  obtain rfl := nI_inj (by omega) (by omega) e
  obtain rfl := nI_inj (by omega) (by omega) e2
  exact ⟨fun q => absurd ⟨by decide, by decide⟩ q, fun q => absurd q (by decide), fun q => absurd q (by decide), fun _ => ⟨fun q => absurd q h, fun _ => rfl⟩, fun q => absurd q (by decide)⟩⟩
theorem sv_3t {S : XM} {u i p : Nat} (hi : i < u) (hp : p < u) (hu : u ≤ 5) (h : S m_hasProof i ≠ 0) : s_vector S u (nI i) (nI 3) (nI p) (pS S i p) := ⟨fun q => absurd ⟨⟨i, hi, rfl⟩, ⟨p, hp, rfl⟩⟩ q, fun i2 p2 hi2 hp2 e e2 => by
  obtain rfl := nI_inj (by omega) (by omega) e
  obtain rfl := nI_inj (by omega) (by omega) e2
  exact ⟨fun q => absurd ⟨by decide, by decide⟩ q, fun q => absurd q (by decide), fun q => absurd q (by decide), fun q => absurd q (by decide), fun _ => ⟨fun q => absurd q h, fun _ => rfl⟩⟩⟩
theorem sv_2f {S : XM} {u i p : Nat} (hi : i < u) (hp : p < u) (hu : u ≤ 5) (h : S m_hasProof i = 0) : s_vector S u (nI i) (nI 2) (nI p) (-10005) := ⟨fun q => absurd ⟨⟨i, hi, rfl⟩, ⟨p, hp, rfl⟩⟩ q, fun i2 p2 hi2 hp2 e e2 => by
  obtain rfl := nI_inj (by omega) (by omega) e
  obtain rfl := nI_inj (by omega) (by omega) e2
  exact ⟨fun q => absurd ⟨by decide, by decide⟩ q, fun q => absurd q (by decide), fun q => absurd q (by decide), fun _ => ⟨fun _ => rfl, fun q => absurd h q⟩, fun q => absurd q (by decide)⟩⟩
theorem sv_3f {S : XM} {u i p : Nat} (hi : i < u) (hp : p < u) (hu : u ≤ 5) (h : S m_hasProof i = 0) : s_vector S u (nI i) (nI 3) (nI p) (-10005) := ⟨fun q => absurd ⟨⟨i, hi, rfl⟩, ⟨p, hp, rfl⟩⟩ q, fun i2 p2 hi2 hp2 e e2 => by
  obtain rfl := nI_inj (by omega) (by omega) e
  obtain rfl := nI_inj (by omega) (by omega) e2
  exact ⟨fun q => absurd ⟨by decide, by decide⟩ q, fun q => absurd q (by decide), fun q => absurd q (by decide), fun q => absurd q (by decide), fun _ => ⟨fun _ => rfl, fun q => absurd h q⟩⟩⟩
theorem sv_bad {S : XM} {u i p : Nat} (hi : i < u) (hp : p < u) (hu : u ≤ 5) : s_vector S u (nI i) (nI 4) (nI p) (-10002) := ⟨fun q => absurd ⟨⟨i, hi, rfl⟩, ⟨p, hp, rfl⟩⟩ q, fun i2 p2 hi2 hp2 e e2 => ⟨fun _ => rfl, fun q => absurd q (by decide), fun q => absurd q (by decide), fun q => absurd q (by decide), fun q => absurd q (by decide)⟩⟩
theorem sv_no {S : XM} {u : Nat} {x y z : Int32} (h : ¬ isU u z) : s_vector S u x y z (-10001) := ⟨fun _ => rfl, fun i p hi hp e e2 => absurd ⟨p, hp, e2⟩ h⟩
theorem se_1 {S : XM} {u w v i p : Nat} (hv : v < w) (hw : w ≤ 6) (hi : i < u) (hp : p < u) (hu : u ≤ 5) : s_entry S u w (nI v) (nI i) (nI p) (rV S v i p) := ⟨fun q => absurd ⟨⟨v, hv, rfl⟩, ⟨i, hi, rfl⟩, ⟨p, hp, rfl⟩⟩ q, fun v2 i2 p2 hv2 hi2 hp2 e e2 e3 => by
  obtain rfl := nI_inj (by omega) (by omega) e
  obtain rfl := nI_inj (by omega) (by omega) e2
  obtain rfl := nI_inj (by omega) (by omega) e3
  rfl⟩
theorem se_no {S : XM} {u w : Nat} {x y z : Int32} (h : ¬ (isU w x ∧ isU u y ∧ isU u z)) : s_entry S u w x y z (-10001) := ⟨fun _ => rfl, fun v i p hv hi hp e e2 e3 => absurd ⟨⟨v, hv, e⟩, ⟨i, hi, e2⟩, ⟨p, hp, e3⟩⟩ h⟩
theorem so_1 {S : XM} {u w v i : Nat} (hv : v < w) (hw : w ≤ 6) (hi : i < u) (hu : u ≤ 5) : s_content S u w (nI v) (nI i) (cV S v i) := ⟨fun q => absurd ⟨⟨v, hv, rfl⟩, ⟨i, hi, rfl⟩⟩ q, fun v2 i2 hv2 hi2 e e2 => by
  obtain rfl := nI_inj (by omega) (by omega) e
  obtain rfl := nI_inj (by omega) (by omega) e2
  rfl⟩
theorem so_no {S : XM} {u w : Nat} {x y : Int32} (h : ¬ (isU w x ∧ isU u y)) : s_content S u w x y (-10001) := ⟨fun _ => rfl, fun v i hv hi e e2 => absurd ⟨⟨v, hv, e⟩, ⟨i, hi, e2⟩⟩ h⟩
theorem sw_0 {S : XM} {u w v : Nat} (hv : v < w) (hw : w ≤ 6) : s_view S u w (nI v) (nI 0) (attM S (nI v) u) S := ⟨Sp.rf, fun q => absurd ⟨v, hv, rfl⟩ q, fun v2 hv2 e => by
  obtain rfl := nI_inj (by omega) (by omega) e
  exact ⟨fun _ => rfl, fun q => absurd q (by decide), fun q => absurd q (by decide), fun q => absurd q (by decide), fun q => absurd q (by decide)⟩⟩
theorem sw_1 {S : XM} {u w v k : Nat} (hv : v < w) (hw : w ≤ 6) (h : S m_keptOf v = nI k) : s_view S u w (nI v) (nI 1) (nI k) S := ⟨Sp.rf, fun q => absurd ⟨v, hv, rfl⟩ q, fun v2 hv2 e => by
  obtain rfl := nI_inj (by omega) (by omega) e
  exact ⟨fun q => absurd q (by decide), fun _ => h.symm, fun q => absurd q (by decide), fun q => absurd q (by decide), fun q => absurd q (by decide)⟩⟩
theorem sw_bad {S : XM} {u w v : Nat} (hv : v < w) : s_view S u w (nI v) (nI 4) (-10002) S := ⟨Sp.rf, fun q => absurd ⟨v, hv, rfl⟩ q, fun v2 hv2 e => ⟨fun q => absurd q (by decide), fun q => absurd q (by decide), fun q => absurd q (by decide), fun q => absurd q (by decide), fun _ => rfl⟩⟩
theorem sw_no {S : XM} {u w : Nat} {x y : Int32} (h : ¬ isU w x) : s_view S u w x y (-10001) S := ⟨Sp.rf, fun _ => rfl, fun v hv e => absurd ⟨v, hv, e⟩ h⟩
theorem sp_0 {S : XM} {u i j : Nat} (hi : i < u) (hj : j < u) (hu : u ≤ 5) : s_compare S u (nI i) (nI j) (nI 0) (rel u (rG S i) (rG S j)) := ⟨fun q => absurd ⟨⟨i, hi, rfl⟩, ⟨j, hj, rfl⟩⟩ q, fun i2 j2 hi2 hj2 e e2 => by
  obtain rfl := nI_inj (by omega) (by omega) e
  obtain rfl := nI_inj (by omega) (by omega) e2
  exact ⟨fun _ => rfl, fun q => absurd (by decide) q⟩⟩
theorem sp_1 {S : XM} {u i j : Nat} (hi : i < u) (hj : j < u) (hu : u ≤ 5) : s_compare S u (nI i) (nI j) (nI 1) (rel u (rK S i) (rK S j)) := ⟨fun q => absurd ⟨⟨i, hi, rfl⟩, ⟨j, hj, rfl⟩⟩ q, fun i2 j2 hi2 hj2 e e2 => by
  obtain rfl := nI_inj (by omega) (by omega) e
  obtain rfl := nI_inj (by omega) (by omega) e2
  exact ⟨fun q => absurd q (by decide), fun _ => rfl⟩⟩
theorem sp_no {S : XM} {u : Nat} {x y k : Int32} (h : ¬ (isU u x ∧ isU u y)) : s_compare S u x y k (-10001) := ⟨fun _ => rfl, fun i j hi hj e e2 => absurd ⟨⟨i, hi, e⟩, ⟨j, hj, e2⟩⟩ h⟩
theorem sl_1 {S : XM} {u i : Nat} (hi : i < u) (hu : u ≤ 5) : s_last S u (nI i) (lastV S i) := ⟨fun q => absurd ⟨i, hi, rfl⟩ q, fun j hj e => by
  obtain rfl := nI_inj (by omega) (by omega) e
  exact ⟨fun q => by unfold lastV; rw [if_pos q], fun q => by unfold lastV; rw [if_neg q]⟩⟩
theorem sl_no {S : XM} {u : Nat} {x : Int32} (h : ¬ isU u x) : s_last S u x (-10001) := ⟨fun _ => rfl, fun i hi e => absurd ⟨i, hi, e⟩ h⟩
theorem sk_0 {S : XM} {u i v x : Nat} (hi : i < u) (hu : u ≤ 5) (ha : S m_alarmOf i = nI 0) (hv : v < 6) (hV : S m_viewOf i = nI v) (hx : al S u v i = x) : s_check S u (nI i) (nI x) S := ⟨Sp.rf, fun q => absurd ⟨i, hi, rfl⟩ q, fun j hj e => by
  obtain rfl := nI_inj (by omega) (by omega) e
  refine ⟨fun q => absurd ((alm_pos ha (by decide)).mp q) (by decide), fun _ v2 hv2 e2 => ?_⟩
  obtain rfl := nI_inj (by omega) (by omega) (hV.symm.trans e2)
  rw [hx]⟩
theorem sk_1 {S : XM} {u i a : Nat} (hi : i < u) (hu : u ≤ 5) (ha : S m_alarmOf i = nI a) (h0 : 0 < a) (h5 : a ≤ 5) : s_check S u (nI i) (-10003) S := ⟨Sp.rf, fun q => absurd ⟨i, hi, rfl⟩ q, fun j hj e => by
  obtain rfl := nI_inj (by omega) (by omega) e
  exact ⟨fun _ => rfl, fun q => absurd ((alm_pos ha (by omega)).mpr h0) q⟩⟩
theorem sk_no {S : XM} {u : Nat} {x : Int32} (h : ¬ isU u x) : s_check S u x (-10001) S := ⟨Sp.rf, fun _ => rfl, fun i hi e => absurd ⟨i, hi, e⟩ h⟩
theorem sq_1 {S : XM} {u : Nat} : s_unaware S u (bitM (unQ S u) u) S := ⟨Sp.rf, rfl⟩
