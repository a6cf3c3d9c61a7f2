theorem whole_start {p : Program} {e : Env} {s : State} {m : MethodId} {below : List Frame} {meth : Method} {c : Code} (l : Launch) (hflags : l.flags = flags0) {b L : Nat} {xs : Nat → Int32} (hL : L ≤ 260) (hAt : lw_At p s m meth c b L xs) : W p l e room_1 s m #[Value.ref b] below meth c s.heap [] 0 0 (lw_Z below #[Value.ref b] s) (entryFrame m ([Value.ref b] : List Value).toArray 16) := by
  obtain ⟨hx, hb, hr, hml, hown, hts, hX, hbl, hlocks, hgv⟩ := hAt
  obtain ⟨D, hD⟩ := xK_start hts
  obtain ⟨ls, hE, hLs⟩ := xL.entry (av := [.ref b]) (nL := 16) (lv := [some (.ref b), none, none, none, none, none, none, none, none, none, none, none, none, none, none, none]) (List.forall_mem_cons.mpr ⟨rfl, fun _ h => absurd h List.not_mem_nil⟩) (Nat.le_of_ble_eq_true rfl) rfl
  rw [hE m]
  have hC : xC p s m #[Value.ref b] meth c D cL_law 16 R_law := ⟨⟨hx, hb, hml, hown, fun w hw => hts w (xt_in hw)⟩, hD, hlocks⟩
  exact law_start hC hX hbl rfl hL hr s.heap [] ls ⟨rfl, Nat.le_refl _, fun q e h => by cases h⟩ va_S.rf hLs
