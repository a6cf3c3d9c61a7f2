theorem mTake.hd {S T : XM} {i z : Nat} (h : mTake S i z T) : ∀ k, k < 5 → sl (T m_hand) 0 k = sl (S m_letter) (20 * i) k := fun k hk => by
  show T m_hand (0 + k) = _
  rw [h.1, cpy_in hk]
def fkQ (S : XM) (u i j : Nat) : Prop := rel u (rK S i) (rK S j) = 2
