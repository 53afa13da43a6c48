theorem isIx_y {n j : Nat} (hn : n < 2 ^ 31) {r : Int32} (h : isIx n (nI j) r) (hj : j < n) : r = 0 := by
  rcases h with ⟨h, -⟩ | ⟨-, h⟩
  · exact h
  · rcases h with h | h
    · exact absurd h (nI_pos (by omega))
    · have := (nI_leI hn (by omega)).mp h; omega

