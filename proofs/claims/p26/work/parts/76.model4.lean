/-- no container, or one of the 102 -/
def cOr (y : Int32) : Prop := y = -1 ∨ ∃ c, c < 102 ∧ y = nI c
theorem cOr.nn {y : Int32} (h : cOr y) (h0 : ¬ y = -1) : ∃ c, c < 102 ∧ y = nI c := by
  rcases h with h | h
  · exact absurd h h0
  · exact h
theorem ne_nI {a b : Nat} (ha : a < 2 ^ 31) (hb : b < 2 ^ 31) (h : a ≠ b) : ¬ nI a = nI b := fun e => h ((nI_eq ha hb).mp e)
theorem add0 (a : Nat) : nI a + 0 = nI a := nI_add a 0

