/-! WRITING: the state when k bytes have been put from a row of n places, u of them used -/
def WS (S : PS) (br n u k : Nat) (T : PS) : Prop := Rl Pb S T ∧ ∃ h2, BytesAt T br h2 (bN n u k) (bU u k)
theorem bb_n {n u k m : Nat} (hun : u ≤ n) (hn : n ≤ 60000) : bN (bN n u k) (bU u k) m = bN n u (k + m) ∧ bU (bU u k) m = bU u (k + m) ∧ bG n u k + bG (bN n u k) (bU u k) m = bG n u (k + m) := by
  unfold bN bU bG
  by_cases h1 : u + k ≤ n
  · rw [if_pos h1, if_pos (Or.inl h1), show min (u + k) 60000 = u + k by omega]
    refine ⟨?_, by omega, ?_⟩
    · by_cases h2 : u + k + m ≤ n
      · rw [if_pos h2, if_pos (by omega)]
      · rw [if_neg h2, if_neg (by omega)]
    · by_cases h2 : u + k + m ≤ n ∨ n = 60000
      · rw [if_pos h2, if_pos (by omega)]
      · rw [if_neg h2, if_neg (by omega)]
  · rw [if_neg h1]
    refine ⟨?_, by omega, ?_⟩
    · rw [if_neg (by omega : ¬ u + (k + m) ≤ n)]
      by_cases h2 : min (u + k) 60000 + m ≤ 60000
      · rw [if_pos h2]
      · rw [if_neg h2]
    · rw [if_pos (Or.inr rfl : min (u + k) 60000 + m ≤ 60000 ∨ (60000 : Nat) = 60000)]
      by_cases h2 : n = 60000
      · rw [if_pos (Or.inr h2), if_pos (Or.inr h2)]
      · rw [if_neg (by omega), if_neg (by omega)]
theorem bG_le {n u k K : Nat} (h : k ≤ K) : bG n u k ≤ bG n u K := by
  unfold bG
  by_cases h1 : u + k ≤ n ∨ n = 60000
  · rw [if_pos h1]; exact Nat.zero_le _
  · rw [if_neg h1, if_neg (by omega)]; exact Nat.le_refl _
theorem w_room {n u k m K : Nat} (hun : u ≤ n) (hn : n ≤ 60000) (h : k + m ≤ K) : bG n u k + bG (bN n u k) (bU u k) m ≤ bG n u K ∧ 60000 * bG n u k + 60000 * bG (bN n u k) (bU u k) m ≤ 60000 * bG n u K := by
  have h1 := (bb_n (k := k) (m := m) hun hn).2.2
  have h2 := bG_le (n := n) (u := u) h
  omega
theorem w_room0 {n u k K : Nat} (h : k ≤ K) : bG n u k + 0 ≤ bG n u K ∧ 60000 * bG n u k + 0 ≤ 60000 * bG n u K := by
  have := bG_le (n := n) (u := u) h
  omega
theorem WS.put {S T U : PS} {br n u k m : Nat} (hun : u ≤ n) (hn : n ≤ 60000) (h : WS S br n u k T) (hp : Rl Pb T U ∧ ∃ h2, BytesAt U br h2 (bN (bN n u k) (bU u k) m) (bU (bU u k) m)) : WS S br n u (k + m) U := by
  obtain ⟨e1, e2, -⟩ := bb_n (k := k) (m := m) hun hn
  obtain ⟨h1, h2, h3⟩ := hp
  rw [e1, e2] at h3
  exact ⟨h.1.tr h1, h2, h3⟩
theorem WS.rf {S : PS} {br h n u : Nat} (hb : BytesAt S br h n u) : WS S br n u 0 S := by
  have hun := hb.2.2.2.2.2.2.2.2.1
  have hn := hb.2.2.2.2.2.2.1
  refine ⟨Rl.rf, h, ?_⟩
  rw [show bN n u 0 = n by unfold bN; rw [if_pos (by omega)], show bU u 0 = u by unfold bU; omega]
  exact hb
abbrev nPb1 : ¬ Pb 1 := by decide
abbrev nPb2 : ¬ Pb 2 := by decide
abbrev nPb10 : ¬ Pb 10 := by decide
abbrev nPb9 : ¬ Pb 9 := by decide
