/-- an index below n, or not -/
def isIx (n : Nat) (x r : Int32) : Prop := (r = 0 ∧ ∃ j : Nat, j < n ∧ x = nI j) ∨ (r = 1 ∧ (x < 0 ∨ nI n ≤ x))
theorem isIx_f {n : Nat} (hn : n < 2 ^ 31) {x : Int32} (h1 : ¬ x < 0) (h2 : ¬ nI n ≤ x) : isIx n x 0 := by
  rcases pk_ix x hn with h | h | h
  · exact absurd h h1
  · exact absurd h h2
  · exact Or.inl ⟨rfl, h⟩
theorem isIx_t {n : Nat} {x : Int32} (h2 : nI n ≤ x) : isIx n x 1 := Or.inr ⟨rfl, Or.inr h2⟩
theorem isIx_t0 {n : Nat} {x : Int32} (h1 : x < 0) : isIx n x 1 := Or.inr ⟨rfl, Or.inl h1⟩
theorem i_nle_of_lt {x y : Int32} (h : x < y) : ¬ y ≤ x := fun h2 => absurd h (Int32.not_lt.mpr h2)
theorem i_le_of_nlt {x y : Int32} (h : ¬ x < y) : y ≤ x := Int32.not_lt.mp h
theorem i_lt_of_nle {x y : Int32} (h : ¬ x ≤ y) : y < x := Int32.not_le.mp h

set_option maxRecDepth 100000 in
set_option maxHeartbeats 4000000 in
/-- static -/
theorem c_X6_isNoSet (l : Launch) (D : va_G) (cy : Nat → ClassId) (nw : Nat) (S : PS) (x : Int32) : kI l yX6_isNoSet wsX6_isNoSet 0 0 D cy nw [.int x] S (fun r T => S = T ∧ isIx 8 x r) 0 0 := by
  refine enterI (cc := cX6_isNoSet) (nL := 1) (ret := (some .boolean)) (by decide +kernel) rfl (Nat.le_of_ble_eq_true rfl) ?_
  intro F Z hl hR hD hcy hnw hnm
  subst hl hD hcy hnw
  have hRf : F.R.frames = 0 := by rw [hR]
  have hRc : F.R.cells = 0 := by rw [hR]
  have hRs : F.R.slots = 0 := by rw [hR]
  have hRl : F.R.locals = 0 := by rw [hR]
  refine g_iload_n Z dX6_isNoSet_0 rfl ?_
  refine g_if_lt Z 10 dX6_isNoSet_1 (by decide) (fun h1 => ?_) (fun h1 => ?_)
  · refine g_iconst (v := 1) Z dX6_isNoSet_10 (by decide) ?_
    refine g_goto Z 15 dX6_isNoSet_11 (by decide) ?_
    exact g_zret Z dX6_isNoSet_15 (by rfl) (by omega) (by omega) (by first | exact ⟨rfl, isIx_t0 h1⟩ | exact ⟨rfl, isIx_t (i_le_of_nlt h7)⟩ | exact ⟨rfl, isIx_f (by decide) h1 (i_nle_of_lt h7)⟩)
  · refine g_iload_n Z dX6_isNoSet_4 rfl ?_
    refine g_bipush (v := 8) Z dX6_isNoSet_5 (by decide) ?_
    refine g_icmp_lt Z 14 dX6_isNoSet_7 (by decide) (fun h7 => ?_) (fun h7 => ?_)
    · refine g_iconst (v := 0) Z dX6_isNoSet_14 (by decide) ?_
      exact g_zret Z dX6_isNoSet_15 (by rfl) (by omega) (by omega) (by first | exact ⟨rfl, isIx_t0 h1⟩ | exact ⟨rfl, isIx_t (i_le_of_nlt h7)⟩ | exact ⟨rfl, isIx_f (by decide) h1 (i_nle_of_lt h7)⟩)
    · refine g_iconst (v := 1) Z dX6_isNoSet_10 (by decide) ?_
      refine g_goto Z 15 dX6_isNoSet_11 (by decide) ?_
      exact g_zret Z dX6_isNoSet_15 (by rfl) (by omega) (by omega) (by first | exact ⟨rfl, isIx_t0 h1⟩ | exact ⟨rfl, isIx_t (i_le_of_nlt h7)⟩ | exact ⟨rfl, isIx_f (by decide) h1 (i_nle_of_lt h7)⟩)

set_option maxRecDepth 100000 in
set_option maxHeartbeats 4000000 in
/-- static -/
theorem c_X6_keyOf (l : Launch) (D : va_G) (cy : Nat → ClassId) (nw : Nat) (S : PS) (x : Int32) : kI l yX6_keyOf wsX6_keyOf 0 0 D cy nw [.int x] S (fun r T => S = T ∧ r = (x.toUInt32 >>> ((16 : Int32).toUInt32 &&& Int32.toUInt32 31)).toInt32) 0 0 := by
  refine enterI (cc := cX6_keyOf) (nL := 1) (ret := (some .int)) (by decide +kernel) rfl (Nat.le_of_ble_eq_true rfl) ?_
  intro F Z hl hR hD hcy hnw hnm
  subst hl hD hcy hnw
  have hRf : F.R.frames = 0 := by rw [hR]
  have hRc : F.R.cells = 0 := by rw [hR]
  have hRs : F.R.slots = 0 := by rw [hR]
  have hRl : F.R.locals = 0 := by rw [hR]
  refine g_iload_n Z dX6_keyOf_0 rfl ?_
  refine g_bipush (v := 16) Z dX6_keyOf_1 (by decide) ?_
  refine g_iushr Z dX6_keyOf_3 ?_
  exact g_iret Z dX6_keyOf_4 (by omega) (by omega) (⟨rfl, rfl⟩)

