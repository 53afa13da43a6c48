/-! THE LAW: what is fixed, what holds at each turn -/
abbrev lvL (b x m i : Nat) : List (Nat × Value) := [(0, .ref b), (1, .ref x), (2, .ref m), (3, .int (nI i))]
def LX (F : Fx) (b L : Nat) (xs : Nat → Int32) : Prop := Cx F cL_law 4 RL wsL_law (some .boolean) ∧ va_X b L xs F.s F.H0 ∧ b < F.H0.size ∧ ¬ F.A b ∧ L ≤ 3072 ∧ F.R.frames = 10 ∧ F.R.cells = 600000 ∧ F.R.slots = 7302250 ∧ F.R.locals = 360
theorem bg_step {n u K g : Nat} (h : g = 0 ∨ (g = 1 ∧ n = 60000)) : g + bG n u K = 0 ∨ (g + bG n u K = 1 ∧ bN n u K = 60000) := by
  unfold bG bN
  by_cases h1 : u + K ≤ n
  · rw [if_pos (Or.inl h1), if_pos h1]; omega
  · rw [if_neg h1]
    by_cases h2 : n = 60000
    · rw [if_pos (Or.inr h2)]; omega
    · rw [if_neg (by omega)]; omega
theorem InvR.rs {R Q : MR} (h : InvR R) (k : Rs R Q) : InvR Q := by
  obtain ⟨⟨n, h1, h2⟩, h3⟩ := h
  exact ⟨⟨n, h1, k.1.trans h2⟩, fun i hi => by rw [k.2]; exact h3 i hi⟩
/-- a long out of two ints of the script -/
abbrev lgp (a b : Int32) : Int64 := (a.toInt64 <<< ((32 : Int32).toInt64 &&& 63)) ||| (b.toInt64 &&& 4294967295)
section LAW
variable {F : Fx} {S M : PS} {kc ks : Nat} {Q : State → Prop} {st : List Value} {b L x m i : Nat} {xs : Nat → Int32}
theorem h_sld (X : LX F b L xs) {pc j : Nat} (hj : j < L) (dd : decode cL_law pc = .ok (.iaload, 1)) {lv : List (Nat × Value)} (k : G2 F 4 S M kc ks Q (pc + 1) lv (.int (xs j) :: st)) : G2 F 4 S M kc ks Q pc lv (.int (nI j) :: .ref b :: st) := by
  intro H locs ls hP hD hS hl
  have hL := X.2.2.2.2.1
  have hc : (nI j).toNatClampNeg = j := nI_clamp (by omega)
  refine va_sld X.1.1 X.1.2.1 X.2.1 X.2.2.1 X.2.2.2.1 hS (vp_in_nI hj (by omega)) dd ?_
  rw [hc]
  exact k H locs ls hP hD hS hl
theorem h_slen (X : LX F b L xs) {pc : Nat} (dd : decode cL_law pc = .ok (.arraylength, 1)) {lv : List (Nat × Value)} (k : G2 F 4 S M kc ks Q (pc + 1) lv (.int (nI L) :: st)) : G2 F 4 S M kc ks Q pc lv (.ref b :: st) := by
  intro H locs ls hP hD hS hl
  exact va_slen X.1.1 X.1.2.1 X.2.1 X.2.2.1 X.2.2.2.1 hS dd (k H locs ls hP hD hS hl)
/-- an argument out of the script -/
theorem h_arg (X : LX F b L xs) (pc j : Nat) {c : Int} (hj : i + j < L) (hc : Int32.ofInt c = nI j) (d1 : decode cL_law pc = .ok (.aload_n 0, 1)) (d2 : decode cL_law (pc + 1) = .ok (.iload_n 3, 1)) (d3 : decode cL_law (pc + 2) = .ok (.iconst c, 1)) (d4 : decode cL_law (pc + 3) = .ok (.iadd, 1)) (d5 : decode cL_law (pc + 4) = .ok (.iaload, 1)) (k : G2 F 4 S M kc ks Q (pc + 5) (lvL b x m i) (.int (xs (i + j)) :: st)) : G2 F 4 S M kc ks Q pc (lvL b x m i) st := by
  refine h_aload_n X.1 d1 rfl ?_
  refine h_iload_n X.1 d2 rfl ?_
  refine h_iconst X.1 d3 hc ?_
  refine h_iadd X.1 d4 ?_
  rw [nI_add]
  exact h_sld X hj d5 k
theorem h_lng (X : LX F b L xs) (pc j : Nat) {c1 c2 : Int} (hj : i + j + 1 < L) (hc1 : Int32.ofInt c1 = nI j) (hc2 : Int32.ofInt c2 = nI (j + 1)) (d1 : decode cL_law pc = .ok (.aload_n 0, 1)) (d2 : decode cL_law (pc + 1) = .ok (.iload_n 3, 1)) (d3 : decode cL_law (pc + 2) = .ok (.iconst c1, 1)) (d4 : decode cL_law (pc + 3) = .ok (.iadd, 1)) (d5 : decode cL_law (pc + 4) = .ok (.iaload, 1)) (d6 : decode cL_law (pc + 5) = .ok (.i2l, 1)) (d7 : decode cL_law (pc + 6) = .ok (.bipush 32, 2)) (d8 : decode cL_law (pc + 8) = .ok (.lshl, 1)) (d9 : decode cL_law (pc + 9) = .ok (.aload_n 0, 1)) (d10 : decode cL_law (pc + 10) = .ok (.iload_n 3, 1)) (d11 : decode cL_law (pc + 11) = .ok (.iconst c2, 1)) (d12 : decode cL_law (pc + 12) = .ok (.iadd, 1)) (d13 : decode cL_law (pc + 13) = .ok (.iaload, 1)) (d14 : decode cL_law (pc + 14) = .ok (.i2l, 1)) (d15 : decode cL_law (pc + 15) = .ok (.ldc2_w 45, 3)) (d16 : decode cL_law (pc + 18) = .ok (.land, 1)) (d17 : decode cL_law (pc + 19) = .ok (.lor, 1)) (k : G2 F 4 S M kc ks Q (pc + 20) (lvL b x m i) (.long (lgp (xs (i + j)) (xs (i + (j + 1)))) :: st)) : G2 F 4 S M kc ks Q pc (lvL b x m i) st := by
  have hct : Cond.constantLong RL 45 (4294967295) ∈ wsL_law := by decide +kernel
  refine h_arg X pc j (by omega) hc1 d1 d2 d3 d4 d5 ?_
  refine h_i2l X.1 d6 ?_
  refine h_bipush (v := 32) X.1 d7 (by decide) ?_
  refine h_lshl X.1 d8 ?_
  refine h_arg X (pc + 9) (j + 1) (by omega) hc2 d9 d10 d11 d12 d13 ?_
  refine h_i2l X.1 d14 ?_
  refine h_ldc2 X.1 d15 hct ?_
  refine h_land X.1 d16 ?_
  refine h_lor X.1 d17 ?_
  exact k
end LAW
