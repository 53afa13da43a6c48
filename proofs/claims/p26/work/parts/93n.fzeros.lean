/-! THE LOWEST BIT -/
theorem pw_pos (k : Nat) : 1 ≤ 2 ^ k := Nat.pow_pos (by decide)
theorem pw_le {k m : Nat} (hm : 1 ≤ m) (h : 2 ^ k - 1 ≤ 2 ^ m) : k ≤ m := by
  apply Nat.le_of_not_lt
  intro hk
  have h1 : 2 ^ (m + 1) ≤ 2 ^ k := Nat.pow_le_pow_right (by decide) hk
  have h2 : 2 ^ 1 ≤ 2 ^ m := Nat.pow_le_pow_right (by decide) hm
  have h3 : 2 ^ (m + 1) = 2 * 2 ^ m := by rw [Nat.pow_succ, Nat.mul_comm]
  omega
theorem pw_gt {k m : Nat} (h : 2 ^ m < 2 ^ k - 1) : m < k := by
  apply Nat.lt_of_not_le
  intro hk
  have h1 : 2 ^ k ≤ 2 ^ m := Nat.pow_le_pow_right (by decide) hk
  have h2 := pw_pos m
  omega
theorem pw_div {k s : Nat} (h : s ≤ k) : (2 ^ k - 1) / 2 ^ s = 2 ^ (k - s) - 1 := by
  have e : 2 ^ k = 2 ^ (k - s) * 2 ^ s := by rw [← Nat.pow_add]; congr 1; omega
  have h1 := pw_pos (k - s)
  have h2 := pw_pos s
  rw [e]
  apply Nat.div_eq_of_lt_le
  · rw [Nat.sub_mul]
    omega
  · rw [Nat.sub_add_cancel h1]
    have : 0 < 2 ^ (k - s) * 2 ^ s := Nat.mul_pos h1 h2
    omega
theorem pw_lt {k m : Nat} (h : k ≤ m) : 2 ^ k - 1 < 2 ^ m := by
  have h1 : 2 ^ k ≤ 2 ^ m := Nat.pow_le_pow_right (by decide) h
  have h2 := pw_pos k
  omega
/-- where the lowest bit is -/
def Tz (n k : Nat) : Prop := n % 2 ^ k = 0 ∧ n / 2 ^ k % 2 = 1
theorem Tz.eq {n k : Nat} (h : Tz n k) : n = 2 ^ k * (2 * (n / 2 ^ k / 2) + 1) := by
  have h1 := Nat.div_add_mod n (2 ^ k)
  have h2 := Nat.div_add_mod (n / 2 ^ k) 2
  rw [h.1, Nat.add_zero] at h1
  rw [h.2] at h2
  rw [h2]
  exact h1.symm
theorem Tz.pos {n k : Nat} (h : Tz n k) : 1 ≤ n := by
  apply Nat.pos_of_ne_zero
  intro e
  have := h.2
  rw [e, Nat.zero_div] at this
  exact absurd this (by decide)
theorem Tz.dec {n k : Nat} (h : Tz n k) (j : Nat) : (n - 1).testBit j = (decide (j < k) || (decide (k < j) && n.testBit j)) := by
  have e := h.eq
  generalize n / 2 ^ k / 2 = m at e
  have e1 : n - 1 = 2 ^ k * (2 * m) + (2 ^ k - 1) := by
    have h1 := pw_pos k
    rw [e, Nat.mul_add, Nat.mul_one]
    omega
  rw [e1, Nat.testBit_two_pow_mul_add _ (by have := pw_pos k; omega), e, Nat.testBit_two_pow_mul]
  by_cases hj : j < k
  · rw [if_pos hj, Nat.testBit_two_pow_sub_one]
    simp [hj]
  · rw [if_neg hj]
    by_cases hk : k < j
    · obtain ⟨d, hd⟩ : ∃ d, j - k = d + 1 := ⟨j - k - 1, by omega⟩
      rw [hd, Nat.testBit_succ, Nat.testBit_succ, show 2 * m / 2 = m by omega, show (2 * m + 1) / 2 = m by omega]
      simp [hj, hk, show k ≤ j by omega]
    · have : j = k := by omega
      subst this
      rw [Nat.sub_self]
      simp
theorem Tz.low {n k : Nat} (h : Tz n k) (N : Nat) (hk : k < N) : (n ^^^ (2 ^ N - 1)) &&& (n - 1) = (2 ^ k - 1) ||| (n / 2 ^ N * 2 ^ N) := by
  apply Nat.eq_of_testBit_eq
  intro j
  have hlo : ∀ j, j < k → n.testBit j = false := by
    intro j hj
    have e := h.eq
    generalize n / 2 ^ k / 2 = m at e
    rw [e, Nat.testBit_two_pow_mul]
    simp [show ¬ k ≤ j by omega]
  rw [Nat.testBit_and, Nat.testBit_xor, h.dec, Nat.testBit_two_pow_sub_one, Nat.testBit_or, Nat.testBit_two_pow_sub_one, Nat.testBit_mul_two_pow, Nat.testBit_div_two_pow]
  by_cases h1 : j < k
  · simp [h1, hlo j h1, show j < N by omega, show ¬ N ≤ j by omega]
  · by_cases h2 : j < N
    · by_cases h3 : k < j
      · cases hb : n.testBit j <;> simp [h1, h2, h3, hb, show ¬ N ≤ j by omega]
      · simp [h1, h2, h3, show ¬ N ≤ j by omega]
    · cases hb : n.testBit j <;> simp [h1, h2, show k < j by omega, show N ≤ j by omega, show j - N + N = j by omega, hb]
theorem Tz.low0 {n k N : Nat} (h : Tz n k) (hk : k < N) (hn : n < 2 ^ N) : (n ^^^ (2 ^ N - 1)) &&& (n - 1) = 2 ^ k - 1 := by
  rw [h.low N hk, Nat.div_eq_of_lt hn, Nat.zero_mul, Nat.or_zero]
theorem Tz.i32 {n k : Nat} (h : Tz n k) (hk : k < 32) (hn : n < 2 ^ 32) : (nI n ^^^ -1) &&& (nI n - 1) = nI (2 ^ k - 1) := by
  apply Int32.toBitVec_inj.mp
  apply BitVec.eq_of_toNat_eq
  have h1 := h.pos
  have h2 : (nI n).toBitVec.toNat = n := pk_tn hn
  have h3 : (nI n - 1).toBitVec.toNat = n - 1 := by
    rw [Int32.toBitVec_sub, BitVec.toNat_sub, h2, show (1 : Int32).toBitVec.toNat = 1 from rfl]
    omega
  rw [pk_tn (Nat.lt_of_lt_of_le (pw_lt (Nat.le_of_lt hk)) (Nat.le_refl _)), Int32.toBitVec_and, BitVec.toNat_and, h3, Int32.toBitVec_xor, BitVec.toNat_xor, h2, show (-1 : Int32).toBitVec.toNat = 2 ^ 32 - 1 from rfl]
  exact h.low0 hk hn
theorem tz_ex (n : Nat) : ∀ N, (∃ j, j < N ∧ n / 2 ^ j % 2 = 1) → ∃ k, k < N ∧ Tz n k
  | 0, ⟨j, h, _⟩ => absurd h (Nat.not_lt_zero j)
  | N + 1, ⟨j, h, hb⟩ => by
    by_cases h1 : ∃ j, j < N ∧ n / 2 ^ j % 2 = 1
    · obtain ⟨k, hk, h2⟩ := tz_ex n N h1
      exact ⟨k, by omega, h2⟩
    · have hj : j = N := by
        by_cases e : j = N
        · exact e
        · exact absurd ⟨j, by omega, hb⟩ h1
      subst hj
      refine ⟨j, h, ?_, hb⟩
      apply Nat.eq_of_testBit_eq
      intro i
      rw [Nat.testBit_mod_two_pow, Nat.zero_testBit]
      by_cases hi : i < j
      · have : n.testBit i = false := by
          rw [Nat.testBit_eq_decide_div_mod_eq]
          exact decide_eq_false (fun e => h1 ⟨i, hi, e⟩)
        rw [this, Bool.and_false]
      · simp [hi]
theorem Tz.bit {n k j : Nat} (h : Tz n k) (hj : j < k) : n / 2 ^ j % 2 = 0 := by
  have e := h.eq
  generalize n / 2 ^ k / 2 = m at e
  rw [e, tb, Nat.testBit_two_pow_mul]
  simp [show ¬ k ≤ j by omega]
theorem Tz.uniq {n k j : Nat} (h : Tz n k) (g : Tz n j) : k = j := by
  rcases Nat.lt_trichotomy k j with h1 | h1 | h1
  · have := g.bit h1
    have := h.2
    omega
  · exact h1
  · have := h.bit h1
    have := g.2
    omega

set_option maxRecDepth 100000 in
set_option maxHeartbeats 2000000 in
/-- static -/
theorem f_J6_numberOfTrailingZeros_0f7a4 (l : Launch) (D : va_G) (cy : Nat → ClassId) (nw : Nat) (S : PS) (n K : Nat) (hn : n < 2 ^ 32) (hK : K < 32) (hz : Tz n K) : kI l yJ6_numberOfTrailingZeros_0f7a4 wsJ6_numberOfTrailingZeros_0f7a4 0 0 D cy nw [.int (nI n)] S (fun r T => S = T ∧ r = nI K) 0 0 := by
  refine enterI (cc := cJ6_numberOfTrailingZeros_0f7a4) (nL := 2) (ret := (some .int)) (by decide +kernel) rfl (Nat.le_of_ble_eq_true rfl) ?_
  intro F Z hl hR hD hcy hnw hnm
  subst hl hD hcy hnw
  have hRf : F.R.frames = 0 := by rw [hR]
  have hRc : F.R.cells = 0 := by rw [hR]
  have hRs : F.R.slots = 0 := by rw [hR]
  have hRl : F.R.locals = 0 := by rw [hR]
  have ct264 : Cond.constant RJ6 264 (65536) ∈ wsJ6_numberOfTrailingZeros_0f7a4 := by decide +kernel
  have j74 : ∀ a k : Nat, 1 ≤ k → k ≤ 2 → a + k = K + 1 → G F 2 S 0 0 (QI F (fun r T => S = T ∧ r = nI K) 0 0) 74 [(0, .int (nI (2 ^ k - 1))), (1, .int (nI a))] [] := by
    intro a k hk1 hk2 hak
    have hpl : 2 ^ k - 1 < 2 ^ 2 := pw_lt hk2
    refine g_iload_n Z dJ6_numberOfTrailingZeros_0f7a4_74 rfl ?_
    refine g_iload_n Z dJ6_numberOfTrailingZeros_0f7a4_75 rfl ?_
    refine g_iconst (v := 1) Z dJ6_numberOfTrailingZeros_0f7a4_76 (by decide) ?_
    refine g_iushr Z dJ6_numberOfTrailingZeros_0f7a4_77 ?_
    rw [pk_ushrN (n := 2 ^ k - 1) (by omega) 1 1 (by decide)]
    refine g_iadd Z dJ6_numberOfTrailingZeros_0f7a4_78 ?_
    rw [nI_add]
    exact g_iret Z dJ6_numberOfTrailingZeros_0f7a4_79 (by omega) (by omega) (⟨rfl, congrArg nI (by rcases (show k = 1 ∨ k = 2 by omega) with rfl | rfl <;> simp <;> omega)⟩)
  have j62 : ∀ a k : Nat, 1 ≤ k → k ≤ 4 → a + k = K + 1 → G F 2 S 0 0 (QI F (fun r T => S = T ∧ r = nI K) 0 0) 62 [(0, .int (nI (2 ^ k - 1))), (1, .int (nI a))] [] := by
    intro a k hk1 hk2 hak
    have hpl : 2 ^ k - 1 < 2 ^ 4 := pw_lt hk2
    refine g_iload_n Z dJ6_numberOfTrailingZeros_0f7a4_62 rfl ?_
    refine g_iconst (v := 4) Z dJ6_numberOfTrailingZeros_0f7a4_63 (by decide) ?_
    refine g_icmp_le Z 74 dJ6_numberOfTrailingZeros_0f7a4_64 (by decide) (fun h64 => ?_) (fun h64 => ?_)
    · have hb2 : k ≤ 2 := pw_le (by decide) (le_t (N := 2 ^ 2) (by omega) (by decide) h64)
      first | exact g_lv (by (repeat (first | exact trivial | refine And.intro rfl ?_)); done) (j74 a k (by omega) (by omega) (by omega)) | exact g_lv (by (repeat (first | exact trivial | refine And.intro rfl ?_)); done) (j74 (a + 2) (k - 2) (by omega) (by omega) (by omega))
    · have hb2 : 2 < k := pw_gt (le_f (N := 2 ^ 2) (by omega) (by decide) h64)
      refine g_iinc (c := 2) Z dJ6_numberOfTrailingZeros_0f7a4_67 rfl (by decide) (by decide) ?_
      rw [show nI a + 2 = nI (a + 2) from nI_add a 2]
      refine g_iload_n Z dJ6_numberOfTrailingZeros_0f7a4_70 rfl ?_
      refine g_iconst (v := 2) Z dJ6_numberOfTrailingZeros_0f7a4_71 (by decide) ?_
      refine g_iushr Z dJ6_numberOfTrailingZeros_0f7a4_72 ?_
      rw [pk_ushrN (n := 2 ^ k - 1) (by omega) 2 2 (by decide), pw_div (by omega)]
      refine g_istore_n Z dJ6_numberOfTrailingZeros_0f7a4_73 (by decide) ?_
      first | exact g_lv (by (repeat (first | exact trivial | refine And.intro rfl ?_)); done) (j74 a k (by omega) (by omega) (by omega)) | exact g_lv (by (repeat (first | exact trivial | refine And.intro rfl ?_)); done) (j74 (a + 2) (k - 2) (by omega) (by omega) (by omega))
  have j49 : ∀ a k : Nat, 1 ≤ k → k ≤ 8 → a + k = K + 1 → G F 2 S 0 0 (QI F (fun r T => S = T ∧ r = nI K) 0 0) 49 [(0, .int (nI (2 ^ k - 1))), (1, .int (nI a))] [] := by
    intro a k hk1 hk2 hak
    have hpl : 2 ^ k - 1 < 2 ^ 8 := pw_lt hk2
    refine g_iload_n Z dJ6_numberOfTrailingZeros_0f7a4_49 rfl ?_
    refine g_bipush (v := 16) Z dJ6_numberOfTrailingZeros_0f7a4_50 (by decide) ?_
    refine g_icmp_le Z 62 dJ6_numberOfTrailingZeros_0f7a4_52 (by decide) (fun h52 => ?_) (fun h52 => ?_)
    · have hb2 : k ≤ 4 := pw_le (by decide) (le_t (N := 2 ^ 4) (by omega) (by decide) h52)
      first | exact g_lv (by (repeat (first | exact trivial | refine And.intro rfl ?_)); done) (j62 a k (by omega) (by omega) (by omega)) | exact g_lv (by (repeat (first | exact trivial | refine And.intro rfl ?_)); done) (j62 (a + 4) (k - 4) (by omega) (by omega) (by omega))
    · have hb2 : 4 < k := pw_gt (le_f (N := 2 ^ 4) (by omega) (by decide) h52)
      refine g_iinc (c := 4) Z dJ6_numberOfTrailingZeros_0f7a4_55 rfl (by decide) (by decide) ?_
      rw [show nI a + 4 = nI (a + 4) from nI_add a 4]
      refine g_iload_n Z dJ6_numberOfTrailingZeros_0f7a4_58 rfl ?_
      refine g_iconst (v := 4) Z dJ6_numberOfTrailingZeros_0f7a4_59 (by decide) ?_
      refine g_iushr Z dJ6_numberOfTrailingZeros_0f7a4_60 ?_
      rw [pk_ushrN (n := 2 ^ k - 1) (by omega) 4 4 (by decide), pw_div (by omega)]
      refine g_istore_n Z dJ6_numberOfTrailingZeros_0f7a4_61 (by decide) ?_
      first | exact g_lv (by (repeat (first | exact trivial | refine And.intro rfl ?_)); done) (j62 a k (by omega) (by omega) (by omega)) | exact g_lv (by (repeat (first | exact trivial | refine And.intro rfl ?_)); done) (j62 (a + 4) (k - 4) (by omega) (by omega) (by omega))
  have j34 : ∀ a k : Nat, 1 ≤ k → k ≤ 16 → a + k = K + 1 → G F 2 S 0 0 (QI F (fun r T => S = T ∧ r = nI K) 0 0) 34 [(0, .int (nI (2 ^ k - 1))), (1, .int (nI a))] [] := by
    intro a k hk1 hk2 hak
    have hpl : 2 ^ k - 1 < 2 ^ 16 := pw_lt hk2
    refine g_iload_n Z dJ6_numberOfTrailingZeros_0f7a4_34 rfl ?_
    refine g_sipush (v := 256) Z dJ6_numberOfTrailingZeros_0f7a4_35 (by decide) ?_
    refine g_icmp_le Z 49 dJ6_numberOfTrailingZeros_0f7a4_38 (by decide) (fun h38 => ?_) (fun h38 => ?_)
    · have hb2 : k ≤ 8 := pw_le (by decide) (le_t (N := 2 ^ 8) (by omega) (by decide) h38)
      first | exact g_lv (by (repeat (first | exact trivial | refine And.intro rfl ?_)); done) (j49 a k (by omega) (by omega) (by omega)) | exact g_lv (by (repeat (first | exact trivial | refine And.intro rfl ?_)); done) (j49 (a + 8) (k - 8) (by omega) (by omega) (by omega))
    · have hb2 : 8 < k := pw_gt (le_f (N := 2 ^ 8) (by omega) (by decide) h38)
      refine g_iinc (c := 8) Z dJ6_numberOfTrailingZeros_0f7a4_41 rfl (by decide) (by decide) ?_
      rw [show nI a + 8 = nI (a + 8) from nI_add a 8]
      refine g_iload_n Z dJ6_numberOfTrailingZeros_0f7a4_44 rfl ?_
      refine g_bipush (v := 8) Z dJ6_numberOfTrailingZeros_0f7a4_45 (by decide) ?_
      refine g_iushr Z dJ6_numberOfTrailingZeros_0f7a4_47 ?_
      rw [pk_ushrN (n := 2 ^ k - 1) (by omega) 8 8 (by decide), pw_div (by omega)]
      refine g_istore_n Z dJ6_numberOfTrailingZeros_0f7a4_48 (by decide) ?_
      first | exact g_lv (by (repeat (first | exact trivial | refine And.intro rfl ?_)); done) (j49 a k (by omega) (by omega) (by omega)) | exact g_lv (by (repeat (first | exact trivial | refine And.intro rfl ?_)); done) (j49 (a + 8) (k - 8) (by omega) (by omega) (by omega))
  have hpl : 2 ^ K - 1 < 2 ^ 31 := pw_lt (by omega)
  refine g_iload_n Z dJ6_numberOfTrailingZeros_0f7a4_0 rfl ?_
  refine g_iconst (v := (-1)) Z dJ6_numberOfTrailingZeros_0f7a4_1 (by decide) ?_
  refine g_ixor Z dJ6_numberOfTrailingZeros_0f7a4_2 ?_
  refine g_iload_n Z dJ6_numberOfTrailingZeros_0f7a4_3 rfl ?_
  refine g_iconst (v := 1) Z dJ6_numberOfTrailingZeros_0f7a4_4 (by decide) ?_
  refine g_isub Z dJ6_numberOfTrailingZeros_0f7a4_5 ?_
  refine g_iand Z dJ6_numberOfTrailingZeros_0f7a4_6 ?_
  rw [hz.i32 hK hn]
  refine g_istore_n Z dJ6_numberOfTrailingZeros_0f7a4_7 (by decide) ?_
  refine g_iload_n Z dJ6_numberOfTrailingZeros_0f7a4_8 rfl ?_
  refine g_if_gt Z 17 dJ6_numberOfTrailingZeros_0f7a4_9 (by decide) (fun h9 => ?_) (fun h9 => ?_)
  · have hK1 : 1 ≤ K := Nat.pos_of_ne_zero (fun e => by subst e; exact absurd h9 (by decide))
    refine g_iconst (v := 1) Z dJ6_numberOfTrailingZeros_0f7a4_17 (by decide) ?_
    refine g_istore_n Z dJ6_numberOfTrailingZeros_0f7a4_18 (by decide) ?_
    refine g_iload_n Z dJ6_numberOfTrailingZeros_0f7a4_19 rfl ?_
    refine g_ldcw (v := 65536) Z dJ6_numberOfTrailingZeros_0f7a4_20 ct264 ?_
    refine g_icmp_le Z 34 dJ6_numberOfTrailingZeros_0f7a4_23 (by decide) (fun h23 => ?_) (fun h23 => ?_)
    · have hb2 : K ≤ 16 := pw_le (by decide) (le_t (N := 2 ^ 16) hpl (by decide) h23)
      first | exact g_lv (by (repeat (first | exact trivial | refine And.intro rfl ?_)); done) (j34 1 K (by omega) (by omega) (by omega)) | exact g_lv (by (repeat (first | exact trivial | refine And.intro rfl ?_)); done) (j34 17 (K - 16) (by omega) (by omega) (by omega))
    · have hb2 : 16 < K := pw_gt (le_f (N := 2 ^ 16) hpl (by decide) h23)
      refine g_iinc (c := 16) Z dJ6_numberOfTrailingZeros_0f7a4_26 rfl (by decide) (by decide) ?_
      rw [show (1 : Int32) + 16 = nI 17 from rfl]
      refine g_iload_n Z dJ6_numberOfTrailingZeros_0f7a4_29 rfl ?_
      refine g_bipush (v := 16) Z dJ6_numberOfTrailingZeros_0f7a4_30 (by decide) ?_
      refine g_iushr Z dJ6_numberOfTrailingZeros_0f7a4_32 ?_
      rw [pk_ushrN (n := 2 ^ K - 1) (by omega) 16 16 (by decide), pw_div (by omega)]
      refine g_istore_n Z dJ6_numberOfTrailingZeros_0f7a4_33 (by decide) ?_
      first | exact g_lv (by (repeat (first | exact trivial | refine And.intro rfl ?_)); done) (j34 1 K (by omega) (by omega) (by omega)) | exact g_lv (by (repeat (first | exact trivial | refine And.intro rfl ?_)); done) (j34 17 (K - 16) (by omega) (by omega) (by omega))
  · have hK0 : K = 0 := Nat.eq_zero_of_not_pos (fun hp0 => h9 ((nI_ltI (a := 0) (b := 2 ^ K - 1) (by decide) hpl).mpr (by have : 2 ^ 1 ≤ 2 ^ K := Nat.pow_le_pow_right (by decide) hp0; omega)))
    subst hK0
    refine g_iload_n Z dJ6_numberOfTrailingZeros_0f7a4_12 rfl ?_
    refine g_bipush (v := 32) Z dJ6_numberOfTrailingZeros_0f7a4_13 (by decide) ?_
    refine g_iand Z dJ6_numberOfTrailingZeros_0f7a4_15 ?_
    exact g_iret Z dJ6_numberOfTrailingZeros_0f7a4_16 (by omega) (by omega) (⟨rfl, rfl⟩)

theorem Tz.lo {n k N : Nat} (h : Tz n k) (hk : k < N) : Tz (n % 2 ^ N) k := by
  have e : ∀ i, n % 2 ^ N / 2 ^ i % 2 = if i < N then n / 2 ^ i % 2 else 0 := by
    intro i
    rw [tb, tb, Nat.testBit_mod_two_pow]
    by_cases hi : i < N
    · simp [hi]
    · simp [hi]
  refine ⟨?_, by rw [e, if_pos hk]; exact h.2⟩
  have h3 := h.1
  rw [wb_pw (Nat.le_of_lt hk), Nat.mod_mul_right_mod]
  exact h3
theorem Tz.hi {n k N : Nat} (h : Tz n k) (hk : N ≤ k) : n % 2 ^ N = 0 ∧ Tz (n / 2 ^ N) (k - N) := by
  have e := h.eq
  generalize hm : n / 2 ^ k / 2 = m at e
  have e2 : n = 2 ^ N * (2 ^ (k - N) * (2 * m + 1)) := by rw [← Nat.mul_assoc, ← wb_pw hk]; exact e
  have hp := pw_pos N
  have hq := pw_pos (k - N)
  refine ⟨by rw [e2]; exact Nat.mul_mod_right _ _, ?_⟩
  rw [e2, Nat.mul_div_cancel_left _ hp]
  refine ⟨Nat.mul_mod_right _ _, ?_⟩
  rw [Nat.mul_div_cancel_left _ hq]
  omega
theorem nI_mod (n : Nat) : nI n = nI (n % 2 ^ 32) := by
  apply Int32.toBitVec_inj.mp
  apply BitVec.eq_of_toNat_eq
  show (BitVec.ofNat 32 n).toNat = (BitVec.ofNat 32 (n % 2 ^ 32)).toNat
  rw [BitVec.toNat_ofNat, BitVec.toNat_ofNat, Nat.mod_mod]
theorem nI_z {n : Nat} (hn : n < 2 ^ 32) (h : nI n = 0) : n = 0 := by
  have h2 : (nI n).toBitVec.toNat = (0 : Int32).toBitVec.toNat := by rw [h]
  rw [pk_tn hn] at h2
  exact h2

set_option maxRecDepth 100000 in
set_option maxHeartbeats 2000000 in
/-- static -/
theorem f_J13_numberOfTrailingZeros_95d88 (l : Launch) (D : va_G) (cy : Nat → ClassId) (nw : Nat) (S : PS) (x : Int64) (K : Nat) (hK : K < 64) (hz : Tz (wv x) K) : kI l yJ13_numberOfTrailingZeros_95d88 wsJ13_numberOfTrailingZeros_95d88 1 21 D cy nw [.long x] S (fun r T => S = T ∧ r = nI K) 0 0 := by
  refine enterI (cc := cJ13_numberOfTrailingZeros_95d88) (nL := 3) (ret := (some .int)) (by decide +kernel) rfl (Nat.le_of_ble_eq_true rfl) ?_
  intro F Z hl hR hD hcy hnw hnm
  subst hl hD hcy hnw
  have hRf : F.R.frames = 1 := by rw [hR]
  have hRc : F.R.cells = 0 := by rw [hR]
  have hRs : F.R.slots = 0 := by rw [hR]
  have hRl : F.R.locals = 21 := by rw [hR]
  obtain ⟨n, hn, rfl⟩ := wb_of x
  rw [wv_lN hn] at hz
  refine g_lload_n Z dJ13_numberOfTrailingZeros_95d88_0 rfl ?_
  refine g_l2i Z dJ13_numberOfTrailingZeros_95d88_1 ?_
  rw [lN_i]
  refine g_istore_n Z dJ13_numberOfTrailingZeros_95d88_2 (by decide) ?_
  refine g_iload_n Z dJ13_numberOfTrailingZeros_95d88_3 rfl ?_
  refine g_if_ne Z 21 dJ13_numberOfTrailingZeros_95d88_4 (by decide) (fun h4 => ?_) (fun h4 => ?_)
  · have hk3 : K < 32 := Nat.lt_of_not_le (fun q => h4 (by rw [nI_mod, (hz.hi q).1]; rfl))
    refine g_iload_n Z dJ13_numberOfTrailingZeros_95d88_21 rfl ?_
    rw [nI_mod n]
    refine g_csI Z (f_J6_numberOfTrailingZeros_0f7a4 F.l F.D F.cy F.nw S (n % 2 ^ 32) K (Nat.mod_lt _ (by decide)) hk3 (hz.lo hk3)) 1 gJ13_numberOfTrailingZeros_95d88_J6_numberOfTrailingZeros_0f7a4 rfl (by decide +kernel) (by rw [hRf, hRl]; decide) rfl rfl (Nat.le_of_ble_eq_true rfl) dJ13_numberOfTrailingZeros_95d88_22 (by rw [hRc, hRs]; omega) (fun r T hp => ?_)
    obtain ⟨rfl, rfl⟩ := hp
    exact g_iret Z dJ13_numberOfTrailingZeros_95d88_25 (by omega) (by omega) (⟨rfl, rfl⟩)
  · have hk3 : 32 ≤ K := Nat.le_of_not_lt (fun q => absurd (hz.lo q).pos (by rw [nI_z (Nat.mod_lt _ (by decide)) ((nI_mod n).symm.trans h4)]; decide))
    refine g_bipush (v := 32) Z dJ13_numberOfTrailingZeros_95d88_7 (by decide) ?_
    refine g_lload_n Z dJ13_numberOfTrailingZeros_95d88_9 rfl ?_
    refine g_bipush (v := 32) Z dJ13_numberOfTrailingZeros_95d88_10 (by decide) ?_
    refine g_lushr Z dJ13_numberOfTrailingZeros_95d88_12 ?_
    rw [show ((lN n).toUInt64 >>> ((32 : Int32).toInt64.toUInt64 &&& Int64.toUInt64 63)).toInt64 = lN (n / 2 ^ 32) from lsr_n hn 32 (by decide)]
    refine g_l2i Z dJ13_numberOfTrailingZeros_95d88_13 ?_
    rw [lN_i]
    refine g_csI Z (f_J6_numberOfTrailingZeros_0f7a4 F.l F.D F.cy F.nw S (n / 2 ^ 32) (K - 32) (by omega) (by omega) (hz.hi hk3).2) 1 gJ13_numberOfTrailingZeros_95d88_J6_numberOfTrailingZeros_0f7a4 rfl (by decide +kernel) (by rw [hRf, hRl]; decide) rfl rfl (Nat.le_of_ble_eq_true rfl) dJ13_numberOfTrailingZeros_95d88_14 (by rw [hRc, hRs]; omega) (fun r T hp => ?_)
    obtain ⟨rfl, rfl⟩ := hp
    refine g_iadd Z dJ13_numberOfTrailingZeros_95d88_17 ?_
    rw [show (32 : Int32) + nI (K - 32) = nI K from (nI_add 32 _).trans (congrArg nI (by omega))]
    refine g_goto Z 25 dJ13_numberOfTrailingZeros_95d88_18 (by decide) ?_
    exact g_iret Z dJ13_numberOfTrailingZeros_95d88_25 (by omega) (by omega) (⟨rfl, rfl⟩)
