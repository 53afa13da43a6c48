abbrev lsr (x : Int64) (k : Int32) : Int64 := (x.toUInt64 >>> (k.toInt64.toUInt64 &&& Int64.toUInt64 63)).toInt64
def bc1 (x : Int64) : Int64 := x - (lsr x 1 &&& 6148914691236517205)
def bc2 (x : Int64) : Int64 := (x &&& 3689348814741910323) + (lsr x 2 &&& 3689348814741910323)
def bc3 (x : Int64) : Int64 := (x + lsr x 4) &&& 1085102592571150095
/-- what Long.bitCount answers, as it is worked out -/
def bcF (x : Int64) : Int32 :=
  let d := bc3 (bc2 (bc1 x)) + lsr (bc3 (bc2 (bc1 x))) 8
  let e := d + lsr d 16
  (e + lsr e 32).toInt32 &&& 127
theorem i32_and (x : Int32) (m : Nat) (hm : m < 2 ^ 32) : ∃ j, j ≤ m ∧ x &&& nI m = nI j := by
  refine ⟨x.toBitVec.toNat &&& m, Nat.and_le_right, ?_⟩
  apply Int32.toBitVec_inj.mp
  apply BitVec.eq_of_toNat_eq
  rw [pk_tn (Nat.lt_of_le_of_lt Nat.and_le_right hm), Int32.toBitVec_and, BitVec.toNat_and, pk_tn hm]

set_option maxRecDepth 100000 in
set_option maxHeartbeats 4000000 in
/-- static -/
theorem c_J13_bitCount_95d88 (l : Launch) (D : va_G) (cy : Nat → ClassId) (nw : Nat) (S : PS) (x : Int64) : kI l yJ13_bitCount_95d88 wsJ13_bitCount_95d88 0 0 D cy nw [.long x] S (fun r T => S = T ∧ r = bcF x) 0 0 := by
  refine enterI (cc := cJ13_bitCount_95d88) (nL := 2) (ret := (some .int)) (by decide +kernel) rfl (Nat.le_of_ble_eq_true rfl) ?_
  intro F Z hl hR hD hcy hnw hnm
  subst hl hD hcy hnw
  have hRf : F.R.frames = 0 := by rw [hR]
  have hRc : F.R.cells = 0 := by rw [hR]
  have hRs : F.R.slots = 0 := by rw [hR]
  have hRl : F.R.locals = 0 := by rw [hR]
  have ct314 : Cond.constantLong RJ13 314 (6148914691236517205) ∈ wsJ13_bitCount_95d88 := by decide +kernel
  have ct316 : Cond.constantLong RJ13 316 (3689348814741910323) ∈ wsJ13_bitCount_95d88 := by decide +kernel
  have ct318 : Cond.constantLong RJ13 318 (1085102592571150095) ∈ wsJ13_bitCount_95d88 := by decide +kernel
  refine g_lload_n Z dJ13_bitCount_95d88_0 rfl ?_
  refine g_lload_n Z dJ13_bitCount_95d88_1 rfl ?_
  refine g_iconst (v := 1) Z dJ13_bitCount_95d88_2 (by decide) ?_
  refine g_lushr Z dJ13_bitCount_95d88_3 ?_
  refine g_ldc2 (v := 6148914691236517205) Z dJ13_bitCount_95d88_4 ct314 ?_
  refine g_land Z dJ13_bitCount_95d88_7 ?_
  refine g_lsub Z dJ13_bitCount_95d88_8 ?_
  refine g_lstore_n Z dJ13_bitCount_95d88_9 (by decide) ?_
  refine g_lload_n Z dJ13_bitCount_95d88_10 rfl ?_
  refine g_ldc2 (v := 3689348814741910323) Z dJ13_bitCount_95d88_11 ct316 ?_
  refine g_land Z dJ13_bitCount_95d88_14 ?_
  refine g_lload_n Z dJ13_bitCount_95d88_15 rfl ?_
  refine g_iconst (v := 2) Z dJ13_bitCount_95d88_16 (by decide) ?_
  refine g_lushr Z dJ13_bitCount_95d88_17 ?_
  refine g_ldc2 (v := 3689348814741910323) Z dJ13_bitCount_95d88_18 ct316 ?_
  refine g_land Z dJ13_bitCount_95d88_21 ?_
  refine g_ladd Z dJ13_bitCount_95d88_22 ?_
  refine g_lstore_n Z dJ13_bitCount_95d88_23 (by decide) ?_
  refine g_lload_n Z dJ13_bitCount_95d88_24 rfl ?_
  refine g_lload_n Z dJ13_bitCount_95d88_25 rfl ?_
  refine g_iconst (v := 4) Z dJ13_bitCount_95d88_26 (by decide) ?_
  refine g_lushr Z dJ13_bitCount_95d88_27 ?_
  refine g_ladd Z dJ13_bitCount_95d88_28 ?_
  refine g_ldc2 (v := 1085102592571150095) Z dJ13_bitCount_95d88_29 ct318 ?_
  refine g_land Z dJ13_bitCount_95d88_32 ?_
  refine g_lstore_n Z dJ13_bitCount_95d88_33 (by decide) ?_
  refine g_lload_n Z dJ13_bitCount_95d88_34 rfl ?_
  refine g_lload_n Z dJ13_bitCount_95d88_35 rfl ?_
  refine g_bipush (v := 8) Z dJ13_bitCount_95d88_36 (by decide) ?_
  refine g_lushr Z dJ13_bitCount_95d88_38 ?_
  refine g_ladd Z dJ13_bitCount_95d88_39 ?_
  refine g_lstore_n Z dJ13_bitCount_95d88_40 (by decide) ?_
  refine g_lload_n Z dJ13_bitCount_95d88_41 rfl ?_
  refine g_lload_n Z dJ13_bitCount_95d88_42 rfl ?_
  refine g_bipush (v := 16) Z dJ13_bitCount_95d88_43 (by decide) ?_
  refine g_lushr Z dJ13_bitCount_95d88_45 ?_
  refine g_ladd Z dJ13_bitCount_95d88_46 ?_
  refine g_lstore_n Z dJ13_bitCount_95d88_47 (by decide) ?_
  refine g_lload_n Z dJ13_bitCount_95d88_48 rfl ?_
  refine g_lload_n Z dJ13_bitCount_95d88_49 rfl ?_
  refine g_bipush (v := 32) Z dJ13_bitCount_95d88_50 (by decide) ?_
  refine g_lushr Z dJ13_bitCount_95d88_52 ?_
  refine g_ladd Z dJ13_bitCount_95d88_53 ?_
  refine g_lstore_n Z dJ13_bitCount_95d88_54 (by decide) ?_
  refine g_lload_n Z dJ13_bitCount_95d88_55 rfl ?_
  refine g_l2i Z dJ13_bitCount_95d88_56 ?_
  refine g_bipush (v := 127) Z dJ13_bitCount_95d88_57 (by decide) ?_
  refine g_iand Z dJ13_bitCount_95d88_59 ?_
  exact g_iret Z dJ13_bitCount_95d88_60 (by omega) (by omega) (⟨rfl, rfl⟩)

theorem le_t {i N : Nat} (hi : i < 2 ^ 31) (hN : N < 2 ^ 31) (h : nI i ≤ nI N) : i ≤ N := (nI_leI hi hN).mp h
theorem le_f {i N : Nat} (hi : i < 2 ^ 31) (hN : N < 2 ^ 31) (h : ¬ nI i ≤ nI N) : N < i := Nat.not_le.mp fun q => h ((nI_leI hi hN).mpr q)

set_option maxRecDepth 100000 in
set_option maxHeartbeats 4000000 in
/-- static -/
theorem c_J6_numberOfTrailingZeros_0f7a4 (l : Launch) (D : va_G) (cy : Nat → ClassId) (nw : Nat) (S : PS) (x : Int32) : kI l yJ6_numberOfTrailingZeros_0f7a4 wsJ6_numberOfTrailingZeros_0f7a4 0 0 D cy nw [.int x] S (fun r T => S = T ∧ ∃ n : Nat, n ≤ 34 ∧ r = nI n) 0 0 := by
  refine enterI (cc := cJ6_numberOfTrailingZeros_0f7a4) (nL := 2) (ret := (some .int)) (by decide +kernel) rfl (Nat.le_of_ble_eq_true rfl) ?_
  intro F Z hl hR hD hcy hnw hnm
  subst hl hD hcy hnw
  have hRf : F.R.frames = 0 := by rw [hR]
  have hRc : F.R.cells = 0 := by rw [hR]
  have hRs : F.R.slots = 0 := by rw [hR]
  have hRl : F.R.locals = 0 := by rw [hR]
  have ct264 : Cond.constant RJ6 264 (65536) ∈ wsJ6_numberOfTrailingZeros_0f7a4 := by decide +kernel
  have j74 : ∀ a b : Nat, a ≤ 31 → b ≤ 4 → G F 2 S 0 0 (QI F (fun r T => S = T ∧ ∃ n : Nat, n ≤ 34 ∧ r = nI n) 0 0) 74 [(0, .int (nI b)), (1, .int (nI a))] [] := by
    intro a b ha hb
    refine g_iload_n Z dJ6_numberOfTrailingZeros_0f7a4_74 rfl ?_
    refine g_iload_n Z dJ6_numberOfTrailingZeros_0f7a4_75 rfl ?_
    refine g_iconst (v := 1) Z dJ6_numberOfTrailingZeros_0f7a4_76 (by decide) ?_
    refine g_iushr Z dJ6_numberOfTrailingZeros_0f7a4_77 ?_
    rw [pk_ushrN (n := b) (by omega) 1 1 (by decide)]
    refine g_iadd Z dJ6_numberOfTrailingZeros_0f7a4_78 ?_
    rw [nI_add]
    exact g_iret Z dJ6_numberOfTrailingZeros_0f7a4_79 (by omega) (by omega) (⟨rfl, _, (by omega), rfl⟩)
  have j62 : ∀ a b : Nat, a ≤ 29 → b ≤ 16 → G F 2 S 0 0 (QI F (fun r T => S = T ∧ ∃ n : Nat, n ≤ 34 ∧ r = nI n) 0 0) 62 [(0, .int (nI b)), (1, .int (nI a))] [] := by
    intro a b ha hb
    refine g_iload_n Z dJ6_numberOfTrailingZeros_0f7a4_62 rfl ?_
    refine g_iconst (v := 4) Z dJ6_numberOfTrailingZeros_0f7a4_63 (by decide) ?_
    refine g_icmp_le Z 74 dJ6_numberOfTrailingZeros_0f7a4_64 (by decide) (fun h64 => ?_) (fun h64 => ?_)
    · have hb2 : b ≤ 4 := le_t (by omega) (by decide) h64
      first | exact g_lv (by repeat (first | exact trivial | refine And.intro rfl ?_)) (j74 a b (by omega) (by omega)) | exact g_lv (by repeat (first | exact trivial | refine And.intro rfl ?_)) (j74 (a + 2) (b / 2 ^ 2) (by omega) (by omega))
    · refine g_iinc (c := 2) Z dJ6_numberOfTrailingZeros_0f7a4_67 rfl (by decide) (by decide) ?_
      rw [show nI a + 2 = nI (a + 2) from nI_add a 2]
      refine g_iload_n Z dJ6_numberOfTrailingZeros_0f7a4_70 rfl ?_
      refine g_iconst (v := 2) Z dJ6_numberOfTrailingZeros_0f7a4_71 (by decide) ?_
      refine g_iushr Z dJ6_numberOfTrailingZeros_0f7a4_72 ?_
      rw [pk_ushrN (n := b) (by omega) 2 2 (by decide)]
      refine g_istore_n Z dJ6_numberOfTrailingZeros_0f7a4_73 (by decide) ?_
      first | exact g_lv (by repeat (first | exact trivial | refine And.intro rfl ?_)) (j74 a b (by omega) (by omega)) | exact g_lv (by repeat (first | exact trivial | refine And.intro rfl ?_)) (j74 (a + 2) (b / 2 ^ 2) (by omega) (by omega))
  have j49 : ∀ a b : Nat, a ≤ 25 → b ≤ 256 → G F 2 S 0 0 (QI F (fun r T => S = T ∧ ∃ n : Nat, n ≤ 34 ∧ r = nI n) 0 0) 49 [(0, .int (nI b)), (1, .int (nI a))] [] := by
    intro a b ha hb
    refine g_iload_n Z dJ6_numberOfTrailingZeros_0f7a4_49 rfl ?_
    refine g_bipush (v := 16) Z dJ6_numberOfTrailingZeros_0f7a4_50 (by decide) ?_
    refine g_icmp_le Z 62 dJ6_numberOfTrailingZeros_0f7a4_52 (by decide) (fun h52 => ?_) (fun h52 => ?_)
    · have hb2 : b ≤ 16 := le_t (by omega) (by decide) h52
      first | exact g_lv (by repeat (first | exact trivial | refine And.intro rfl ?_)) (j62 a b (by omega) (by omega)) | exact g_lv (by repeat (first | exact trivial | refine And.intro rfl ?_)) (j62 (a + 4) (b / 2 ^ 4) (by omega) (by omega))
    · refine g_iinc (c := 4) Z dJ6_numberOfTrailingZeros_0f7a4_55 rfl (by decide) (by decide) ?_
      rw [show nI a + 4 = nI (a + 4) from nI_add a 4]
      refine g_iload_n Z dJ6_numberOfTrailingZeros_0f7a4_58 rfl ?_
      refine g_iconst (v := 4) Z dJ6_numberOfTrailingZeros_0f7a4_59 (by decide) ?_
      refine g_iushr Z dJ6_numberOfTrailingZeros_0f7a4_60 ?_
      rw [pk_ushrN (n := b) (by omega) 4 4 (by decide)]
      refine g_istore_n Z dJ6_numberOfTrailingZeros_0f7a4_61 (by decide) ?_
      first | exact g_lv (by repeat (first | exact trivial | refine And.intro rfl ?_)) (j62 a b (by omega) (by omega)) | exact g_lv (by repeat (first | exact trivial | refine And.intro rfl ?_)) (j62 (a + 4) (b / 2 ^ 4) (by omega) (by omega))
  have j34 : ∀ a b : Nat, a ≤ 17 → b ≤ 65536 → G F 2 S 0 0 (QI F (fun r T => S = T ∧ ∃ n : Nat, n ≤ 34 ∧ r = nI n) 0 0) 34 [(0, .int (nI b)), (1, .int (nI a))] [] := by
    intro a b ha hb
    refine g_iload_n Z dJ6_numberOfTrailingZeros_0f7a4_34 rfl ?_
    refine g_sipush (v := 256) Z dJ6_numberOfTrailingZeros_0f7a4_35 (by decide) ?_
    refine g_icmp_le Z 49 dJ6_numberOfTrailingZeros_0f7a4_38 (by decide) (fun h38 => ?_) (fun h38 => ?_)
    · have hb2 : b ≤ 256 := le_t (by omega) (by decide) h38
      first | exact g_lv (by repeat (first | exact trivial | refine And.intro rfl ?_)) (j49 a b (by omega) (by omega)) | exact g_lv (by repeat (first | exact trivial | refine And.intro rfl ?_)) (j49 (a + 8) (b / 2 ^ 8) (by omega) (by omega))
    · refine g_iinc (c := 8) Z dJ6_numberOfTrailingZeros_0f7a4_41 rfl (by decide) (by decide) ?_
      rw [show nI a + 8 = nI (a + 8) from nI_add a 8]
      refine g_iload_n Z dJ6_numberOfTrailingZeros_0f7a4_44 rfl ?_
      refine g_bipush (v := 8) Z dJ6_numberOfTrailingZeros_0f7a4_45 (by decide) ?_
      refine g_iushr Z dJ6_numberOfTrailingZeros_0f7a4_47 ?_
      rw [pk_ushrN (n := b) (by omega) 8 8 (by decide)]
      refine g_istore_n Z dJ6_numberOfTrailingZeros_0f7a4_48 (by decide) ?_
      first | exact g_lv (by repeat (first | exact trivial | refine And.intro rfl ?_)) (j49 a b (by omega) (by omega)) | exact g_lv (by repeat (first | exact trivial | refine And.intro rfl ?_)) (j49 (a + 8) (b / 2 ^ 8) (by omega) (by omega))
  refine g_iload_n Z dJ6_numberOfTrailingZeros_0f7a4_0 rfl ?_
  refine g_iconst (v := (-1)) Z dJ6_numberOfTrailingZeros_0f7a4_1 (by decide) ?_
  refine g_ixor Z dJ6_numberOfTrailingZeros_0f7a4_2 ?_
  refine g_iload_n Z dJ6_numberOfTrailingZeros_0f7a4_3 rfl ?_
  refine g_iconst (v := 1) Z dJ6_numberOfTrailingZeros_0f7a4_4 (by decide) ?_
  refine g_isub Z dJ6_numberOfTrailingZeros_0f7a4_5 ?_
  refine g_iand Z dJ6_numberOfTrailingZeros_0f7a4_6 ?_
  refine g_istore_n Z dJ6_numberOfTrailingZeros_0f7a4_7 (by decide) ?_
  refine g_iload_n Z dJ6_numberOfTrailingZeros_0f7a4_8 rfl ?_
  refine g_if_gt Z 17 dJ6_numberOfTrailingZeros_0f7a4_9 (by decide) (fun h9 => ?_) (fun h9 => ?_)
  · obtain ⟨j, hj, ej⟩ : ∃ j : Nat, j < 2 ^ 31 ∧ (x ^^^ -1) &&& (x - 1) = nI j := nI_of (fun h => absurd h9 (fun h' => Int32.lt_irrefl (Int32.lt_trans h' h)))
    refine g_iconst (v := 1) Z dJ6_numberOfTrailingZeros_0f7a4_17 (by decide) ?_
    refine g_istore_n Z dJ6_numberOfTrailingZeros_0f7a4_18 (by decide) ?_
    refine g_iload_n Z dJ6_numberOfTrailingZeros_0f7a4_19 rfl ?_
    refine g_ldcw (v := 65536) Z dJ6_numberOfTrailingZeros_0f7a4_20 ct264 ?_
    refine g_icmp_le Z 34 dJ6_numberOfTrailingZeros_0f7a4_23 (by decide) (fun h23 => ?_) (fun h23 => ?_)
    · first | (rw [ej] at *; exact g_lv (by repeat (first | exact trivial | refine And.intro rfl ?_)) (j34 1 j (by omega) (le_t (by omega) (by decide) h23))) | exact g_lv (by repeat (first | exact trivial | refine And.intro rfl ?_)) (j34 17 (j / 2 ^ 16) (by omega) (by omega))
    · refine g_iinc (c := 16) Z dJ6_numberOfTrailingZeros_0f7a4_26 rfl (by decide) (by decide) ?_
      rw [show (1 : Int32) + 16 = nI 17 from rfl]
      refine g_iload_n Z dJ6_numberOfTrailingZeros_0f7a4_29 rfl ?_
      refine g_bipush (v := 16) Z dJ6_numberOfTrailingZeros_0f7a4_30 (by decide) ?_
      refine g_iushr Z dJ6_numberOfTrailingZeros_0f7a4_32 ?_
      rw [ej, pk_ushrN (n := j) (by omega) 16 16 (by decide)]
      refine g_istore_n Z dJ6_numberOfTrailingZeros_0f7a4_33 (by decide) ?_
      first | (rw [ej] at *; exact g_lv (by repeat (first | exact trivial | refine And.intro rfl ?_)) (j34 1 j (by omega) (le_t (by omega) (by decide) h23))) | exact g_lv (by repeat (first | exact trivial | refine And.intro rfl ?_)) (j34 17 (j / 2 ^ 16) (by omega) (by omega))
  · refine g_iload_n Z dJ6_numberOfTrailingZeros_0f7a4_12 rfl ?_
    refine g_bipush (v := 32) Z dJ6_numberOfTrailingZeros_0f7a4_13 (by decide) ?_
    refine g_iand Z dJ6_numberOfTrailingZeros_0f7a4_15 ?_
    obtain ⟨j, hj, ej⟩ := i32_and ((x ^^^ -1) &&& (x - 1)) 32 (by decide)
    exact g_iret Z dJ6_numberOfTrailingZeros_0f7a4_16 (by omega) (by omega) (⟨rfl, j, by omega, ej⟩)

set_option maxRecDepth 100000 in
set_option maxHeartbeats 4000000 in
/-- static -/
theorem c_J13_numberOfTrailingZeros_95d88 (l : Launch) (D : va_G) (cy : Nat → ClassId) (nw : Nat) (S : PS) (x : Int64) : kI l yJ13_numberOfTrailingZeros_95d88 wsJ13_numberOfTrailingZeros_95d88 1 21 D cy nw [.long x] S (fun r T => S = T ∧ ∃ n : Nat, n ≤ 66 ∧ r = nI n) 0 0 := by
  refine enterI (cc := cJ13_numberOfTrailingZeros_95d88) (nL := 3) (ret := (some .int)) (by decide +kernel) rfl (Nat.le_of_ble_eq_true rfl) ?_
  intro F Z hl hR hD hcy hnw hnm
  subst hl hD hcy hnw
  have hRf : F.R.frames = 1 := by rw [hR]
  have hRc : F.R.cells = 0 := by rw [hR]
  have hRs : F.R.slots = 0 := by rw [hR]
  have hRl : F.R.locals = 21 := by rw [hR]
  refine g_lload_n Z dJ13_numberOfTrailingZeros_95d88_0 rfl ?_
  refine g_l2i Z dJ13_numberOfTrailingZeros_95d88_1 ?_
  refine g_istore_n Z dJ13_numberOfTrailingZeros_95d88_2 (by decide) ?_
  refine g_iload_n Z dJ13_numberOfTrailingZeros_95d88_3 rfl ?_
  refine g_if_ne Z 21 dJ13_numberOfTrailingZeros_95d88_4 (by decide) (fun h4 => ?_) (fun h4 => ?_)
  · refine g_iload_n Z dJ13_numberOfTrailingZeros_95d88_21 rfl ?_
    refine g_csI Z (c_J6_numberOfTrailingZeros_0f7a4 F.l F.D F.cy F.nw _ _) 1 gJ13_numberOfTrailingZeros_95d88_J6_numberOfTrailingZeros_0f7a4 rfl (by decide +kernel) (by rw [hRf, hRl]; decide) rfl rfl (Nat.le_of_ble_eq_true rfl) dJ13_numberOfTrailingZeros_95d88_22 (by rw [hRc, hRs]; omega) (fun r T hp => ?_)
    obtain ⟨rfl, n, hn, rfl⟩ := hp
    exact g_iret Z dJ13_numberOfTrailingZeros_95d88_25 (by omega) (by omega) (⟨rfl, _, (by omega), rfl⟩)
  · refine g_bipush (v := 32) Z dJ13_numberOfTrailingZeros_95d88_7 (by decide) ?_
    refine g_lload_n Z dJ13_numberOfTrailingZeros_95d88_9 rfl ?_
    refine g_bipush (v := 32) Z dJ13_numberOfTrailingZeros_95d88_10 (by decide) ?_
    refine g_lushr Z dJ13_numberOfTrailingZeros_95d88_12 ?_
    refine g_l2i Z dJ13_numberOfTrailingZeros_95d88_13 ?_
    refine g_csI Z (c_J6_numberOfTrailingZeros_0f7a4 F.l F.D F.cy F.nw _ _) 1 gJ13_numberOfTrailingZeros_95d88_J6_numberOfTrailingZeros_0f7a4 rfl (by decide +kernel) (by rw [hRf, hRl]; decide) rfl rfl (Nat.le_of_ble_eq_true rfl) dJ13_numberOfTrailingZeros_95d88_14 (by rw [hRc, hRs]; omega) (fun r T hp => ?_)
    obtain ⟨rfl, n, hn, rfl⟩ := hp
    refine g_iadd Z dJ13_numberOfTrailingZeros_95d88_17 ?_
    rw [show (32 : Int32) + nI n = nI (32 + n) from nI_add 32 n]
    refine g_goto Z 25 dJ13_numberOfTrailingZeros_95d88_18 (by decide) ?_
    exact g_iret Z dJ13_numberOfTrailingZeros_95d88_25 (by omega) (by omega) (⟨rfl, _, (by omega), rfl⟩)

theorem rowJ_rowJ (S : PS) (w : Nat) (f g : Nat → Int64) : (S.rowJ w f).rowJ w g = S.rowJ w g := by
  show (_, _, _, _, _, _, va_up (va_up S.rj w f) w g, _) = (_, _, _, _, _, _, va_up S.rj w g, _)
  rw [bx_uu]
theorem va_up_get {α : Type} (f : Nat → α) (k : Nat) : va_up f k (f k) = f := by
  funext j
  unfold va_up
  by_cases h : j = k
  · rw [if_pos h, h]
  · rw [if_neg h]
theorem rowJ_self (S : PS) (w : Nat) : S = S.rowJ w (S.rj w) := by
  show S = (S.L, S.K, S.fi, S.fr, S.ln, S.ri, va_up S.rj w (S.rj w), S.rr)
  rw [va_up_get]

