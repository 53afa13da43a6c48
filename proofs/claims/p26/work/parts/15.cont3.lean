set_option maxRecDepth 100000 in
set_option maxHeartbeats 4000000 in
/-- how many lows are not above one -/
theorem c_X1_lowsUpTo (l : Launch) (D : va_G) (cy : Nat → ClassId) (nw : Nat) (S : PS) (c : Nat) (hc : Cr S c) (i : Nat) (hi : i < 65536) : kI l yX1_lowsUpTo wsX1_lowsUpTo 1 21 D cy nw [.ref c, .int (nI i)] S (fun _ T => S = T) 0 0 := by
  refine enterI (cc := cX1_lowsUpTo) (nL := 5) (ret := (some .int)) (by decide +kernel) rfl (Nat.le_of_ble_eq_true rfl) ?_
  intro F Z hl hR hD hcy hnw hnm
  subst hl hD hcy hnw
  have hRf : F.R.frames = 1 := by rw [hR]
  have hRc : F.R.cells = 0 := by rw [hR]
  have hRs : F.R.slots = 0 := by rw [hR]
  have hRl : F.R.locals = 21 := by rw [hR]
  have in1 : ∀ w ∈ u_ws RX1 TX1 4, w ∈ wsX1_lowsUpTo := by decide +kernel
  have lk13 : Cond.fieldLink RX1 13 (TX1 3).1 (TX1 3).2.1 (TX1 3).2.2.1 ∈ wsX1_lowsUpTo := by decide +kernel
  obtain ⟨hcL, hcK, ⟨key, hkey, ekey⟩, w, hww, hwL, hwK, hwl⟩ := id hc
  have loop : ∀ (n : Nat) (j : Nat) (r : Int32), 1024 - j < n → j ≤ 1024 → G F 5 S 0 0 (QI F (fun _ T => S = T) 0 0) 23 [(0, .ref c), (1, .int (nI i)), (2, .int (nI (i / 64))), (3, .int r), (4, .int (nI j))] [] := by
    intro n
    induction n with
    | zero => intros; omega
    | succ n ih =>
      intro j r hn hj
      refine g_iload Z dX1_lowsUpTo_23 rfl ?_
      refine g_iload_n Z dX1_lowsUpTo_25 rfl ?_
      refine g_icmp_ge Z 48 dX1_lowsUpTo_26 (by decide) (fun h26 => ?_) (fun h26 => ?_)
      · refine g_iload_n Z dX1_lowsUpTo_48 rfl ?_
        exact g_iret Z dX1_lowsUpTo_49 (by omega) (by omega) (rfl)
      · have hlt : j < i / 64 := ge_f (by omega) (by omega) h26
        refine g_iload_n Z dX1_lowsUpTo_29 rfl ?_
        refine g_aload_n Z dX1_lowsUpTo_30 rfl ?_
        refine g_getr Z 1 3 rfl (by decide) in1 lk13 dX1_lowsUpTo_31 (by assumption) (by assumption) (by assumption) ?_
        refine g_iload Z dX1_lowsUpTo_34 rfl ?_
        refine g_lald Z dX1_lowsUpTo_36 (by assumption) (by assumption) (by exact vin_of hwl (by omega) (by decide)) ?_
        refine g_csI Z (c_J13_bitCount_95d88 F.l F.D F.cy F.nw _ _) 1 gX1_lowsUpTo_J13_bitCount_95d88 rfl (by decide +kernel) (by rw [hRf, hRl]; decide) rfl rfl (Nat.le_of_ble_eq_true rfl) dX1_lowsUpTo_37 (by rw [hRc, hRs]; omega) (fun r T hp => ?_)
        obtain ⟨rfl, -⟩ := hp
        refine g_iadd Z dX1_lowsUpTo_40 ?_
        refine g_istore_n Z dX1_lowsUpTo_41 (by decide) ?_
        refine g_iinc (c := 1) Z dX1_lowsUpTo_42 rfl (by decide) (by decide) ?_
        rw [nI_1]
        refine g_goto Z 23 dX1_lowsUpTo_45 (by decide) ?_
        exact g_lv (by repeat (first | exact trivial | refine And.intro rfl ?_)) (ih (j + 1) _ (by omega) (by omega))
  refine g_iload_n Z dX1_lowsUpTo_0 rfl ?_
  refine g_bipush (v := 6) Z dX1_lowsUpTo_1 (by decide) ?_
  refine g_ishr Z dX1_lowsUpTo_3 ?_
  rw [shr6 (by omega)]
  refine g_istore_n Z dX1_lowsUpTo_4 (by decide) ?_
  refine g_aload_n Z dX1_lowsUpTo_5 rfl ?_
  refine g_getr Z 1 3 rfl (by decide) in1 lk13 dX1_lowsUpTo_6 (by assumption) (by assumption) (by assumption) ?_
  refine g_iload_n Z dX1_lowsUpTo_9 rfl ?_
  refine g_lald Z dX1_lowsUpTo_10 (by assumption) (by assumption) (by exact vin_of hwl (by omega) (by decide)) ?_
  refine g_iload_n Z dX1_lowsUpTo_11 rfl ?_
  refine g_csL Z (c_X1_upTo F.l F.D F.cy F.nw _ _) 1 gX1_lowsUpTo_X1_upTo rfl (by decide +kernel) (by rw [hRf, hRl]; decide) rfl rfl (Nat.le_of_ble_eq_true rfl) dX1_lowsUpTo_12 (by rw [hRc, hRs]; omega) (fun r T hp => ?_)
  obtain rfl := hp
  refine g_land Z dX1_lowsUpTo_15 ?_
  refine g_csI Z (c_J13_bitCount_95d88 F.l F.D F.cy F.nw _ _) 1 gX1_lowsUpTo_J13_bitCount_95d88 rfl (by decide +kernel) (by rw [hRf, hRl]; decide) rfl rfl (Nat.le_of_ble_eq_true rfl) dX1_lowsUpTo_16 (by rw [hRc, hRs]; omega) (fun r T hp => ?_)
  obtain ⟨rfl, -⟩ := hp
  refine g_istore_n Z dX1_lowsUpTo_19 (by decide) ?_
  refine g_iconst (v := 0) Z dX1_lowsUpTo_20 (by decide) ?_
  refine g_istore Z dX1_lowsUpTo_21 (by decide) ?_
  exact g_lv (by repeat (first | exact trivial | refine And.intro rfl ?_)) (loop 1025 0 _ (by omega) (by omega))

theorem lt_clamp {k : Nat} (hk : k < 2 ^ 31) {y : Int32} (h : ¬ y ≤ nI k) : k < y.toNatClampNeg := by
  have h1 : nI k < y := i_lt_of_nle h
  have h2 : (nI k).toInt < y.toInt := Int32.lt_iff_toInt_lt.mp h1
  rw [nI_toInt hk] at h2
  show k < y.toInt.toNat
  omega
theorem clamp_lt (y : Int32) : y.toNatClampNeg < 2 ^ 31 := by
  have h := Int32.toInt_lt y
  show y.toInt.toNat < 2 ^ 31
  omega
theorem shl6 {i : Nat} (h : i ≤ 1024) : nI i <<< ((6 : Int32) &&& 31) = nI (i * 2 ^ 6) := pk_shlN _ 6 (by decide) (by omega)

set_option maxRecDepth 100000 in
set_option maxHeartbeats 4000000 in
/-- the low of a rank -/
theorem c_X1_lowAt (l : Launch) (D : va_G) (cy : Nat → ClassId) (nw : Nat) (S : PS) (c : Nat) (hc : Cr S c) (x : Int32) : kI l yX1_lowAt wsX1_lowAt 2 43 D cy nw [.ref c, .int x] S (fun _ T => S = T) 0 0 := by
  refine enterI (cc := cX1_lowAt) (nL := 8) (ret := (some .int)) (by decide +kernel) rfl (Nat.le_of_ble_eq_true rfl) ?_
  intro F Z hl hR hD hcy hnw hnm
  subst hl hD hcy hnw
  have hRf : F.R.frames = 2 := by rw [hR]
  have hRc : F.R.cells = 0 := by rw [hR]
  have hRs : F.R.slots = 0 := by rw [hR]
  have hRl : F.R.locals = 43 := by rw [hR]
  have in1 : ∀ w ∈ u_ws RX1 TX1 4, w ∈ wsX1_lowAt := by decide +kernel
  have lk13 : Cond.fieldLink RX1 13 (TX1 3).1 (TX1 3).2.1 (TX1 3).2.2.1 ∈ wsX1_lowAt := by decide +kernel
  obtain ⟨hcL, hcK, ⟨key, hkey, ekey⟩, w, hww, hwL, hwK, hwl⟩ := id hc
  have loop : ∀ (n : Nat) (j : Nat) (y : Int32), 1024 - j < n → j ≤ 1024 → G F 8 S 0 0 (QI F (fun _ T => S = T) 0 0) 4 [(0, .ref c), (1, .int x), (2, .int y), (3, .int (nI j))] [] := by
    intro n
    induction n with
    | zero => intros; omega
    | succ n ih =>
      intro j y hn hj
      have inner : ∀ (n2 k : Nat) (v : Int64) (q : Int32), y.toNatClampNeg - k < n2 → k < 2 ^ 31 → G F 8 S 0 0 (QI F (fun _ T => S = T) 0 0) 35 [(0, .ref c), (1, .int x), (2, .int y), (3, .int (nI j)), (4, .long v), (6, .int q), (7, .int (nI k))] [] := by
        intro n2
        induction n2 with
        | zero => intros; omega
        | succ n2 ih2 =>
          intro k v q hn2 hk
          refine g_iload Z dX1_lowAt_35 rfl ?_
          refine g_iload_n Z dX1_lowAt_37 rfl ?_
          refine g_icmp_ge Z 56 dX1_lowAt_38 (by decide) (fun h38 => ?_) (fun h38 => ?_)
          · refine g_iload_n Z dX1_lowAt_56 rfl ?_
            refine g_bipush (v := 6) Z dX1_lowAt_57 (by decide) ?_
            refine g_ishl Z dX1_lowAt_59 ?_
            refine g_lload Z dX1_lowAt_60 rfl ?_
            refine g_csI Z (c_J13_numberOfTrailingZeros_95d88 F.l F.D F.cy F.nw _ _) 1 gX1_lowAt_J13_numberOfTrailingZeros_95d88 rfl (by decide +kernel) (by rw [hRf, hRl]; decide) rfl rfl (Nat.le_of_ble_eq_true rfl) dX1_lowAt_62 (by rw [hRc, hRs]; omega) (fun r T hp => ?_)
            obtain ⟨rfl, -⟩ := hp
            refine g_iadd Z dX1_lowAt_65 ?_
            exact g_iret Z dX1_lowAt_66 (by omega) (by omega) (rfl)
          · have hlt : k < y.toNatClampNeg := lt_clamp hk h38
            have hb := clamp_lt y
            refine g_lload Z dX1_lowAt_41 rfl ?_
            refine g_lload Z dX1_lowAt_43 rfl ?_
            refine g_lconst (v := 1) Z dX1_lowAt_45 (by decide) ?_
            refine g_lsub Z dX1_lowAt_46 ?_
            refine g_land Z dX1_lowAt_47 ?_
            refine g_lstore Z dX1_lowAt_48 (by decide) ?_
            refine g_iinc (c := 1) Z dX1_lowAt_50 rfl (by decide) (by decide) ?_
            rw [nI_1]
            refine g_goto Z 35 dX1_lowAt_53 (by decide) ?_
            exact g_lv (by repeat (first | exact trivial | refine And.intro rfl ?_)) (ih2 (k + 1) _ _ (by omega) (by omega))
      refine g_iload_n Z dX1_lowAt_4 rfl ?_
      refine g_sipush (v := 1024) Z dX1_lowAt_5 (by decide) ?_
      refine g_icmp_ge Z 78 dX1_lowAt_8 (by decide) (fun h8 => ?_) (fun h8 => ?_)
      · refine g_iconst (v := (-1)) Z dX1_lowAt_78 (by decide) ?_
        exact g_iret Z dX1_lowAt_79 (by omega) (by omega) (rfl)
      · have hlt : j < 1024 := ge_f (by omega) (by decide) h8
        refine g_aload_n Z dX1_lowAt_11 rfl ?_
        refine g_getr Z 1 3 rfl (by decide) in1 lk13 dX1_lowAt_12 (by assumption) (by assumption) (by assumption) ?_
        refine g_iload_n Z dX1_lowAt_15 rfl ?_
        refine g_lald Z dX1_lowAt_16 (by assumption) (by assumption) (by exact vin_of hwl (by omega) (by decide)) ?_
        refine g_lstore Z dX1_lowAt_17 (by decide) ?_
        refine g_lload Z dX1_lowAt_19 rfl ?_
        refine g_csI Z (c_J13_bitCount_95d88 F.l F.D F.cy F.nw _ _) 1 gX1_lowAt_J13_bitCount_95d88 rfl (by decide +kernel) (by rw [hRf, hRl]; decide) rfl rfl (Nat.le_of_ble_eq_true rfl) dX1_lowAt_21 (by rw [hRc, hRs]; omega) (fun r T hp => ?_)
        obtain ⟨rfl, -⟩ := hp
        refine g_istore Z dX1_lowAt_24 (by decide) ?_
        refine g_iload_n Z dX1_lowAt_26 rfl ?_
        refine g_iload Z dX1_lowAt_27 rfl ?_
        refine g_icmp_ge Z 67 dX1_lowAt_29 (by decide) (fun h29 => ?_) (fun h29 => ?_)
        · refine g_iload_n Z dX1_lowAt_67 rfl ?_
          refine g_iload Z dX1_lowAt_68 rfl ?_
          refine g_isub Z dX1_lowAt_70 ?_
          refine g_istore_n Z dX1_lowAt_71 (by decide) ?_
          refine g_iinc (c := 1) Z dX1_lowAt_72 rfl (by decide) (by decide) ?_
          rw [nI_1]
          refine g_goto Z 4 dX1_lowAt_75 (by decide) ?_
          exact g_lv (by repeat (first | exact trivial | refine And.intro rfl ?_)) (ih (j + 1) _ (by omega) (by omega))
        · refine g_iconst (v := 0) Z dX1_lowAt_32 (by decide) ?_
          refine g_istore Z dX1_lowAt_33 (by decide) ?_
          exact g_lv (by repeat (first | exact trivial | refine And.intro rfl ?_)) (inner (2 ^ 31) 0 _ _ (by have := clamp_lt y; omega) (by decide))
  refine g_iload_n Z dX1_lowAt_0 rfl ?_
  refine g_istore_n Z dX1_lowAt_1 (by decide) ?_
  refine g_iconst (v := 0) Z dX1_lowAt_2 (by decide) ?_
  refine g_istore_n Z dX1_lowAt_3 (by decide) ?_
  exact g_lv (by repeat (first | exact trivial | refine And.intro rfl ?_)) (loop 1025 0 _ (by omega) (by omega))

set_option maxRecDepth 100000 in
set_option maxHeartbeats 4000000 in
/-- the first bit from a low on -/
theorem c_X1_firstBit (l : Launch) (D : va_G) (cy : Nat → ClassId) (nw : Nat) (S : PS) (c : Nat) (hc : Cr S c) (i : Nat) (hi : i ≤ 65538) (fl : Int64) : kI l yX1_firstBit wsX1_firstBit 2 43 D cy nw [.ref c, .int (nI i), .long fl] S (fun r T => S = T ∧ ∃ n : Nat, n ≤ 65538 ∧ r = nI n) 0 0 := by
  refine enterI (cc := cX1_firstBit) (nL := 8) (ret := (some .int)) (by decide +kernel) rfl (Nat.le_of_ble_eq_true rfl) ?_
  intro F Z hl hR hD hcy hnw hnm
  subst hl hD hcy hnw
  have hRf : F.R.frames = 2 := by rw [hR]
  have hRc : F.R.cells = 0 := by rw [hR]
  have hRs : F.R.slots = 0 := by rw [hR]
  have hRl : F.R.locals = 43 := by rw [hR]
  have in1 : ∀ w ∈ u_ws RX1 TX1 4, w ∈ wsX1_firstBit := by decide +kernel
  have lk13 : Cond.fieldLink RX1 13 (TX1 3).1 (TX1 3).2.1 (TX1 3).2.2.1 ∈ wsX1_firstBit := by decide +kernel
  have ct50 : Cond.constantLong RX1 50 (-1) ∈ wsX1_firstBit := by decide +kernel
  have ct85 : Cond.constant RX1 85 (65536) ∈ wsX1_firstBit := by decide +kernel
  obtain ⟨hcL, hcK, ⟨key, hkey, ekey⟩, w, hww, hwL, hwK, hwl⟩ := id hc
  have loop : ∀ (n : Nat) (j : Nat), 1026 - j < n → j ≤ 1026 → G F 8 S 0 0 (QI F (fun r T => S = T ∧ ∃ n : Nat, n ≤ 65538 ∧ r = nI n) 0 0) 10 [(0, .ref c), (1, .int (nI i)), (2, .long fl), (4, .int (nI (i / 64))), (5, .int (nI j))] [] := by
    intro n
    induction n with
    | zero => intros; omega
    | succ n ih =>
      intro j hn hj
      refine g_iload Z dX1_firstBit_10 rfl ?_
      refine g_sipush (v := 1024) Z dX1_firstBit_12 (by decide) ?_
      refine g_icmp_ge Z 71 dX1_firstBit_15 (by decide) (fun h15 => ?_) (fun h15 => ?_)
      · refine g_ldc (v := 65536) Z dX1_firstBit_71 ct85 ?_
        exact g_iret Z dX1_firstBit_73 (by omega) (by omega) (⟨rfl, 65536, by omega, rfl⟩)
      · have hlt : j < 1024 := ge_f (by omega) (by decide) h15
        have j46 : ∀ v : Int64, G F 8 S 0 0 (QI F (fun r T => S = T ∧ ∃ n : Nat, n ≤ 65538 ∧ r = nI n) 0 0) 46 [(0, .ref c), (1, .int (nI i)), (2, .long fl), (4, .int (nI (i / 64))), (5, .int (nI j)), (6, .long v)] [] := by
          intro v
          refine g_lload Z dX1_firstBit_46 rfl ?_
          refine g_lconst (v := 0) Z dX1_firstBit_48 (by decide) ?_
          refine g_lcmp Z dX1_firstBit_49 ?_
          refine g_if_eq Z 65 dX1_firstBit_50 (by decide) (fun h50 => ?_) (fun h50 => ?_)
          · refine g_iinc (c := 1) Z dX1_firstBit_65 rfl (by decide) (by decide) ?_
            rw [nI_1]
            refine g_goto Z 10 dX1_firstBit_68 (by decide) ?_
            exact g_lv (by repeat (first | exact trivial | refine And.intro rfl ?_)) (ih (j + 1) (by omega) (by omega))
          · refine g_iload Z dX1_firstBit_53 rfl ?_
            refine g_bipush (v := 6) Z dX1_firstBit_55 (by decide) ?_
            refine g_ishl Z dX1_firstBit_57 ?_
            rw [shl6 (by omega)]
            refine g_lload Z dX1_firstBit_58 rfl ?_
            refine g_csI Z (c_J13_numberOfTrailingZeros_95d88 F.l F.D F.cy F.nw _ _) 1 gX1_firstBit_J13_numberOfTrailingZeros_95d88 rfl (by decide +kernel) (by rw [hRf, hRl]; decide) rfl rfl (Nat.le_of_ble_eq_true rfl) dX1_firstBit_60 (by rw [hRc, hRs]; omega) (fun r T hp => ?_)
            obtain ⟨rfl, n2, hn2, rfl⟩ := hp
            refine g_iadd Z dX1_firstBit_63 ?_
            rw [nI_add]
            exact g_iret Z dX1_firstBit_64 (by omega) (by omega) (⟨rfl, _, by omega, rfl⟩)
        refine g_aload_n Z dX1_firstBit_18 rfl ?_
        refine g_getr Z 1 3 rfl (by decide) in1 lk13 dX1_firstBit_19 (by assumption) (by assumption) (by assumption) ?_
        refine g_iload Z dX1_firstBit_22 rfl ?_
        refine g_lald Z dX1_firstBit_24 (by assumption) (by assumption) (by exact vin_of hwl (by omega) (by decide)) ?_
        refine g_lload_n Z dX1_firstBit_25 rfl ?_
        refine g_lxor Z dX1_firstBit_26 ?_
        refine g_lstore Z dX1_firstBit_27 (by decide) ?_
        refine g_iload Z dX1_firstBit_29 rfl ?_
        refine g_iload Z dX1_firstBit_31 rfl ?_
        refine g_icmp_ne Z 46 dX1_firstBit_33 (by decide) (fun h33 => ?_) (fun h33 => ?_)
        · exact g_lv (by repeat (first | exact trivial | refine And.intro rfl ?_)) (j46 _)
        · refine g_lload Z dX1_firstBit_36 rfl ?_
          refine g_ldc2 (v := -1) Z dX1_firstBit_38 ct50 ?_
          refine g_iload_n Z dX1_firstBit_41 rfl ?_
          refine g_lshl Z dX1_firstBit_42 ?_
          refine g_land Z dX1_firstBit_43 ?_
          refine g_lstore Z dX1_firstBit_44 (by decide) ?_
          exact g_lv (by repeat (first | exact trivial | refine And.intro rfl ?_)) (j46 _)
  refine g_iload_n Z dX1_firstBit_0 rfl ?_
  refine g_bipush (v := 6) Z dX1_firstBit_1 (by decide) ?_
  refine g_ishr Z dX1_firstBit_3 ?_
  rw [shr6 (by omega)]
  refine g_istore Z dX1_firstBit_4 (by decide) ?_
  refine g_iload Z dX1_firstBit_6 rfl ?_
  refine g_istore Z dX1_firstBit_8 (by decide) ?_
  exact g_lv (by repeat (first | exact trivial | refine And.intro rfl ?_)) (loop 1027 (i / 64) (by omega) (by omega))

set_option maxRecDepth 100000 in
set_option maxHeartbeats 4000000 in
/-- the first low there, or not there, from one on -/
theorem c_X1_firstIn (l : Launch) (D : va_G) (cy : Nat → ClassId) (nw : Nat) (S : PS) (c : Nat) (hc : Cr S c) (i : Nat) (hi : i ≤ 65538) : kI l yX1_firstIn wsX1_firstIn 3 70 D cy nw [.ref c, .int (nI i)] S (fun r T => S = T ∧ ∃ n : Nat, n ≤ 65538 ∧ r = nI n) 0 0 := by
  refine enterI (cc := cX1_firstIn) (nL := 2) (ret := (some .int)) (by decide +kernel) rfl (Nat.le_of_ble_eq_true rfl) ?_
  intro F Z hl hR hD hcy hnw hnm
  subst hl hD hcy hnw
  have hRf : F.R.frames = 3 := by rw [hR]
  have hRc : F.R.cells = 0 := by rw [hR]
  have hRs : F.R.slots = 0 := by rw [hR]
  have hRl : F.R.locals = 70 := by rw [hR]
  obtain ⟨hcL, hcK, ⟨key, hkey, ekey⟩, w, hww, hwL, hwK, hwl⟩ := id hc
  refine g_aload_n Z dX1_firstIn_0 rfl ?_
  refine g_iload_n Z dX1_firstIn_1 rfl ?_
  refine g_lconst (v := 0) Z dX1_firstIn_2 (by decide) ?_
  refine g_cvI Z (c_X1_firstBit F.l F.D F.cy F.nw _ c hc i hi _) 2 gX1_firstIn_X1_firstBit rfl (by decide +kernel) (by rw [hRf, hRl]; decide) (by assumption) (κ := 1) (by assumption) rfl (by decide) rfl rfl (Nat.le_of_ble_eq_true rfl) dX1_firstIn_3 (by rw [hRc, hRs]; omega) (fun r T hp => ?_)
  exact g_iret Z dX1_firstIn_6 (by omega) (by omega) (hp)

set_option maxRecDepth 100000 in
set_option maxHeartbeats 4000000 in
/-- a new container has no words of its own -/
theorem c_X1_init (l : Launch) (D : va_G) (cy : Nat → ClassId) (nw : Nat) (S : PS) (c : Nat) (hcL : c ∈ S.L) (hcK : S.K c = 1) : kV l yX1_init wsX1_init 1 20 D cy nw [.ref c] S (fun T => T = S.setR c 3 (some nw)) 0 0 := by
  refine enterV (cc := cX1_init) (nL := 1) (ret := none) (by decide +kernel) rfl (Nat.le_of_ble_eq_true rfl) ?_
  intro F Z hl hR hD hcy hnw hnm
  subst hl hD hcy hnw
  have hRf : F.R.frames = 1 := by rw [hR]
  have hRc : F.R.cells = 0 := by rw [hR]
  have hRs : F.R.slots = 0 := by rw [hR]
  have hRl : F.R.locals = 20 := by rw [hR]
  have in1 : ∀ w ∈ u_ws RX1 TX1 4, w ∈ wsX1_init := by decide +kernel
  have lk13 : Cond.fieldLink RX1 13 (TX1 3).1 (TX1 3).2.1 (TX1 3).2.2.1 ∈ wsX1_init := by decide +kernel
  refine g_aload_n Z dX1_init_0 rfl ?_
  refine g_objinit Z (by decide +kernel) (by decide +kernel) (by decide +kernel) dX1_init_1 (by rw [hRf]; decide) (by rw [hRl]; decide) (by decide) ?_
  refine g_aload_n Z dX1_init_4 rfl ?_
  refine g_getsNw Z dX1_init_5 ?_
  refine g_putr Z 1 3 rfl (by decide) tyX1 tyX1_ok nmX1 rfl in1 lk13 dX1_init_8 rfl rfl (by assumption) (by assumption) ?_
  exact g_vret Z dX1_init_11 (by omega) (by omega) (rfl)
