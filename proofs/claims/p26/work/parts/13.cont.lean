/-- the carry into word i, and how many runs begin ahead of word i, as they are worked out -/
def trC (f : Nat → Int64) : Nat → Int64
  | 0 => 0
  | i + 1 => lsr (f i) 63
def trF (f : Nat → Int64) : Nat → Int32
  | 0 => 0
  | i + 1 => trF f i + bcF (f i &&& ((f i <<< ((1 : Int32).toInt64 &&& 63) ||| trC f i) ^^^ -1))
theorem vin_of {i n N : Nat} (hn : n = N) (h : i < N) (hN : N < 2 ^ 31) : vp_in (nI i) n := by rw [hn]; exact vp_in_nI h hN

set_option maxRecDepth 100000 in
set_option maxHeartbeats 2000000 in
/-- how many runs the lows make -/
theorem c_X1_totalRuns (l : Launch) (D : va_G) (cy : Nat → ClassId) (nw : Nat) (S : PS) (c : Nat) (hc : Cr S c) : kI l yX1_totalRuns wsX1_totalRuns 1 21 D cy nw [.ref c] S (fun r T => S = T ∧ ∀ w, S.fr c 3 = some w → r = trF (S.rj w) 1024) 0 0 := by
  refine enterI (cc := cX1_totalRuns) (nL := 7) (ret := (some .int)) (by decide +kernel) rfl (Nat.le_of_ble_eq_true rfl) ?_
  intro F Z hl hR hD hcy hnw hnm
  subst hl hD hcy hnw
  have hRf : F.R.frames = 1 := by rw [hR]
  have hRc : F.R.cells = 0 := by rw [hR]
  have hRs : F.R.slots = 0 := by rw [hR]
  have hRl : F.R.locals = 21 := by rw [hR]
  have in1 : ∀ w ∈ u_ws RX1 TX1 4, w ∈ wsX1_totalRuns := by decide +kernel
  have lk13 : Cond.fieldLink RX1 13 (TX1 3).1 (TX1 3).2.1 (TX1 3).2.2.1 ∈ wsX1_totalRuns := by decide +kernel
  have ct50 : Cond.constantLong RX1 50 (-1) ∈ wsX1_totalRuns := by decide +kernel
  obtain ⟨hcL, hcK, ⟨key, hkey, ekey⟩, w, hww, hwL, hwK, hwl⟩ := id hc
  have loop : ∀ (n : Nat) (i : Nat), 1024 - i < n → i ≤ 1024 → G F 7 S 0 0 (QI F (fun r T => S = T ∧ ∀ w, S.fr c 3 = some w → r = trF (S.rj w) 1024) 0 0) 7 [(0, .ref c), (1, .int (trF (S.rj w) i)), (2, .long (trC (S.rj w) i)), (4, .int (nI i))] [] := by
    intro n
    induction n with
    | zero => intros; omega
    | succ n ih =>
      intro i hn hi
      refine g_iload Z dX1_totalRuns_7 rfl ?_
      refine g_sipush (v := 1024) Z dX1_totalRuns_9 (by decide) ?_
      refine g_icmp_ge Z 55 dX1_totalRuns_12 (by decide) (fun h12 => ?_) (fun h12 => ?_)
      · have he : i = 1024 := by have := ge_t (N := 1024) (by omega) (by decide) h12; omega
        subst he
        refine g_iload_n Z dX1_totalRuns_55 rfl ?_
        exact g_iret Z dX1_totalRuns_56 (by omega) (by omega) (⟨rfl, fun w' h' => by rw [hww] at h'; cases h'; rfl⟩)
      · have hlt : i < 1024 := ge_f (by omega) (by decide) h12
        have hcl : (nI i).toNatClampNeg = i := nI_clamp (by omega)
        refine g_aload_n Z dX1_totalRuns_15 rfl ?_
        refine g_getr Z 1 3 rfl (by decide) in1 lk13 dX1_totalRuns_16 (by assumption) (by assumption) (by assumption) ?_
        refine g_iload Z dX1_totalRuns_19 rfl ?_
        refine g_lald Z dX1_totalRuns_21 (by assumption) (by assumption) (by exact vin_of hwl hlt (by decide)) ?_
        rw [hcl]
        refine g_lstore Z dX1_totalRuns_22 (by decide) ?_
        refine g_iload_n Z dX1_totalRuns_24 rfl ?_
        refine g_lload Z dX1_totalRuns_25 rfl ?_
        refine g_lload Z dX1_totalRuns_27 rfl ?_
        refine g_iconst (v := 1) Z dX1_totalRuns_29 (by decide) ?_
        refine g_lshl Z dX1_totalRuns_30 ?_
        refine g_lload_n Z dX1_totalRuns_31 rfl ?_
        refine g_lor Z dX1_totalRuns_32 ?_
        refine g_ldc2 (v := -1) Z dX1_totalRuns_33 ct50 ?_
        refine g_lxor Z dX1_totalRuns_36 ?_
        refine g_land Z dX1_totalRuns_37 ?_
        refine g_csI Z (c_J13_bitCount_95d88 F.l F.D F.cy F.nw _ _) 1 gX1_totalRuns_J13_bitCount_95d88 rfl (by decide +kernel) (by rw [hRf, hRl]; decide) rfl rfl (Nat.le_of_ble_eq_true rfl) dX1_totalRuns_38 (by rw [hRc, hRs]; omega) (fun r T hp => ?_)
        obtain ⟨rfl, rfl⟩ := hp
        refine g_iadd Z dX1_totalRuns_41 ?_
        refine g_istore_n Z dX1_totalRuns_42 (by decide) ?_
        refine g_lload Z dX1_totalRuns_43 rfl ?_
        refine g_bipush (v := 63) Z dX1_totalRuns_45 (by decide) ?_
        refine g_lushr Z dX1_totalRuns_47 ?_
        refine g_lstore_n Z dX1_totalRuns_48 (by decide) ?_
        refine g_iinc (c := 1) Z dX1_totalRuns_49 rfl (by decide) (by decide) ?_
        rw [nI_1]
        refine g_goto Z 7 dX1_totalRuns_52 (by decide) ?_
        exact g_lv (by (repeat (first | exact trivial | refine And.intro rfl ?_)); done) (ih (i + 1) (by omega) (by omega))
  refine g_iconst (v := 0) Z dX1_totalRuns_0 (by decide) ?_
  refine g_istore_n Z dX1_totalRuns_1 (by decide) ?_
  refine g_lconst (v := 0) Z dX1_totalRuns_2 (by decide) ?_
  refine g_lstore_n Z dX1_totalRuns_3 (by decide) ?_
  refine g_iconst (v := 0) Z dX1_totalRuns_4 (by decide) ?_
  refine g_istore Z dX1_totalRuns_5 (by decide) ?_
  exact g_lv (by (repeat (first | exact trivial | refine And.intro rfl ?_)); done) (loop 1025 0 (by omega) (by omega))

theorem shr6 {i : Nat} (h : i < 2 ^ 31) : nI i >>> ((6 : Int32) &&& 31) = nI (i / 64) := pk_shrN h _ 6 (by decide)

set_option maxRecDepth 100000 in
set_option maxHeartbeats 2000000 in
/-- whether a low is there -/
theorem c_X1_holds (l : Launch) (D : va_G) (cy : Nat → ClassId) (nw : Nat) (S : PS) (c : Nat) (hc : Cr S c) (i : Nat) (hi : i < 65536) : kI l yX1_holds wsX1_holds 0 0 D cy nw [.ref c, .int (nI i)] S (fun r T => S = T ∧ (r = 0 ∨ r = 1)) 0 0 := by
  refine enterI (cc := cX1_holds) (nL := 2) (ret := (some .boolean)) (by decide +kernel) rfl (Nat.le_of_ble_eq_true rfl) ?_
  intro F Z hl hR hD hcy hnw hnm
  subst hl hD hcy hnw
  have hRf : F.R.frames = 0 := by rw [hR]
  have hRc : F.R.cells = 0 := by rw [hR]
  have hRs : F.R.slots = 0 := by rw [hR]
  have hRl : F.R.locals = 0 := by rw [hR]
  have in1 : ∀ w ∈ u_ws RX1 TX1 4, w ∈ wsX1_holds := by decide +kernel
  have lk13 : Cond.fieldLink RX1 13 (TX1 3).1 (TX1 3).2.1 (TX1 3).2.2.1 ∈ wsX1_holds := by decide +kernel
  obtain ⟨hcL, hcK, ⟨key, hkey, ekey⟩, w, hww, hwL, hwK, hwl⟩ := id hc
  refine g_aload_n Z dX1_holds_0 rfl ?_
  refine g_getr Z 1 3 rfl (by decide) in1 lk13 dX1_holds_1 (by assumption) (by assumption) (by assumption) ?_
  refine g_iload_n Z dX1_holds_4 rfl ?_
  refine g_bipush (v := 6) Z dX1_holds_5 (by decide) ?_
  refine g_ishr Z dX1_holds_7 ?_
  rw [shr6 (by omega)]
  refine g_lald Z dX1_holds_8 (by assumption) (by assumption) (by exact vin_of hwl (by omega) (by decide)) ?_
  refine g_iload_n Z dX1_holds_9 rfl ?_
  refine g_lushr Z dX1_holds_10 ?_
  refine g_lconst (v := 1) Z dX1_holds_11 (by decide) ?_
  refine g_land Z dX1_holds_12 ?_
  refine g_lconst (v := 0) Z dX1_holds_13 (by decide) ?_
  refine g_lcmp Z dX1_holds_14 ?_
  refine g_if_eq Z 22 dX1_holds_15 (by decide) (fun h15 => ?_) (fun h15 => ?_)
  · refine g_iconst (v := 0) Z dX1_holds_22 (by decide) ?_
    exact g_zret Z dX1_holds_23 (by rfl) (by omega) (by omega) (⟨rfl, by first | exact Or.inl rfl | exact Or.inr rfl⟩)
  · refine g_iconst (v := 1) Z dX1_holds_18 (by decide) ?_
    refine g_goto Z 23 dX1_holds_19 (by decide) ?_
    exact g_zret Z dX1_holds_23 (by rfl) (by omega) (by omega) (⟨rfl, by first | exact Or.inl rfl | exact Or.inr rfl⟩)

set_option maxRecDepth 100000 in
set_option maxHeartbeats 2000000 in
/-- static -/
theorem c_X1_upTo (l : Launch) (D : va_G) (cy : Nat → ClassId) (nw : Nat) (S : PS) (x : Int32) : kL l yX1_upTo wsX1_upTo 0 0 D cy nw [.int x] S (fun _ T => S = T) 0 0 := by
  refine enterL (cc := cX1_upTo) (nL := 1) (ret := (some .long)) (by decide +kernel) rfl (Nat.le_of_ble_eq_true rfl) ?_
  intro F Z hl hR hD hcy hnw hnm
  subst hl hD hcy hnw
  have hRf : F.R.frames = 0 := by rw [hR]
  have hRc : F.R.cells = 0 := by rw [hR]
  have hRs : F.R.slots = 0 := by rw [hR]
  have hRl : F.R.locals = 0 := by rw [hR]
  have ct50 : Cond.constantLong RX1 50 (-1) ∈ wsX1_upTo := by decide +kernel
  refine g_ldc2 (v := -1) Z dX1_upTo_0 ct50 ?_
  refine g_bipush (v := 63) Z dX1_upTo_3 (by decide) ?_
  refine g_iload_n Z dX1_upTo_5 rfl ?_
  refine g_bipush (v := 63) Z dX1_upTo_6 (by decide) ?_
  refine g_iand Z dX1_upTo_8 ?_
  refine g_isub Z dX1_upTo_9 ?_
  refine g_lushr Z dX1_upTo_10 ?_
  exact g_lret Z dX1_upTo_11 (by omega) (by omega) (rfl)

set_option maxRecDepth 100000 in
set_option maxHeartbeats 2000000 in
/-- two containers' lows held beside each other -/
theorem c_X1_hasNoLowBut (l : Launch) (D : va_G) (cy : Nat → ClassId) (nw : Nat) (S : PS) (c d : Nat) (hc : Cr S c) (hd : Cr S d) : kI l yX1_hasNoLowBut wsX1_hasNoLowBut 0 0 D cy nw [.ref c, .ref d] S (fun r T => S = T ∧ (r = 0 ∨ r = 1)) 0 0 := by
  refine enterI (cc := cX1_hasNoLowBut) (nL := 3) (ret := (some .boolean)) (by decide +kernel) rfl (Nat.le_of_ble_eq_true rfl) ?_
  intro F Z hl hR hD hcy hnw hnm
  subst hl hD hcy hnw
  have hRf : F.R.frames = 0 := by rw [hR]
  have hRc : F.R.cells = 0 := by rw [hR]
  have hRs : F.R.slots = 0 := by rw [hR]
  have hRl : F.R.locals = 0 := by rw [hR]
  have in1 : ∀ w ∈ u_ws RX1 TX1 4, w ∈ wsX1_hasNoLowBut := by decide +kernel
  have lk13 : Cond.fieldLink RX1 13 (TX1 3).1 (TX1 3).2.1 (TX1 3).2.2.1 ∈ wsX1_hasNoLowBut := by decide +kernel
  have ct50 : Cond.constantLong RX1 50 (-1) ∈ wsX1_hasNoLowBut := by decide +kernel
  obtain ⟨hcL, hcK, ⟨key, hkey, ekey⟩, w, hww, hwL, hwK, hwl⟩ := id hc
  obtain ⟨hdL, hdK, -, v, hvv, hvL, hvK, hvl⟩ := id hd
  have loop : ∀ (n : Nat) (i : Nat), 1024 - i < n → i ≤ 1024 → G F 3 S 0 0 (QI F (fun r T => S = T ∧ (r = 0 ∨ r = 1)) 0 0) 2 [(0, .ref c), (1, .ref d), (2, .int (nI i))] [] := by
    intro n
    induction n with
    | zero => intros; omega
    | succ n ih =>
      intro i hn hi
      refine g_iload_n Z dX1_hasNoLowBut_2 rfl ?_
      refine g_sipush (v := 1024) Z dX1_hasNoLowBut_3 (by decide) ?_
      refine g_icmp_ge Z 39 dX1_hasNoLowBut_6 (by decide) (fun h6 => ?_) (fun h6 => ?_)
      · refine g_iconst (v := 1) Z dX1_hasNoLowBut_39 (by decide) ?_
        exact g_zret Z dX1_hasNoLowBut_40 (by rfl) (by omega) (by omega) (⟨rfl, by first | exact Or.inl rfl | exact Or.inr rfl⟩)
      · have hlt : i < 1024 := ge_f (by omega) (by decide) h6
        refine g_aload_n Z dX1_hasNoLowBut_9 rfl ?_
        refine g_getr Z 1 3 rfl (by decide) in1 lk13 dX1_hasNoLowBut_10 (by assumption) (by assumption) (by assumption) ?_
        refine g_iload_n Z dX1_hasNoLowBut_13 rfl ?_
        refine g_lald Z dX1_hasNoLowBut_14 (by assumption) (by assumption) (by exact vin_of hwl hlt (by decide)) ?_
        refine g_aload_n Z dX1_hasNoLowBut_15 rfl ?_
        refine g_getr Z 1 3 rfl (by decide) in1 lk13 dX1_hasNoLowBut_16 (by assumption) (by assumption) (by assumption) ?_
        refine g_iload_n Z dX1_hasNoLowBut_19 rfl ?_
        refine g_lald Z dX1_hasNoLowBut_20 (by assumption) (by assumption) (by exact vin_of hvl hlt (by decide)) ?_
        refine g_ldc2 (v := -1) Z dX1_hasNoLowBut_21 ct50 ?_
        refine g_lxor Z dX1_hasNoLowBut_24 ?_
        refine g_land Z dX1_hasNoLowBut_25 ?_
        refine g_lconst (v := 0) Z dX1_hasNoLowBut_26 (by decide) ?_
        refine g_lcmp Z dX1_hasNoLowBut_27 ?_
        refine g_if_eq Z 33 dX1_hasNoLowBut_28 (by decide) (fun h28 => ?_) (fun h28 => ?_)
        · refine g_iinc (c := 1) Z dX1_hasNoLowBut_33 rfl (by decide) (by decide) ?_
          rw [nI_1]
          refine g_goto Z 2 dX1_hasNoLowBut_36 (by decide) ?_
          exact g_lv (by (repeat (first | exact trivial | refine And.intro rfl ?_)); done) (ih (i + 1) (by omega) (by omega))
        · refine g_iconst (v := 0) Z dX1_hasNoLowBut_31 (by decide) ?_
          exact g_zret Z dX1_hasNoLowBut_32 (by rfl) (by omega) (by omega) (⟨rfl, by first | exact Or.inl rfl | exact Or.inr rfl⟩)
  refine g_iconst (v := 0) Z dX1_hasNoLowBut_0 (by decide) ?_
  refine g_istore_n Z dX1_hasNoLowBut_1 (by decide) ?_
  exact g_lv (by (repeat (first | exact trivial | refine And.intro rfl ?_)); done) (loop 1025 0 (by omega) (by omega))

set_option maxRecDepth 100000 in
set_option maxHeartbeats 2000000 in
/-- two containers' lows held beside each other -/
theorem c_X1_hasLowIn (l : Launch) (D : va_G) (cy : Nat → ClassId) (nw : Nat) (S : PS) (c d : Nat) (hc : Cr S c) (hd : Cr S d) : kI l yX1_hasLowIn wsX1_hasLowIn 0 0 D cy nw [.ref c, .ref d] S (fun r T => S = T ∧ (r = 0 ∨ r = 1)) 0 0 := by
  refine enterI (cc := cX1_hasLowIn) (nL := 3) (ret := (some .boolean)) (by decide +kernel) rfl (Nat.le_of_ble_eq_true rfl) ?_
  intro F Z hl hR hD hcy hnw hnm
  subst hl hD hcy hnw
  have hRf : F.R.frames = 0 := by rw [hR]
  have hRc : F.R.cells = 0 := by rw [hR]
  have hRs : F.R.slots = 0 := by rw [hR]
  have hRl : F.R.locals = 0 := by rw [hR]
  have in1 : ∀ w ∈ u_ws RX1 TX1 4, w ∈ wsX1_hasLowIn := by decide +kernel
  have lk13 : Cond.fieldLink RX1 13 (TX1 3).1 (TX1 3).2.1 (TX1 3).2.2.1 ∈ wsX1_hasLowIn := by decide +kernel
  obtain ⟨hcL, hcK, ⟨key, hkey, ekey⟩, w, hww, hwL, hwK, hwl⟩ := id hc
  obtain ⟨hdL, hdK, -, v, hvv, hvL, hvK, hvl⟩ := id hd
  have loop : ∀ (n : Nat) (i : Nat), 1024 - i < n → i ≤ 1024 → G F 3 S 0 0 (QI F (fun r T => S = T ∧ (r = 0 ∨ r = 1)) 0 0) 2 [(0, .ref c), (1, .ref d), (2, .int (nI i))] [] := by
    intro n
    induction n with
    | zero => intros; omega
    | succ n ih =>
      intro i hn hi
      refine g_iload_n Z dX1_hasLowIn_2 rfl ?_
      refine g_sipush (v := 1024) Z dX1_hasLowIn_3 (by decide) ?_
      refine g_icmp_ge Z 35 dX1_hasLowIn_6 (by decide) (fun h6 => ?_) (fun h6 => ?_)
      · refine g_iconst (v := 0) Z dX1_hasLowIn_35 (by decide) ?_
        exact g_zret Z dX1_hasLowIn_36 (by rfl) (by omega) (by omega) (⟨rfl, by first | exact Or.inl rfl | exact Or.inr rfl⟩)
      · have hlt : i < 1024 := ge_f (by omega) (by decide) h6
        refine g_aload_n Z dX1_hasLowIn_9 rfl ?_
        refine g_getr Z 1 3 rfl (by decide) in1 lk13 dX1_hasLowIn_10 (by assumption) (by assumption) (by assumption) ?_
        refine g_iload_n Z dX1_hasLowIn_13 rfl ?_
        refine g_lald Z dX1_hasLowIn_14 (by assumption) (by assumption) (by exact vin_of hwl hlt (by decide)) ?_
        refine g_aload_n Z dX1_hasLowIn_15 rfl ?_
        refine g_getr Z 1 3 rfl (by decide) in1 lk13 dX1_hasLowIn_16 (by assumption) (by assumption) (by assumption) ?_
        refine g_iload_n Z dX1_hasLowIn_19 rfl ?_
        refine g_lald Z dX1_hasLowIn_20 (by assumption) (by assumption) (by exact vin_of hvl hlt (by decide)) ?_
        refine g_land Z dX1_hasLowIn_21 ?_
        refine g_lconst (v := 0) Z dX1_hasLowIn_22 (by decide) ?_
        refine g_lcmp Z dX1_hasLowIn_23 ?_
        refine g_if_eq Z 29 dX1_hasLowIn_24 (by decide) (fun h24 => ?_) (fun h24 => ?_)
        · refine g_iinc (c := 1) Z dX1_hasLowIn_29 rfl (by decide) (by decide) ?_
          rw [nI_1]
          refine g_goto Z 2 dX1_hasLowIn_32 (by decide) ?_
          exact g_lv (by (repeat (first | exact trivial | refine And.intro rfl ?_)); done) (ih (i + 1) (by omega) (by omega))
        · refine g_iconst (v := 1) Z dX1_hasLowIn_27 (by decide) ?_
          exact g_zret Z dX1_hasLowIn_28 (by rfl) (by omega) (by omega) (⟨rfl, by first | exact Or.inl rfl | exact Or.inr rfl⟩)
  refine g_iconst (v := 0) Z dX1_hasLowIn_0 (by decide) ?_
  refine g_istore_n Z dX1_hasLowIn_1 (by decide) ?_
  exact g_lv (by (repeat (first | exact trivial | refine And.intro rfl ?_)); done) (loop 1025 0 (by omega) (by omega))

