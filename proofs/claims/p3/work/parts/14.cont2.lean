theorem or01 {a b : Int32} (ha : a = 0 ∨ a = 1) (hb : b = 0 ∨ b = 1) : a ||| b = 0 ∨ a ||| b = 1 := by
  rcases ha with rfl | rfl <;> rcases hb with rfl | rfl <;> first | exact Or.inl rfl | exact Or.inr rfl
theorem nar01 {a : Int32} (ha : a = 0 ∨ a = 1) : narrow .boolean (.int a) = .int a := by
  rcases ha with rfl | rfl <;> rfl

set_option maxRecDepth 100000 in
set_option maxHeartbeats 4000000 in
/-- lows from one to another come, go or turn -/
theorem c_X1_changeLows (l : Launch) (D : va_G) (cy : Nat → ClassId) (nw : Nat) (S : PS) (c : Nat) (hc : Cr S c) (f t : Nat) (hf : f < 65536) (ht : t < 65536) (h : Int32) : kI l yX1_changeLows wsX1_changeLows 1 21 D cy nw [.ref c, .int (nI f), .int (nI t), .int h] S (fun r T => Cs c S T ∧ (r = 0 ∨ r = 1)) 0 0 := by
  refine enterI (cc := cX1_changeLows) (nL := 14) (ret := (some .boolean)) (by decide +kernel) rfl (Nat.le_of_ble_eq_true rfl) ?_
  intro F Z hl hR hD hcy hnw hnm
  subst hl hD hcy hnw
  have hRf : F.R.frames = 1 := by rw [hR]
  have hRc : F.R.cells = 0 := by rw [hR]
  have hRs : F.R.slots = 0 := by rw [hR]
  have hRl : F.R.locals = 21 := by rw [hR]
  have in1 : ∀ w ∈ u_ws RX1 TX1 4, w ∈ wsX1_changeLows := by decide +kernel
  have lk13 : Cond.fieldLink RX1 13 (TX1 3).1 (TX1 3).2.1 (TX1 3).2.2.1 ∈ wsX1_changeLows := by decide +kernel
  have lk34 : Cond.fieldLink RX1 34 (TX1 2).1 (TX1 2).2.1 (TX1 2).2.2.1 ∈ wsX1_changeLows := by decide +kernel
  have ct50 : Cond.constantLong RX1 50 (-1) ∈ wsX1_changeLows := by decide +kernel
  have loop : ∀ (n : Nat) (i : Nat) (ch : Int32) (T : PS), 1024 - i < n → (Cs c S T ∧ i ≤ 1024 ∧ (ch = 0 ∨ ch = 1)) → G F 14 T 0 0 (QI F (fun r T => Cs c S T ∧ (r = 0 ∨ r = 1)) 0 0) 19 [(0, .ref c), (1, .int (nI f)), (2, .int (nI t)), (3, .int h), (4, .int ch), (5, .int (nI (f / 64))), (6, .int (nI (t / 64))), (7, .int (nI i))] [] := by
    intro n
    induction n with
    | zero => intros; omega
    | succ n ih =>
      intro i ch T hn ⟨hT, hi, hch⟩
      obtain ⟨hcL, hcK, -, w, hww, hwL, hwK, hwl⟩ := hT.cr hc
      refine g_iload Z dX1_changeLows_19 rfl ?_
      refine g_iload Z dX1_changeLows_21 rfl ?_
      refine g_icmp_gt Z 160 dX1_changeLows_23 (by decide) (fun h23 => ?_) (fun h23 => ?_)
      · refine g_iload Z dX1_changeLows_160 rfl ?_
        exact g_zret Z dX1_changeLows_162 (nar01 hch) (by omega) (by omega) (⟨hT, hch⟩)
      · have hle : i ≤ t / 64 := gt_f (by omega) (by omega) h23
        have j105 : ∀ v8 o nw8 : Int64, G F 14 T 0 0 (QI F (fun r T => Cs c S T ∧ (r = 0 ∨ r = 1)) 0 0) 105 [(0, .ref c), (1, .int (nI f)), (2, .int (nI t)), (3, .int h), (4, .int ch), (5, .int (nI (f / 64))), (6, .int (nI (t / 64))), (7, .int (nI i)), (8, .long v8), (10, .long o)] [.long nw8] := by
          intro v8 o nw8
          refine g_lstore Z dX1_changeLows_105 (by decide) ?_
          refine g_aload_n Z dX1_changeLows_107 rfl ?_
          refine g_getr Z 1 3 rfl (by decide) in1 lk13 dX1_changeLows_108 (by assumption) (by assumption) (by assumption) ?_
          refine g_iload Z dX1_changeLows_111 rfl ?_
          refine g_lload Z dX1_changeLows_113 rfl ?_
          refine g_last Z dX1_changeLows_115 (by assumption) (by assumption) (by exact vin_of hwl (by omega) (by decide)) ?_
          refine g_aload_n Z dX1_changeLows_116 rfl ?_
          refine g_dup Z dX1_changeLows_117 rfl ?_
          refine g_geti Z 1 2 rfl (by decide) in1 lk34 dX1_changeLows_118 (by assumption) (by assumption) ?_
          refine g_lload Z dX1_changeLows_121 rfl ?_
          refine g_csI Z (c_J13_bitCount_95d88 F.l F.D F.cy F.nw _ _) 1 gX1_changeLows_J13_bitCount_95d88 rfl (by decide +kernel) (by rw [hRf, hRl]; decide) rfl rfl (Nat.le_of_ble_eq_true rfl) dX1_changeLows_123 (by rw [hRc, hRs]; omega) (fun r T hp => ?_)
          obtain ⟨rfl, -⟩ := hp
          refine g_lload Z dX1_changeLows_126 rfl ?_
          refine g_csI Z (c_J13_bitCount_95d88 F.l F.D F.cy F.nw _ _) 1 gX1_changeLows_J13_bitCount_95d88 rfl (by decide +kernel) (by rw [hRf, hRl]; decide) rfl rfl (Nat.le_of_ble_eq_true rfl) dX1_changeLows_128 (by rw [hRc, hRs]; omega) (fun r T hp => ?_)
          obtain ⟨rfl, -⟩ := hp
          refine g_isub Z dX1_changeLows_131 ?_
          refine g_iadd Z dX1_changeLows_132 ?_
          refine g_puti Z 1 2 rfl (by decide) tyX1 tyX1_ok nmX1 rfl in1 lk34 dX1_changeLows_133 rfl rfl (by assumption) (by assumption) ?_
          refine g_iload Z dX1_changeLows_136 rfl ?_
          refine g_lload Z dX1_changeLows_138 rfl ?_
          refine g_lload Z dX1_changeLows_140 rfl ?_
          refine g_lcmp Z dX1_changeLows_142 ?_
          refine g_if_eq Z 150 dX1_changeLows_143 (by decide) (fun h143 => ?_) (fun h143 => ?_)
          · refine g_iconst (v := 0) Z dX1_changeLows_150 (by decide) ?_
            refine g_ior Z dX1_changeLows_151 ?_
            refine g_istore Z dX1_changeLows_152 (by decide) ?_
            refine g_iinc (c := 1) Z dX1_changeLows_154 rfl (by decide) (by decide) ?_
            rw [nI_1]
            refine g_goto Z 19 dX1_changeLows_157 (by decide) ?_
            exact g_lv (by repeat (first | exact trivial | refine And.intro rfl ?_)) (ih (i + 1) _ _ (by omega) ⟨hT.rowJ.setI (by decide), by omega, or01 hch (by first | exact Or.inl rfl | exact Or.inr rfl)⟩)
          · refine g_iconst (v := 1) Z dX1_changeLows_146 (by decide) ?_
            refine g_goto Z 151 dX1_changeLows_147 (by decide) ?_
            refine g_ior Z dX1_changeLows_151 ?_
            refine g_istore Z dX1_changeLows_152 (by decide) ?_
            refine g_iinc (c := 1) Z dX1_changeLows_154 rfl (by decide) (by decide) ?_
            rw [nI_1]
            refine g_goto Z 19 dX1_changeLows_157 (by decide) ?_
            exact g_lv (by repeat (first | exact trivial | refine And.intro rfl ?_)) (ih (i + 1) _ _ (by omega) ⟨hT.rowJ.setI (by decide), by omega, or01 hch (by first | exact Or.inl rfl | exact Or.inr rfl)⟩)
        have j62 : ∀ v8 : Int64, G F 14 T 0 0 (QI F (fun r T => Cs c S T ∧ (r = 0 ∨ r = 1)) 0 0) 62 [(0, .ref c), (1, .int (nI f)), (2, .int (nI t)), (3, .int h), (4, .int ch), (5, .int (nI (f / 64))), (6, .int (nI (t / 64))), (7, .int (nI i)), (8, .long v8)] [] := by
          intro v8
          refine g_aload_n Z dX1_changeLows_62 rfl ?_
          refine g_getr Z 1 3 rfl (by decide) in1 lk13 dX1_changeLows_63 (by assumption) (by assumption) (by assumption) ?_
          refine g_iload Z dX1_changeLows_66 rfl ?_
          refine g_lald Z dX1_changeLows_68 (by assumption) (by assumption) (by exact vin_of hwl (by omega) (by decide)) ?_
          refine g_lstore Z dX1_changeLows_69 (by decide) ?_
          refine g_iload_n Z dX1_changeLows_71 rfl ?_
          refine g_if_ne Z 83 dX1_changeLows_72 (by decide) (fun h72 => ?_) (fun h72 => ?_)
          · refine g_iload_n Z dX1_changeLows_83 rfl ?_
            refine g_iconst (v := 1) Z dX1_changeLows_84 (by decide) ?_
            refine g_icmp_ne Z 100 dX1_changeLows_85 (by decide) (fun h85 => ?_) (fun h85 => ?_)
            · refine g_lload Z dX1_changeLows_100 rfl ?_
              refine g_lload Z dX1_changeLows_102 rfl ?_
              refine g_lxor Z dX1_changeLows_104 ?_
              exact g_lv (by repeat (first | exact trivial | refine And.intro rfl ?_)) (j105 _ _ _)
            · refine g_lload Z dX1_changeLows_88 rfl ?_
              refine g_lload Z dX1_changeLows_90 rfl ?_
              refine g_ldc2 (v := -1) Z dX1_changeLows_92 ct50 ?_
              refine g_lxor Z dX1_changeLows_95 ?_
              refine g_land Z dX1_changeLows_96 ?_
              refine g_goto Z 105 dX1_changeLows_97 (by decide) ?_
              exact g_lv (by repeat (first | exact trivial | refine And.intro rfl ?_)) (j105 _ _ _)
          · refine g_lload Z dX1_changeLows_75 rfl ?_
            refine g_lload Z dX1_changeLows_77 rfl ?_
            refine g_lor Z dX1_changeLows_79 ?_
            refine g_goto Z 105 dX1_changeLows_80 (by decide) ?_
            exact g_lv (by repeat (first | exact trivial | refine And.intro rfl ?_)) (j105 _ _ _)
        have j44 : ∀ v : Int64, G F 14 T 0 0 (QI F (fun r T => Cs c S T ∧ (r = 0 ∨ r = 1)) 0 0) 44 [(0, .ref c), (1, .int (nI f)), (2, .int (nI t)), (3, .int h), (4, .int ch), (5, .int (nI (f / 64))), (6, .int (nI (t / 64))), (7, .int (nI i))] [.long v] := by
          intro v
          refine g_lstore Z dX1_changeLows_44 (by decide) ?_
          refine g_iload Z dX1_changeLows_46 rfl ?_
          refine g_iload Z dX1_changeLows_48 rfl ?_
          refine g_icmp_ne Z 62 dX1_changeLows_50 (by decide) (fun h50 => ?_) (fun h50 => ?_)
          · exact g_lv (by repeat (first | exact trivial | refine And.intro rfl ?_)) (j62 _)
          · refine g_lload Z dX1_changeLows_53 rfl ?_
            refine g_iload_n Z dX1_changeLows_55 rfl ?_
            refine g_csL Z (c_X1_upTo F.l F.D F.cy F.nw _ _) 1 gX1_changeLows_X1_upTo rfl (by decide +kernel) (by rw [hRf, hRl]; decide) rfl rfl (Nat.le_of_ble_eq_true rfl) dX1_changeLows_56 (by rw [hRc, hRs]; omega) (fun r T hp => ?_)
            obtain rfl := hp
            refine g_land Z dX1_changeLows_59 ?_
            refine g_lstore Z dX1_changeLows_60 (by decide) ?_
            exact g_lv (by repeat (first | exact trivial | refine And.intro rfl ?_)) (j62 _)
        refine g_iload Z dX1_changeLows_26 rfl ?_
        refine g_iload Z dX1_changeLows_28 rfl ?_
        refine g_icmp_ne Z 41 dX1_changeLows_30 (by decide) (fun h30 => ?_) (fun h30 => ?_)
        · refine g_ldc2 (v := -1) Z dX1_changeLows_41 ct50 ?_
          exact g_lv (by repeat (first | exact trivial | refine And.intro rfl ?_)) (j44 _)
        · refine g_ldc2 (v := -1) Z dX1_changeLows_33 ct50 ?_
          refine g_iload_n Z dX1_changeLows_36 rfl ?_
          refine g_lshl Z dX1_changeLows_37 ?_
          refine g_goto Z 44 dX1_changeLows_38 (by decide) ?_
          exact g_lv (by repeat (first | exact trivial | refine And.intro rfl ?_)) (j44 _)
  refine g_iconst (v := 0) Z dX1_changeLows_0 (by decide) ?_
  refine g_istore Z dX1_changeLows_1 (by decide) ?_
  refine g_iload_n Z dX1_changeLows_3 rfl ?_
  refine g_bipush (v := 6) Z dX1_changeLows_4 (by decide) ?_
  refine g_ishr Z dX1_changeLows_6 ?_
  rw [shr6 (by omega)]
  refine g_istore Z dX1_changeLows_7 (by decide) ?_
  refine g_iload_n Z dX1_changeLows_9 rfl ?_
  refine g_bipush (v := 6) Z dX1_changeLows_10 (by decide) ?_
  refine g_ishr Z dX1_changeLows_12 ?_
  rw [shr6 (by omega)]
  refine g_istore Z dX1_changeLows_13 (by decide) ?_
  refine g_iload Z dX1_changeLows_15 rfl ?_
  refine g_istore Z dX1_changeLows_17 (by decide) ?_
  exact g_lv (by repeat (first | exact trivial | refine And.intro rfl ?_)) (loop 1025 (f / 64) 0 S (by omega) ⟨Cs.rf, by omega, Or.inl rfl⟩)

set_option maxRecDepth 100000 in
set_option maxHeartbeats 4000000 in
/-- lows come by steps -/
theorem c_X1_putLowsBySteps (l : Launch) (D : va_G) (cy : Nat → ClassId) (nw : Nat) (S : PS) (c : Nat) (hc : Cr S c) (f q : Nat) (hf : f < 65536) (hq1 : 1 ≤ q) (hq : q < 65536) : kI l yX1_putLowsBySteps wsX1_putLowsBySteps 1 21 D cy nw [.ref c, .int (nI f), .int (nI q)] S (fun r T => Cs c S T ∧ (r = 0 ∨ r = 1)) 0 0 := by
  refine enterI (cc := cX1_putLowsBySteps) (nL := 5) (ret := (some .boolean)) (by decide +kernel) rfl (Nat.le_of_ble_eq_true rfl) ?_
  intro F Z hl hR hD hcy hnw hnm
  subst hl hD hcy hnw
  have hRf : F.R.frames = 1 := by rw [hR]
  have hRc : F.R.cells = 0 := by rw [hR]
  have hRs : F.R.slots = 0 := by rw [hR]
  have hRl : F.R.locals = 21 := by rw [hR]
  have in1 : ∀ w ∈ u_ws RX1 TX1 4, w ∈ wsX1_putLowsBySteps := by decide +kernel
  have lk13 : Cond.fieldLink RX1 13 (TX1 3).1 (TX1 3).2.1 (TX1 3).2.2.1 ∈ wsX1_putLowsBySteps := by decide +kernel
  have lk34 : Cond.fieldLink RX1 34 (TX1 2).1 (TX1 2).2.1 (TX1 2).2.2.1 ∈ wsX1_putLowsBySteps := by decide +kernel
  have ct62 : Cond.constant RX1 62 (65535) ∈ wsX1_putLowsBySteps := by decide +kernel
  have loop : ∀ (n : Nat) (i : Nat) (b : Int32) (T : PS), 131072 - i < n → (Cs c S T ∧ i ≤ 131072) → G F 5 T 0 0 (QI F (fun r T => Cs c S T ∧ (r = 0 ∨ r = 1)) 0 0) 15 [(0, .ref c), (1, .int (nI f)), (2, .int (nI q)), (3, .int b), (4, .int (nI i))] [] := by
    intro n
    induction n with
    | zero => intros; omega
    | succ n ih =>
      intro i b T hn ⟨hT, hi⟩
      have hcr := hT.cr hc
      obtain ⟨hcL, hcK, -, w, hww, hwL, hwK, hwl⟩ := id hcr
      refine g_iload Z dX1_putLowsBySteps_15 rfl ?_
      refine g_ldc (v := 65535) Z dX1_putLowsBySteps_17 ct62 ?_
      refine g_icmp_gt Z 67 dX1_putLowsBySteps_19 (by decide) (fun h19 => ?_) (fun h19 => ?_)
      · refine g_aload_n Z dX1_putLowsBySteps_67 rfl ?_
        refine g_geti Z 1 2 rfl (by decide) in1 lk34 dX1_putLowsBySteps_68 (by assumption) (by assumption) ?_
        refine g_iload_n Z dX1_putLowsBySteps_71 rfl ?_
        refine g_icmp_eq Z 79 dX1_putLowsBySteps_72 (by decide) (fun h72 => ?_) (fun h72 => ?_)
        · refine g_iconst (v := 0) Z dX1_putLowsBySteps_79 (by decide) ?_
          exact g_zret Z dX1_putLowsBySteps_80 (by rfl) (by omega) (by omega) (⟨hT, by first | exact Or.inl rfl | exact Or.inr rfl⟩)
        · refine g_iconst (v := 1) Z dX1_putLowsBySteps_75 (by decide) ?_
          refine g_goto Z 80 dX1_putLowsBySteps_76 (by decide) ?_
          exact g_zret Z dX1_putLowsBySteps_80 (by rfl) (by omega) (by omega) (⟨hT, by first | exact Or.inl rfl | exact Or.inr rfl⟩)
      · have hlt : i ≤ 65535 := gt_f (by omega) (by decide) h19
        refine g_aload_n Z dX1_putLowsBySteps_22 rfl ?_
        refine g_iload Z dX1_putLowsBySteps_23 rfl ?_
        refine g_cvI Z (c_X1_holds F.l F.D F.cy F.nw _ c hcr i (by omega)) 1 gX1_putLowsBySteps_X1_holds rfl (by decide +kernel) (by rw [hRf, hRl]; decide) (by assumption) (κ := 1) (by assumption) rfl (by decide) rfl rfl (Nat.le_of_ble_eq_true rfl) dX1_putLowsBySteps_25 (by rw [hRc, hRs]; omega) (fun r T hp => ?_)
        obtain ⟨rfl, hr⟩ := hp
        refine g_if_ne Z 58 dX1_putLowsBySteps_28 (by decide) (fun h28 => ?_) (fun h28 => ?_)
        · refine g_iload Z dX1_putLowsBySteps_58 rfl ?_
          refine g_iload_n Z dX1_putLowsBySteps_60 rfl ?_
          refine g_iadd Z dX1_putLowsBySteps_61 ?_
          rw [nI_add]
          refine g_istore Z dX1_putLowsBySteps_62 (by decide) ?_
          refine g_goto Z 15 dX1_putLowsBySteps_64 (by decide) ?_
          first | exact g_lv (by repeat (first | exact trivial | refine And.intro rfl ?_)) (ih (i + q) _ _ (by omega) ⟨hT, by omega⟩) | exact g_lv (by repeat (first | exact trivial | refine And.intro rfl ?_)) (ih (i + q) _ _ (by omega) ⟨hT.rowJ.setI (by decide), by omega⟩)
        · refine g_aload_n Z dX1_putLowsBySteps_31 rfl ?_
          refine g_getr Z 1 3 rfl (by decide) in1 lk13 dX1_putLowsBySteps_32 (by assumption) (by assumption) (by assumption) ?_
          refine g_iload Z dX1_putLowsBySteps_35 rfl ?_
          refine g_bipush (v := 6) Z dX1_putLowsBySteps_37 (by decide) ?_
          refine g_ishr Z dX1_putLowsBySteps_39 ?_
          rw [shr6 (by omega)]
          refine g_dup2 Z dX1_putLowsBySteps_40 rfl rfl ?_
          refine g_lald Z dX1_putLowsBySteps_41 (by assumption) (by assumption) (by exact vin_of hwl (by omega) (by decide)) ?_
          refine g_lconst (v := 1) Z dX1_putLowsBySteps_42 (by decide) ?_
          refine g_iload Z dX1_putLowsBySteps_43 rfl ?_
          refine g_lshl Z dX1_putLowsBySteps_45 ?_
          refine g_lor Z dX1_putLowsBySteps_46 ?_
          refine g_last Z dX1_putLowsBySteps_47 (by assumption) (by assumption) (by exact vin_of hwl (by omega) (by decide)) ?_
          refine g_aload_n Z dX1_putLowsBySteps_48 rfl ?_
          refine g_dup Z dX1_putLowsBySteps_49 rfl ?_
          refine g_geti Z 1 2 rfl (by decide) in1 lk34 dX1_putLowsBySteps_50 (by assumption) (by assumption) ?_
          refine g_iconst (v := 1) Z dX1_putLowsBySteps_53 (by decide) ?_
          refine g_iadd Z dX1_putLowsBySteps_54 ?_
          refine g_puti Z 1 2 rfl (by decide) tyX1 tyX1_ok nmX1 rfl in1 lk34 dX1_putLowsBySteps_55 rfl rfl (by assumption) (by assumption) ?_
          refine g_iload Z dX1_putLowsBySteps_58 rfl ?_
          refine g_iload_n Z dX1_putLowsBySteps_60 rfl ?_
          refine g_iadd Z dX1_putLowsBySteps_61 ?_
          rw [nI_add]
          refine g_istore Z dX1_putLowsBySteps_62 (by decide) ?_
          refine g_goto Z 15 dX1_putLowsBySteps_64 (by decide) ?_
          first | exact g_lv (by repeat (first | exact trivial | refine And.intro rfl ?_)) (ih (i + q) _ _ (by omega) ⟨hT, by omega⟩) | exact g_lv (by repeat (first | exact trivial | refine And.intro rfl ?_)) (ih (i + q) _ _ (by omega) ⟨hT.rowJ.setI (by decide), by omega⟩)
  obtain ⟨hcL, hcK, -, w, hww, hwL, hwK, hwl⟩ := id hc
  refine g_iload_n Z dX1_putLowsBySteps_0 rfl ?_
  refine g_iconst (v := 1) Z dX1_putLowsBySteps_1 (by decide) ?_
  refine g_icmp_ge Z 7 dX1_putLowsBySteps_2 (by decide) (fun h2 => ?_) (fun h2 => absurd ((nI_leI (a := 1) (b := q) (by decide) (by omega)).mpr hq1) h2)
  refine g_aload_n Z dX1_putLowsBySteps_7 rfl ?_
  refine g_geti Z 1 2 rfl (by decide) in1 lk34 dX1_putLowsBySteps_8 (by assumption) (by assumption) ?_
  refine g_istore_n Z dX1_putLowsBySteps_11 (by decide) ?_
  refine g_iload_n Z dX1_putLowsBySteps_12 rfl ?_
  refine g_istore Z dX1_putLowsBySteps_13 (by decide) ?_
  exact g_lv (by repeat (first | exact trivial | refine And.intro rfl ?_)) (loop 131073 f _ S (by omega) ⟨Cs.rf, by omega⟩)

theorem begin_post {nw c w k : Nat} {S T : PS} {f : Nat → Int64} {v1 v2 : Int32} (hE : Ex nw S T) (hcr : Cr T c) (hcK : T.K c = 1) (hk : k < 65536) : Ex nw S ((((T.rowJ w f).setI c 0 (nI k)).setI c 1 v1).setI c 2 v2) ∧ Cr ((((T.rowJ w f).setI c 0 (nI k)).setI c 1 v1).setI c 2 v2) c := by
  have h1 : Ex nw T (T.rowJ w f) := Cs.ex (c := c) Cs.rf.rowJ hcK
  have h2 : Ex nw (T.rowJ w f) ((T.rowJ w f).setI c 0 (nI k)) := Ex.setKey hcK hk
  have h3 : Ex nw ((T.rowJ w f).setI c 0 (nI k)) ((((T.rowJ w f).setI c 0 (nI k)).setI c 1 v1).setI c 2 v2) := Cs.ex (c := c) ((Cs.rf.setI (by decide)).setI (by decide)) hcK
  have h4 := h1.tr (h2.tr h3)
  exact ⟨hE.tr h4, h4.2.2 c hcr⟩

set_option maxRecDepth 100000 in
set_option maxHeartbeats 4000000 in
/-- an empty container of a key -/
theorem c_X1_begin (l : Launch) (D : va_G) (cy : Nat → ClassId) (nw : Nat) (S : PS) (c : Nat) (hc : Cw S nw c) (k : Nat) (hk : k < 65536) : kV l yX1_begin wsX1_begin 1 24 D cy nw [.ref c, .int (nI k)] S (fun T => Ex nw S T ∧ Cr T c) 1 1024 := by
  refine enterV (cc := cX1_begin) (nL := 2) (ret := none) (by decide +kernel) rfl (Nat.le_of_ble_eq_true rfl) ?_
  intro F Z hl hR hD hcy hnw hnm
  subst hl hD hcy hnw
  have hRf : F.R.frames = 1 := by rw [hR]
  have hRc : F.R.cells = 1 := by rw [hR]
  have hRs : F.R.slots = 1024 := by rw [hR]
  have hRl : F.R.locals = 24 := by rw [hR]
  have in1 : ∀ w ∈ u_ws RX1 TX1 4, w ∈ wsX1_begin := by decide +kernel
  have lk13 : Cond.fieldLink RX1 13 (TX1 3).1 (TX1 3).2.1 (TX1 3).2.2.1 ∈ wsX1_begin := by decide +kernel
  have lk27 : Cond.fieldLink RX1 27 (TX1 0).1 (TX1 0).2.1 (TX1 0).2.2.1 ∈ wsX1_begin := by decide +kernel
  have lk31 : Cond.fieldLink RX1 31 (TX1 1).1 (TX1 1).2.1 (TX1 1).2.2.1 ∈ wsX1_begin := by decide +kernel
  have lk34 : Cond.fieldLink RX1 34 (TX1 2).1 (TX1 2).2.1 (TX1 2).2.2.1 ∈ wsX1_begin := by decide +kernel
  refine g_aload_n Z dX1_begin_0 rfl ?_
  refine g_cvV Z (c_X1_makeRoom F.l F.D F.cy F.nw _ c hc) 0 gX1_begin_X1_makeRoom rfl (by decide +kernel) (by rw [hRf, hRl]; decide) (by exact hc.1) (κ := 1) (by exact hc.2.1) rfl (by decide) rfl rfl (Nat.le_of_ble_eq_true rfl) dX1_begin_1 (by rw [hRc, hRs]; omega) (fun T hp => ?_)
  obtain ⟨hE, hcr⟩ := hp
  obtain ⟨hcL, hcK, -, w, hww, hwL, hwK, hwl⟩ := id hcr
  refine g_aload_n Z dX1_begin_4 rfl ?_
  refine g_getr Z 1 3 rfl (by decide) in1 lk13 dX1_begin_5 (by assumption) (by assumption) (by assumption) ?_
  refine g_lconst (v := 0) Z dX1_begin_8 (by decide) ?_
  refine g_csV Z (c_J7_fill_d0a16 F.l F.D F.cy F.nw _ w 0 hwL hwK hwl) 2 gX1_begin_J7_fill_d0a16 rfl (by decide +kernel) (by rw [hRf, hRl]; decide) rfl rfl (Nat.le_of_ble_eq_true rfl) dX1_begin_9 (by rw [hRc, hRs]; omega) (fun U hp => ?_)
  obtain ⟨f, rfl⟩ := hp
  refine g_aload_n Z dX1_begin_12 rfl ?_
  refine g_iload_n Z dX1_begin_13 rfl ?_
  refine g_puti Z 1 0 rfl (by decide) tyX1 tyX1_ok nmX1 rfl in1 lk27 dX1_begin_14 rfl rfl (by assumption) (by assumption) ?_
  refine g_aload_n Z dX1_begin_17 rfl ?_
  refine g_iconst (v := 0) Z dX1_begin_18 (by decide) ?_
  refine g_puti Z 1 1 rfl (by decide) tyX1 tyX1_ok nmX1 rfl in1 lk31 dX1_begin_19 rfl rfl (by assumption) (by assumption) ?_
  refine g_aload_n Z dX1_begin_22 rfl ?_
  refine g_iconst (v := 0) Z dX1_begin_23 (by decide) ?_
  refine g_puti Z 1 2 rfl (by decide) tyX1 tyX1_ok nmX1 rfl in1 lk34 dX1_begin_24 rfl rfl (by assumption) (by assumption) ?_
  exact g_vret Z dX1_begin_27 (by omega) (by omega) (by exact begin_post hE hcr hcK hk)

set_option maxRecDepth 100000 in
set_option maxHeartbeats 4000000 in
/-- becomes what another is -/
theorem c_X1_copyLowsOf (l : Launch) (D : va_G) (cy : Nat → ClassId) (nw : Nat) (S : PS) (c d : Nat) (hc : Cw S nw c) (hd : Cr S d) : kV l yX1_copyLowsOf wsX1_copyLowsOf 1 60 D cy nw [.ref c, .ref d] S (fun T => Ex nw S T ∧ Cr T c) 1 1024 := by
  refine enterV (cc := cX1_copyLowsOf) (nL := 2) (ret := none) (by decide +kernel) rfl (Nat.le_of_ble_eq_true rfl) ?_
  intro F Z hl hR hD hcy hnw hnm
  subst hl hD hcy hnw
  have hRf : F.R.frames = 1 := by rw [hR]
  have hRc : F.R.cells = 1 := by rw [hR]
  have hRs : F.R.slots = 1024 := by rw [hR]
  have hRl : F.R.locals = 60 := by rw [hR]
  have in1 : ∀ w ∈ u_ws RX1 TX1 4, w ∈ wsX1_copyLowsOf := by decide +kernel
  have lk13 : Cond.fieldLink RX1 13 (TX1 3).1 (TX1 3).2.1 (TX1 3).2.2.1 ∈ wsX1_copyLowsOf := by decide +kernel
  have lk27 : Cond.fieldLink RX1 27 (TX1 0).1 (TX1 0).2.1 (TX1 0).2.2.1 ∈ wsX1_copyLowsOf := by decide +kernel
  have lk31 : Cond.fieldLink RX1 31 (TX1 1).1 (TX1 1).2.1 (TX1 1).2.2.1 ∈ wsX1_copyLowsOf := by decide +kernel
  have lk34 : Cond.fieldLink RX1 34 (TX1 2).1 (TX1 2).2.1 (TX1 2).2.2.1 ∈ wsX1_copyLowsOf := by decide +kernel
  refine g_aload_n Z dX1_copyLowsOf_0 rfl ?_
  refine g_cvV Z (c_X1_makeRoom F.l F.D F.cy F.nw _ c hc) 0 gX1_copyLowsOf_X1_makeRoom rfl (by decide +kernel) (by rw [hRf, hRl]; decide) (by exact hc.1) (κ := 1) (by exact hc.2.1) rfl (by decide) rfl rfl (Nat.le_of_ble_eq_true rfl) dX1_copyLowsOf_1 (by rw [hRc, hRs]; omega) (fun T hp => ?_)
  obtain ⟨hE, hcr⟩ := hp
  have hdr := hE.2.2 d hd
  obtain ⟨hcL, hcK, -, w, hww, hwL, hwK, hwl⟩ := id hcr
  obtain ⟨hdL, hdK, ⟨k, hk, ek⟩, v, hvv, hvL, hvK, hvl⟩ := id hdr
  refine g_aload_n Z dX1_copyLowsOf_4 rfl ?_
  refine g_getr Z 1 3 rfl (by decide) in1 lk13 dX1_copyLowsOf_5 (by assumption) (by assumption) (by assumption) ?_
  refine g_iconst (v := 0) Z dX1_copyLowsOf_8 (by decide) ?_
  refine g_aload_n Z dX1_copyLowsOf_9 rfl ?_
  refine g_getr Z 1 3 rfl (by decide) in1 lk13 dX1_copyLowsOf_10 (by assumption) (by assumption) (by assumption) ?_
  refine g_iconst (v := 0) Z dX1_copyLowsOf_13 (by decide) ?_
  refine g_sipush (v := 1024) Z dX1_copyLowsOf_14 (by decide) ?_
  refine g_copyJ Z (by decide +kernel) (by decide +kernel) (by decide +kernel) (by decide +kernel) dX1_copyLowsOf_17 hvL hvK hwL hwK (by decide) (by decide) (by decide) (by rw [hvl]; decide) (by rw [hwl]; decide) (by rw [hRf]; decide) (by rw [hRl]; decide) ?_
  refine g_aload_n Z dX1_copyLowsOf_20 rfl ?_
  refine g_aload_n Z dX1_copyLowsOf_21 rfl ?_
  refine g_geti Z 1 0 rfl (by decide) in1 lk27 dX1_copyLowsOf_22 (by assumption) (by assumption) ?_
  rw [show PS.fi (PS.rowJ T w _) d 0 = nI k from ek]
  refine g_puti Z 1 0 rfl (by decide) tyX1 tyX1_ok nmX1 rfl in1 lk27 dX1_copyLowsOf_25 rfl rfl (by assumption) (by assumption) ?_
  refine g_aload_n Z dX1_copyLowsOf_28 rfl ?_
  refine g_aload_n Z dX1_copyLowsOf_29 rfl ?_
  refine g_geti Z 1 1 rfl (by decide) in1 lk31 dX1_copyLowsOf_30 (by assumption) (by assumption) ?_
  refine g_puti Z 1 1 rfl (by decide) tyX1 tyX1_ok nmX1 rfl in1 lk31 dX1_copyLowsOf_33 rfl rfl (by assumption) (by assumption) ?_
  refine g_aload_n Z dX1_copyLowsOf_36 rfl ?_
  refine g_aload_n Z dX1_copyLowsOf_37 rfl ?_
  refine g_geti Z 1 2 rfl (by decide) in1 lk34 dX1_copyLowsOf_38 (by assumption) (by assumption) ?_
  refine g_puti Z 1 2 rfl (by decide) tyX1 tyX1_ok nmX1 rfl in1 lk34 dX1_copyLowsOf_41 rfl rfl (by assumption) (by assumption) ?_
  exact g_vret Z dX1_copyLowsOf_44 (by omega) (by omega) (by exact begin_post hE hcr hcK hk)

set_option maxRecDepth 100000 in
set_option maxHeartbeats 4000000 in
/-- what two containers have together -/
theorem c_X1_becomeMix (l : Launch) (D : va_G) (cy : Nat → ClassId) (nw : Nat) (S : PS) (c a b : Nat) (hc : Cw S nw c) (ha : Cr S a) (hb : Cr S b) (x : Int32) : kV l yX1_becomeMix wsX1_becomeMix 2 43 D cy nw [.ref c, .int x, .ref a, .ref b] S (fun T => Ex nw S T ∧ Cr T c) 1 1024 := by
  refine enterV (cc := cX1_becomeMix) (nL := 7) (ret := none) (by decide +kernel) rfl (Nat.le_of_ble_eq_true rfl) ?_
  intro F Z hl hR hD hcy hnw hnm
  subst hl hD hcy hnw
  have hRf : F.R.frames = 2 := by rw [hR]
  have hRc : F.R.cells = 1 := by rw [hR]
  have hRs : F.R.slots = 1024 := by rw [hR]
  have hRl : F.R.locals = 43 := by rw [hR]
  have in1 : ∀ w ∈ u_ws RX1 TX1 4, w ∈ wsX1_becomeMix := by decide +kernel
  have lk13 : Cond.fieldLink RX1 13 (TX1 3).1 (TX1 3).2.1 (TX1 3).2.2.1 ∈ wsX1_becomeMix := by decide +kernel
  have lk27 : Cond.fieldLink RX1 27 (TX1 0).1 (TX1 0).2.1 (TX1 0).2.2.1 ∈ wsX1_becomeMix := by decide +kernel
  have lk31 : Cond.fieldLink RX1 31 (TX1 1).1 (TX1 1).2.1 (TX1 1).2.2.1 ∈ wsX1_becomeMix := by decide +kernel
  have lk34 : Cond.fieldLink RX1 34 (TX1 2).1 (TX1 2).2.1 (TX1 2).2.2.1 ∈ wsX1_becomeMix := by decide +kernel
  refine g_aload_n Z dX1_becomeMix_0 rfl ?_
  refine g_cvV Z (c_X1_makeRoom F.l F.D F.cy F.nw _ c hc) 0 gX1_becomeMix_X1_makeRoom rfl (by decide +kernel) (by rw [hRf, hRl]; decide) (by exact hc.1) (κ := 1) (by exact hc.2.1) rfl (by decide) rfl rfl (Nat.le_of_ble_eq_true rfl) dX1_becomeMix_1 (by rw [hRc, hRs]; omega) (fun S1 hp => ?_)
  obtain ⟨hE, hcr⟩ := hp
  have har := hE.2.2 a ha
  have hbr := hE.2.2 b hb
  obtain ⟨hcL, hcK, -, w, hww, hwL, hwK, hwl⟩ := id hcr
  obtain ⟨haL, haK, ⟨k, hk, ek⟩, -⟩ := id har
  refine g_aload_n Z dX1_becomeMix_4 rfl ?_
  refine g_aload_n Z dX1_becomeMix_5 rfl ?_
  refine g_geti Z 1 0 rfl (by decide) in1 lk27 dX1_becomeMix_6 (by assumption) (by assumption) ?_
  rw [ek]
  refine g_puti Z 1 0 rfl (by decide) tyX1 tyX1_ok nmX1 rfl in1 lk27 dX1_becomeMix_9 rfl rfl (by assumption) (by assumption) ?_
  refine g_aload_n Z dX1_becomeMix_12 rfl ?_
  refine g_iconst (v := 0) Z dX1_becomeMix_13 (by decide) ?_
  refine g_puti Z 1 2 rfl (by decide) tyX1 tyX1_ok nmX1 rfl in1 lk34 dX1_becomeMix_14 rfl rfl (by assumption) (by assumption) ?_
  refine g_iconst (v := 0) Z dX1_becomeMix_17 (by decide) ?_
  refine g_istore Z dX1_becomeMix_18 (by decide) ?_
  have hE2 : Ex F.nw S ((S1.setI c 0 (nI k)).setI c 2 0) := hE.tr ((Ex.setKey hcK hk).tr (Cs.ex (c := c) (Cs.rf.setI (by decide)) hcK))
  have hE3 : Ex F.nw S1 ((S1.setI c 0 (nI k)).setI c 2 0) := (Ex.setKey hcK hk).tr (Cs.ex (c := c) (Cs.rf.setI (by decide)) hcK)
  have hcr2 := hE3.2.2 c hcr
  have har2 := hE3.2.2 a har
  have hbr2 := hE3.2.2 b hbr
  generalize (S1.setI c 0 (nI k)).setI c 2 0 = S2 at hE2 hcr2 har2 hbr2 ⊢
  have loop : ∀ (n : Nat) (i : Nat) (T : PS), 1024 - i < n → (Cs c S2 T ∧ i ≤ 1024) → G F 7 T (0 + 1) (0 + 1024) (QV F (fun T => Ex F.nw S T ∧ Cr T c) 1 1024) 20 [(0, .ref c), (1, .int x), (2, .ref a), (3, .ref b), (4, .int (nI i))] [] := by
    intro n
    induction n with
    | zero => intros; omega
    | succ n ih =>
      intro i T hn ⟨hT, hi⟩
      have hcrT := hT.cr hcr2
      have harT := hT.cr har2
      have hbrT := hT.cr hbr2
      obtain ⟨hcL, hcK, -, w, hww, hwL, hwK, hwl⟩ := id hcrT
      obtain ⟨haL, haK, -, wa, hwa, hwaL, hwaK, hwal⟩ := id harT
      obtain ⟨hbL, hbK, -, wb, hwb, hwbL, hwbK, hwbl⟩ := id hbrT
      have hET : Ex F.nw S T := hE2.tr (hT.ex (hE2.1 c hc.1 |>.2.1.trans hc.2.1))
      refine g_iload Z dX1_becomeMix_20 rfl ?_
      refine g_sipush (v := 1024) Z dX1_becomeMix_22 (by decide) ?_
      refine g_icmp_ge Z 77 dX1_becomeMix_25 (by decide) (fun h25 => ?_) (fun h25 => ?_)
      · refine g_aload_n Z dX1_becomeMix_77 rfl ?_
        refine g_aload_n Z dX1_becomeMix_78 rfl ?_
        refine g_cvI Z (c_X1_hasLowsOf F.l F.D F.cy F.nw _ c a hcrT harT) 1 gX1_becomeMix_X1_hasLowsOf rfl (by decide +kernel) (by rw [hRf, hRl]; decide) (by assumption) (κ := 1) (by assumption) rfl (by decide) rfl rfl (Nat.le_of_ble_eq_true rfl) dX1_becomeMix_79 (by rw [hRc, hRs]; omega) (fun r U hp => ?_)
        obtain ⟨rfl, -⟩ := hp
        refine g_if_eq Z 96 dX1_becomeMix_82 (by decide) (fun h82 => ?_) (fun h82 => ?_)
        · refine g_aload_n Z dX1_becomeMix_96 rfl ?_
          refine g_aload_n Z dX1_becomeMix_97 rfl ?_
          refine g_cvI Z (c_X1_hasLowsOf F.l F.D F.cy F.nw _ c b hcrT hbrT) 1 gX1_becomeMix_X1_hasLowsOf rfl (by decide +kernel) (by rw [hRf, hRl]; decide) (by assumption) (κ := 1) (by assumption) rfl (by decide) rfl rfl (Nat.le_of_ble_eq_true rfl) dX1_becomeMix_98 (by rw [hRc, hRs]; omega) (fun r U hp => ?_)
          obtain ⟨rfl, -⟩ := hp
          refine g_if_eq Z 115 dX1_becomeMix_101 (by decide) (fun h101 => ?_) (fun h101 => ?_)
          · refine g_aload_n Z dX1_becomeMix_115 rfl ?_
            refine g_cvV Z (c_X1_setPlainKind F.l F.D F.cy F.nw _ c hcL hcK) 0 gX1_becomeMix_X1_setPlainKind rfl (by decide +kernel) (by rw [hRf, hRl]; decide) (by assumption) (κ := 1) (by assumption) rfl (by decide) rfl rfl (Nat.le_of_ble_eq_true rfl) dX1_becomeMix_116 (by rw [hRc, hRs]; omega) (fun U hp => ?_)
            exact g_vret Z dX1_becomeMix_119 (by omega) (by omega) (by first | exact ⟨hET.tr (hp.ex hcK), hp.cr hcrT⟩ | exact ⟨hET.tr (Cs.ex (c := c) (Cs.rf.setI (by decide)) hcK), Cs.cr (c := c) (Cs.rf.setI (by decide)) hcrT⟩)
          · refine g_aload_n Z dX1_becomeMix_104 rfl ?_
            refine g_aload_n Z dX1_becomeMix_105 rfl ?_
            refine g_geti Z 1 1 rfl (by decide) in1 lk31 dX1_becomeMix_106 (by assumption) (by assumption) ?_
            refine g_puti Z 1 1 rfl (by decide) tyX1 tyX1_ok nmX1 rfl in1 lk31 dX1_becomeMix_109 rfl rfl (by assumption) (by assumption) ?_
            refine g_goto Z 119 dX1_becomeMix_112 (by decide) ?_
            exact g_vret Z dX1_becomeMix_119 (by omega) (by omega) (by first | exact ⟨hET.tr (hp.ex hcK), hp.cr hcrT⟩ | exact ⟨hET.tr (Cs.ex (c := c) (Cs.rf.setI (by decide)) hcK), Cs.cr (c := c) (Cs.rf.setI (by decide)) hcrT⟩)
        · refine g_aload_n Z dX1_becomeMix_85 rfl ?_
          refine g_aload_n Z dX1_becomeMix_86 rfl ?_
          refine g_geti Z 1 1 rfl (by decide) in1 lk31 dX1_becomeMix_87 (by assumption) (by assumption) ?_
          refine g_puti Z 1 1 rfl (by decide) tyX1 tyX1_ok nmX1 rfl in1 lk31 dX1_becomeMix_90 rfl rfl (by assumption) (by assumption) ?_
          refine g_goto Z 119 dX1_becomeMix_93 (by decide) ?_
          exact g_vret Z dX1_becomeMix_119 (by omega) (by omega) (by first | exact ⟨hET.tr (hp.ex hcK), hp.cr hcrT⟩ | exact ⟨hET.tr (Cs.ex (c := c) (Cs.rf.setI (by decide)) hcK), Cs.cr (c := c) (Cs.rf.setI (by decide)) hcrT⟩)
      · have hlt : i < 1024 := ge_f (by omega) (by decide) h25
        refine g_iload_n Z dX1_becomeMix_28 rfl ?_
        refine g_aload_n Z dX1_becomeMix_29 rfl ?_
        refine g_getr Z 1 3 rfl (by decide) in1 lk13 dX1_becomeMix_30 (by assumption) (by assumption) (by assumption) ?_
        refine g_iload Z dX1_becomeMix_33 rfl ?_
        refine g_lald Z dX1_becomeMix_35 (by assumption) (by assumption) (by exact vin_of hwal hlt (by decide)) ?_
        refine g_aload_n Z dX1_becomeMix_36 rfl ?_
        refine g_getr Z 1 3 rfl (by decide) in1 lk13 dX1_becomeMix_37 (by assumption) (by assumption) (by assumption) ?_
        refine g_iload Z dX1_becomeMix_40 rfl ?_
        refine g_lald Z dX1_becomeMix_42 (by assumption) (by assumption) (by exact vin_of hwbl hlt (by decide)) ?_
        refine g_csL Z (c_X1_mix F.l F.D F.cy F.nw _ _ _ _) 3 gX1_becomeMix_X1_mix rfl (by decide +kernel) (by rw [hRf, hRl]; decide) rfl rfl (Nat.le_of_ble_eq_true rfl) dX1_becomeMix_43 (by rw [hRc, hRs]; omega) (fun r U hp => ?_)
        obtain rfl := hp
        refine g_lstore Z dX1_becomeMix_46 (by decide) ?_
        refine g_aload_n Z dX1_becomeMix_48 rfl ?_
        refine g_getr Z 1 3 rfl (by decide) in1 lk13 dX1_becomeMix_49 (by assumption) (by assumption) (by assumption) ?_
        refine g_iload Z dX1_becomeMix_52 rfl ?_
        refine g_lload Z dX1_becomeMix_54 rfl ?_
        refine g_last Z dX1_becomeMix_56 (by assumption) (by assumption) (by exact vin_of hwl hlt (by decide)) ?_
        refine g_aload_n Z dX1_becomeMix_57 rfl ?_
        refine g_dup Z dX1_becomeMix_58 rfl ?_
        refine g_geti Z 1 2 rfl (by decide) in1 lk34 dX1_becomeMix_59 (by assumption) (by assumption) ?_
        refine g_lload Z dX1_becomeMix_62 rfl ?_
        refine g_csI Z (c_J13_bitCount_95d88 F.l F.D F.cy F.nw _ _) 1 gX1_becomeMix_J13_bitCount_95d88 rfl (by decide +kernel) (by rw [hRf, hRl]; decide) rfl rfl (Nat.le_of_ble_eq_true rfl) dX1_becomeMix_64 (by rw [hRc, hRs]; omega) (fun r U hp => ?_)
        obtain ⟨rfl, -⟩ := hp
        refine g_iadd Z dX1_becomeMix_67 ?_
        refine g_puti Z 1 2 rfl (by decide) tyX1 tyX1_ok nmX1 rfl in1 lk34 dX1_becomeMix_68 rfl rfl (by assumption) (by assumption) ?_
        refine g_iinc (c := 1) Z dX1_becomeMix_71 rfl (by decide) (by decide) ?_
        rw [nI_1]
        refine g_goto Z 20 dX1_becomeMix_74 (by decide) ?_
        exact g_lv (by repeat (first | exact trivial | refine And.intro rfl ?_)) (ih (i + 1) _ (by omega) ⟨hT.rowJ.setI (by decide), by omega⟩)
  exact g_lv (by repeat (first | exact trivial | refine And.intro rfl ?_)) (loop 1025 0 S2 (by omega) ⟨Cs.rf, by omega⟩)
