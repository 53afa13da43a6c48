/-! FORMULAS: signs, and how high the pile is -/
def sg (x : Int64) (i : Nat) : Nat := (lsr x (8 * nI i)).toBitVec.toNat % 256
theorem sg_lt (x : Int64) (i : Nat) : sg x i < 256 := Nat.mod_lt _ (by decide)
theorem sg_c (x : Int64) (i : Nat) : (lsr x (8 * nI i)).toInt32 &&& 255 = nI (sg x i) := by
  rw [pk_and _ 8 (by decide)]
  congr 1
  unfold sg
  generalize lsr x (8 * nI i) = y
  show (y.toBitVec.signExtend 32).toNat % 2 ^ 8 = _
  have h1 : (y.toBitVec.signExtend 32) = y.toBitVec.setWidth 32 := by
    rw [BitVec.signExtend_eq_setWidth_of_le _ (by decide)]
  rw [h1, BitVec.toNat_setWidth]
  omega
theorem sg_m (x : Int64) (i : Nat) : (lsr x (8 * nI i) &&& 255).toInt32 = nI (sg x i) := by
  unfold sg
  obtain ⟨v, hv, ev⟩ := wb_of (lsr x (8 * nI i))
  rw [ev, show (255 : Int64) = lN (2 ^ 8 - 1) from rfl, wb_mask hv (by decide), lN_i, wb_tn hv]
def stp (h g : Nat) : Option Nat := if g < 8 ∨ g = 20 then (if h = 8 then none else some (h + 1)) else if 16 ≤ g ∧ g ≤ 19 ∧ 2 ≤ h then some (h - 1) else if g = 255 then some h else none
def hts (x : Int64) : Nat → Option Nat
  | 0 => some 0
  | k + 1 => (hts x k).bind (fun h => stp h (sg x k))
theorem hts_s {x : Int64} {k h : Nat} (e : hts x k = some h) : hts x (k + 1) = stp h (sg x k) := by
  show (hts x k).bind _ = _
  rw [e]; rfl
theorem hts_none {x : Int64} {j n : Nat} (e : hts x j = none) (h : j ≤ n) : hts x n = none := by
  induction n with
  | zero => rw [Nat.le_zero.mp h] at e; exact e
  | succ n ih =>
    by_cases q : j = n + 1
    · rw [← q]; exact e
    · show (hts x n).bind _ = none
      rw [ih (by omega)]; rfl
/-- whether a formula is one -/
def sound (x : Int64) (n : Int32) : Prop := ∃ k : Nat, 1 ≤ k ∧ k ≤ 8 ∧ n = nI k ∧ hts x k = some 1
theorem not_sound {x : Int64} {k : Nat} (hk : k < 2 ^ 31) (h : hts x k ≠ some 1) : ¬ sound x (nI k) := by
  intro ⟨k2, h1, h2, h3, h4⟩
  have := (nI_eq hk (by omega)).mp h3
  subst this
  exact h h4

set_option maxRecDepth 100000 in
set_option maxHeartbeats 2000000 in
/-- static -/
theorem c_X3_signAt (l : Launch) (D : va_G) (cy : Nat → ClassId) (nw : Nat) (S : PS) (x : Int64) (i : Nat) : kI l yX3_signAt wsX3_signAt 0 0 D cy nw [.long x, .int (nI i)] S (fun r T => S = T ∧ r = nI (sg x i)) 0 0 := by
  refine enterI (cc := cX3_signAt) (nL := 3) (ret := (some .int)) (by decide +kernel) rfl (Nat.le_of_ble_eq_true rfl) ?_
  intro F Z hl hR hD hcy hnw hnm
  subst hl hD hcy hnw
  have hRf : F.R.frames = 0 := by rw [hR]
  have hRc : F.R.cells = 0 := by rw [hR]
  have hRs : F.R.slots = 0 := by rw [hR]
  have hRl : F.R.locals = 0 := by rw [hR]
  refine g_lload_n Z dX3_signAt_0 rfl ?_
  refine g_bipush (v := 8) Z dX3_signAt_1 (by decide) ?_
  refine g_iload_n Z dX3_signAt_3 rfl ?_
  refine g_imul Z dX3_signAt_4 ?_
  refine g_lushr Z dX3_signAt_5 ?_
  refine g_l2i Z dX3_signAt_6 ?_
  refine g_sipush (v := 255) Z dX3_signAt_7 (by decide) ?_
  refine g_iand Z dX3_signAt_10 ?_
  rw [show (Int64.toInt32 (UInt64.toInt64 (Int64.toUInt64 x >>> (Int64.toUInt64 (Int32.toInt64 (8 * nI i)) &&& Int64.toUInt64 63)))) &&& 255 = nI (sg x i) from sg_c x i]
  exact g_iret Z dX3_signAt_11 (by omega) (by omega) (⟨rfl, rfl⟩)

set_option maxRecDepth 100000 in
set_option maxHeartbeats 2000000 in
/-- static -/
theorem c_X3_isJoin (l : Launch) (D : va_G) (cy : Nat → ClassId) (nw : Nat) (S : PS) (g : Nat) (hg : g < 256) : kI l yX3_isJoin wsX3_isJoin 0 0 D cy nw [.int (nI g)] S (fun r T => S = T ∧ ((r = 0 ∧ ¬ (16 ≤ g ∧ g ≤ 19)) ∨ (r = 1 ∧ 16 ≤ g ∧ g ≤ 19))) 0 0 := by
  refine enterI (cc := cX3_isJoin) (nL := 1) (ret := (some .boolean)) (by decide +kernel) rfl (Nat.le_of_ble_eq_true rfl) ?_
  intro F Z hl hR hD hcy hnw hnm
  subst hl hD hcy hnw
  have hRf : F.R.frames = 0 := by rw [hR]
  have hRc : F.R.cells = 0 := by rw [hR]
  have hRs : F.R.slots = 0 := by rw [hR]
  have hRl : F.R.locals = 0 := by rw [hR]
  refine g_iload_n Z dX3_isJoin_0 rfl ?_
  refine g_bipush (v := 16) Z dX3_isJoin_1 (by decide) ?_
  refine g_icmp_lt Z 16 dX3_isJoin_3 (by decide) (fun h3 => ?_) (fun h3 => ?_)
  · refine g_iconst (v := 0) Z dX3_isJoin_16 (by decide) ?_
    exact g_zret Z dX3_isJoin_17 (by rfl) (by omega) (by omega) (by first | exact ⟨rfl, Or.inl ⟨rfl, fun h => absurd (lt_t (i := g) (N := 16) (by omega) (by decide) h3) (by omega)⟩⟩ | exact ⟨rfl, Or.inl ⟨rfl, fun h => absurd ((nI_ltI (a := 19) (by decide) (by omega)).mp h9) (by omega)⟩⟩ | exact ⟨rfl, Or.inr ⟨rfl, lt_f (N := 16) (by omega) (by decide) h3, gt_f (N := 19) (by omega) (by decide) h9⟩⟩)
  · refine g_iload_n Z dX3_isJoin_6 rfl ?_
    refine g_bipush (v := 19) Z dX3_isJoin_7 (by decide) ?_
    refine g_icmp_gt Z 16 dX3_isJoin_9 (by decide) (fun h9 => ?_) (fun h9 => ?_)
    · refine g_iconst (v := 0) Z dX3_isJoin_16 (by decide) ?_
      exact g_zret Z dX3_isJoin_17 (by rfl) (by omega) (by omega) (by first | exact ⟨rfl, Or.inl ⟨rfl, fun h => absurd (lt_t (i := g) (N := 16) (by omega) (by decide) h3) (by omega)⟩⟩ | exact ⟨rfl, Or.inl ⟨rfl, fun h => absurd ((nI_ltI (a := 19) (by decide) (by omega)).mp h9) (by omega)⟩⟩ | exact ⟨rfl, Or.inr ⟨rfl, lt_f (N := 16) (by omega) (by decide) h3, gt_f (N := 19) (by omega) (by decide) h9⟩⟩)
    · refine g_iconst (v := 1) Z dX3_isJoin_12 (by decide) ?_
      refine g_goto Z 17 dX3_isJoin_13 (by decide) ?_
      exact g_zret Z dX3_isJoin_17 (by rfl) (by omega) (by omega) (by first | exact ⟨rfl, Or.inl ⟨rfl, fun h => absurd (lt_t (i := g) (N := 16) (by omega) (by decide) h3) (by omega)⟩⟩ | exact ⟨rfl, Or.inl ⟨rfl, fun h => absurd ((nI_ltI (a := 19) (by decide) (by omega)).mp h9) (by omega)⟩⟩ | exact ⟨rfl, Or.inr ⟨rfl, lt_f (N := 16) (by omega) (by decide) h3, gt_f (N := 19) (by omega) (by decide) h9⟩⟩)

set_option maxRecDepth 100000 in
set_option maxHeartbeats 2000000 in
/-- static -/
theorem c_X3_isSound (l : Launch) (D : va_G) (cy : Nat → ClassId) (nw : Nat) (S : PS) (x : Int64) (n0 : Int32) : kI l yX3_isSound wsX3_isSound 1 22 D cy nw [.long x, .int n0] S (fun r T => S = T ∧ ((r = 1 ∧ sound x n0) ∨ (r = 0 ∧ ¬ sound x n0))) 0 0 := by
  refine enterI (cc := cX3_isSound) (nL := 6) (ret := (some .boolean)) (by decide +kernel) rfl (Nat.le_of_ble_eq_true rfl) ?_
  intro F Z hl hR hD hcy hnw hnm
  subst hl hD hcy hnw
  have hRf : F.R.frames = 1 := by rw [hR]
  have hRc : F.R.cells = 0 := by rw [hR]
  have hRs : F.R.slots = 0 := by rw [hR]
  have hRl : F.R.locals = 22 := by rw [hR]
  by_cases hn1 : n0 < 1
  · refine g_iload_n Z dX3_isSound_0 rfl ?_
    refine g_iconst (v := 1) Z dX3_isSound_1 (by decide) ?_
    refine g_icmp_lt Z 11 dX3_isSound_2 (by decide) (fun h2 => ?_) (fun h2 => absurd (hn1) h2)
    refine g_iconst (v := 0) Z dX3_isSound_11 (by decide) ?_
    exact g_zret Z dX3_isSound_12 (by rfl) (by omega) (by omega) (⟨rfl, Or.inr ⟨rfl, fun ⟨k, a, b, c, d⟩ => absurd hn1 (by rw [c]; exact nI_nlt a (by omega))⟩⟩)
  · by_cases hn8 : n0 ≤ 8
    · obtain ⟨k, hk, rfl⟩ : ∃ k : Nat, k ≤ 8 ∧ n0 = nI k := nI_of2 (M := 8) (n := 8) (by decide) (fun h => hn1 (Int32.lt_trans h (by decide))) hn8
      have hk1 : 1 ≤ k := lt_f (i := k) (N := 1) (by omega) (by decide) hn1
      have loop : ∀ (m j hh : Nat), 9 - j < m → (j ≤ k ∧ hh ≤ 8 ∧ hts x j = some hh) → G F 6 S 0 0 (QI F (fun r T => S = T ∧ ((r = 1 ∧ sound x (nI k)) ∨ (r = 0 ∧ ¬ sound x (nI k)))) 0 0) 18 [(0, .long x), (2, .int (nI k)), (3, .int (nI hh)), (4, .int (nI j))] [] := by
        intro m
        induction m with
        | zero => intros; omega
        | succ m ih =>
          intro j hh hm ⟨hj, hh8, hts⟩
          have hsg := sg_lt x j
          have hs1 := hts_s hts
          refine g_iload Z dX3_isSound_18 rfl ?_
          refine g_iload_n Z dX3_isSound_20 rfl ?_
          refine g_icmp_ge Z 95 dX3_isSound_21 (by decide) (fun h21 => ?_) (fun h21 => ?_)
          · have he : j = k := by have := ge_t (by omega) (by omega) h21; omega
            subst he
            refine g_iload_n Z dX3_isSound_95 rfl ?_
            refine g_iconst (v := 1) Z dX3_isSound_96 (by decide) ?_
            refine g_icmp_ne Z 104 dX3_isSound_97 (by decide) (fun h97 => ?_) (fun h97 => ?_)
            · refine g_iconst (v := 0) Z dX3_isSound_104 (by decide) ?_
              exact g_zret Z dX3_isSound_105 (by rfl) (by omega) (by omega) (by first | exact ⟨rfl, Or.inl ⟨rfl, j, hk1, hk, rfl, by rw [hts, (nI_eq (b := 1) (by omega) (by decide)).mp h97]⟩⟩ | exact ⟨rfl, Or.inr ⟨rfl, not_sound (by omega) (by rw [hts]; exact fun h => h97 (congrArg nI (Option.some.inj h)))⟩⟩)
            · refine g_iconst (v := 1) Z dX3_isSound_100 (by decide) ?_
              refine g_goto Z 105 dX3_isSound_101 (by decide) ?_
              exact g_zret Z dX3_isSound_105 (by rfl) (by omega) (by omega) (by first | exact ⟨rfl, Or.inl ⟨rfl, j, hk1, hk, rfl, by rw [hts, (nI_eq (b := 1) (by omega) (by decide)).mp h97]⟩⟩ | exact ⟨rfl, Or.inr ⟨rfl, not_sound (by omega) (by rw [hts]; exact fun h => h97 (congrArg nI (Option.some.inj h)))⟩⟩)
          · have hlt : j < k := ge_f (by omega) (by omega) h21
            refine g_lload_n Z dX3_isSound_24 rfl ?_
            refine g_iload Z dX3_isSound_25 rfl ?_
            refine g_csI Z (c_X3_signAt F.l F.D F.cy F.nw _ x j) 2 gX3_isSound_X3_signAt rfl (by decide +kernel) (by rw [hRf, hRl]; decide) rfl rfl (Nat.le_of_ble_eq_true rfl) dX3_isSound_27 (by rw [hRc, hRs]; omega) (fun r T hp => ?_)
            obtain ⟨rfl, rfl⟩ := hp
            refine g_istore Z dX3_isSound_30 (by decide) ?_
            refine g_iload Z dX3_isSound_32 rfl ?_
            refine g_bipush (v := 8) Z dX3_isSound_34 (by decide) ?_
            refine g_icmp_lt Z 46 dX3_isSound_36 (by decide) (fun h36 => ?_) (fun h36 => ?_)
            · have hg : sg x j < 8 ∨ sg x j = 20 := Or.inl (lt_t (by omega) (by decide) h36)
              refine g_iinc (c := 1) Z dX3_isSound_46 rfl (by decide) (by decide) ?_
              rw [nI_1]
              refine g_goto Z 81 dX3_isSound_49 (by decide) ?_
              refine g_iload_n Z dX3_isSound_81 rfl ?_
              refine g_bipush (v := 8) Z dX3_isSound_82 (by decide) ?_
              refine g_icmp_le Z 89 dX3_isSound_84 (by decide) (fun h84 => ?_) (fun h84 => ?_)
              · have hle : (hh + 1) ≤ 8 := le_t (by omega) (by decide) h84
                refine g_iinc (c := 1) Z dX3_isSound_89 rfl (by decide) (by decide) ?_
                rw [nI_1]
                refine g_goto Z 18 dX3_isSound_92 (by decide) ?_
                exact g_lv (by (repeat (first | exact trivial | refine And.intro rfl ?_)); done) (ih (j + 1) (hh + 1) (by omega) ⟨by omega, by omega, by rw [hs1]; unfold stp; rw [if_pos hg, if_neg (by omega)]⟩)
              · have hgt : 8 < (hh + 1) := le_f (by omega) (by decide) h84
                refine g_iconst (v := 0) Z dX3_isSound_87 (by decide) ?_
                exact g_zret Z dX3_isSound_88 (by rfl) (by omega) (by omega) (⟨rfl, Or.inr ⟨rfl, not_sound (by omega) (by rw [hts_none (j := j + 1) (by rw [hs1]; unfold stp; rw [if_pos hg, if_pos (by omega)]) (by omega)]; exact fun h => by cases h)⟩⟩)
            · have hg0 : 8 ≤ sg x j := lt_f (N := 8) (by omega) (by decide) h36
              refine g_iload Z dX3_isSound_39 rfl ?_
              refine g_bipush (v := 20) Z dX3_isSound_41 (by decide) ?_
              refine g_icmp_ne Z 52 dX3_isSound_43 (by decide) (fun h43 => ?_) (fun h43 => ?_)
              · have hg : ¬ (sg x j < 8 ∨ sg x j = 20) := fun h => by
                  rcases h with h | h
                  · omega
                  · exact h43 (congrArg nI h)
                refine g_iload Z dX3_isSound_52 rfl ?_
                refine g_csI Z (c_X3_isJoin F.l F.D F.cy F.nw _ (sg x j) hsg) 1 gX3_isSound_X3_isJoin rfl (by decide +kernel) (by rw [hRf, hRl]; decide) rfl rfl (Nat.le_of_ble_eq_true rfl) dX3_isSound_54 (by rw [hRc, hRs]; omega) (fun r T hp => ?_)
                obtain ⟨rfl, hj2⟩ := hp
                refine g_if_eq Z 71 dX3_isSound_57 (by decide) (fun h57 => ?_) (fun h57 => ?_)
                · have hnj : ¬ (16 ≤ sg x j ∧ sg x j ≤ 19 ∧ 2 ≤ hh) := fun h => by
                    rcases hj2 with ⟨-, h2⟩ | ⟨h2, -⟩
                    · exact h2 ⟨h.1, h.2.1⟩
                    · rw [h2] at h57; exact absurd h57 (by decide)
                  refine g_iload Z dX3_isSound_71 rfl ?_
                  refine g_sipush (v := 255) Z dX3_isSound_73 (by decide) ?_
                  refine g_icmp_eq Z 81 dX3_isSound_76 (by decide) (fun h76 => ?_) (fun h76 => ?_)
                  · have h255 : sg x j = 255 := (nI_eq (b := 255) (by omega) (by decide)).mp h76
                    refine g_iload_n Z dX3_isSound_81 rfl ?_
                    refine g_bipush (v := 8) Z dX3_isSound_82 (by decide) ?_
                    refine g_icmp_le Z 89 dX3_isSound_84 (by decide) (fun h84 => ?_) (fun h84 => ?_)
                    · have hle : hh ≤ 8 := le_t (by omega) (by decide) h84
                      refine g_iinc (c := 1) Z dX3_isSound_89 rfl (by decide) (by decide) ?_
                      rw [nI_1]
                      refine g_goto Z 18 dX3_isSound_92 (by decide) ?_
                      exact g_lv (by (repeat (first | exact trivial | refine And.intro rfl ?_)); done) (ih (j + 1) hh (by omega) ⟨by omega, by omega, by rw [hs1]; unfold stp; rw [if_neg hg, if_neg hnj, if_pos h255]⟩)
                    · exact absurd ((nI_leI (a := hh) (b := 8) (by omega) (by decide)).mpr (by omega)) h84
                  · refine g_iconst (v := 0) Z dX3_isSound_79 (by decide) ?_
                    exact g_zret Z dX3_isSound_80 (by rfl) (by omega) (by omega) (⟨rfl, Or.inr ⟨rfl, not_sound (by omega) (by rw [hts_none (j := j + 1) (by rw [hs1]; unfold stp; rw [if_neg hg, if_neg hnj, if_neg (fun h => h76 (congrArg nI h))]) (by omega)]; exact fun h => by cases h)⟩⟩)
                · refine g_iload_n Z dX3_isSound_60 rfl ?_
                  refine g_iconst (v := 2) Z dX3_isSound_61 (by decide) ?_
                  refine g_icmp_lt Z 71 dX3_isSound_62 (by decide) (fun h62 => ?_) (fun h62 => ?_)
                  · have hnj : ¬ (16 ≤ sg x j ∧ sg x j ≤ 19 ∧ 2 ≤ hh) := fun h => absurd (lt_t (N := 2) (by omega) (by decide) h62) (by omega)
                    refine g_iload Z dX3_isSound_71 rfl ?_
                    refine g_sipush (v := 255) Z dX3_isSound_73 (by decide) ?_
                    refine g_icmp_eq Z 81 dX3_isSound_76 (by decide) (fun h76 => ?_) (fun h76 => ?_)
                    · have h255 : sg x j = 255 := (nI_eq (b := 255) (by omega) (by decide)).mp h76
                      refine g_iload_n Z dX3_isSound_81 rfl ?_
                      refine g_bipush (v := 8) Z dX3_isSound_82 (by decide) ?_
                      refine g_icmp_le Z 89 dX3_isSound_84 (by decide) (fun h84 => ?_) (fun h84 => ?_)
                      · have hle : hh ≤ 8 := le_t (by omega) (by decide) h84
                        refine g_iinc (c := 1) Z dX3_isSound_89 rfl (by decide) (by decide) ?_
                        rw [nI_1]
                        refine g_goto Z 18 dX3_isSound_92 (by decide) ?_
                        exact g_lv (by (repeat (first | exact trivial | refine And.intro rfl ?_)); done) (ih (j + 1) hh (by omega) ⟨by omega, by omega, by rw [hs1]; unfold stp; rw [if_neg hg, if_neg hnj, if_pos h255]⟩)
                      · exact absurd ((nI_leI (a := hh) (b := 8) (by omega) (by decide)).mpr (by omega)) h84
                    · refine g_iconst (v := 0) Z dX3_isSound_79 (by decide) ?_
                      exact g_zret Z dX3_isSound_80 (by rfl) (by omega) (by omega) (⟨rfl, Or.inr ⟨rfl, not_sound (by omega) (by rw [hts_none (j := j + 1) (by rw [hs1]; unfold stp; rw [if_neg hg, if_neg hnj, if_neg (fun h => h76 (congrArg nI h))]) (by omega)]; exact fun h => by cases h)⟩⟩)
                  · have hj3 : 16 ≤ sg x j ∧ sg x j ≤ 19 ∧ 2 ≤ hh := by
                      have h2 := lt_f (N := 2) (by omega) (by decide) h62
                      rcases hj2 with ⟨h3, -⟩ | ⟨-, h3, h4⟩
                      · exact absurd h3 h57
                      · exact ⟨h3, h4, h2⟩
                    refine g_iinc (c := (-1)) Z dX3_isSound_65 rfl (by decide) (by decide) ?_
                    rw [sb_m1 (by omega)]
                    refine g_goto Z 81 dX3_isSound_68 (by decide) ?_
                    refine g_iload_n Z dX3_isSound_81 rfl ?_
                    refine g_bipush (v := 8) Z dX3_isSound_82 (by decide) ?_
                    refine g_icmp_le Z 89 dX3_isSound_84 (by decide) (fun h84 => ?_) (fun h84 => ?_)
                    · have hle : (hh - 1) ≤ 8 := le_t (by omega) (by decide) h84
                      refine g_iinc (c := 1) Z dX3_isSound_89 rfl (by decide) (by decide) ?_
                      rw [nI_1]
                      refine g_goto Z 18 dX3_isSound_92 (by decide) ?_
                      exact g_lv (by (repeat (first | exact trivial | refine And.intro rfl ?_)); done) (ih (j + 1) (hh - 1) (by omega) ⟨by omega, by omega, by rw [hs1]; unfold stp; rw [if_neg hg, if_pos hj3]⟩)
                    · exact absurd ((nI_leI (a := (hh - 1)) (b := 8) (by omega) (by decide)).mpr (by omega)) h84
              · have hg : sg x j < 8 ∨ sg x j = 20 := Or.inr ((nI_eq (b := 20) (by omega) (by decide)).mp h43)
                refine g_iinc (c := 1) Z dX3_isSound_46 rfl (by decide) (by decide) ?_
                rw [nI_1]
                refine g_goto Z 81 dX3_isSound_49 (by decide) ?_
                refine g_iload_n Z dX3_isSound_81 rfl ?_
                refine g_bipush (v := 8) Z dX3_isSound_82 (by decide) ?_
                refine g_icmp_le Z 89 dX3_isSound_84 (by decide) (fun h84 => ?_) (fun h84 => ?_)
                · have hle : (hh + 1) ≤ 8 := le_t (by omega) (by decide) h84
                  refine g_iinc (c := 1) Z dX3_isSound_89 rfl (by decide) (by decide) ?_
                  rw [nI_1]
                  refine g_goto Z 18 dX3_isSound_92 (by decide) ?_
                  exact g_lv (by (repeat (first | exact trivial | refine And.intro rfl ?_)); done) (ih (j + 1) (hh + 1) (by omega) ⟨by omega, by omega, by rw [hs1]; unfold stp; rw [if_pos hg, if_neg (by omega)]⟩)
                · have hgt : 8 < (hh + 1) := le_f (by omega) (by decide) h84
                  refine g_iconst (v := 0) Z dX3_isSound_87 (by decide) ?_
                  exact g_zret Z dX3_isSound_88 (by rfl) (by omega) (by omega) (⟨rfl, Or.inr ⟨rfl, not_sound (by omega) (by rw [hts_none (j := j + 1) (by rw [hs1]; unfold stp; rw [if_pos hg, if_pos (by omega)]) (by omega)]; exact fun h => by cases h)⟩⟩)
      refine g_iload_n Z dX3_isSound_0 rfl ?_
      refine g_iconst (v := 1) Z dX3_isSound_1 (by decide) ?_
      refine g_icmp_lt Z 11 dX3_isSound_2 (by decide) (fun h2 => absurd h2 (hn1)) (fun h2 => ?_)
      refine g_iload_n Z dX3_isSound_5 rfl ?_
      refine g_bipush (v := 8) Z dX3_isSound_6 (by decide) ?_
      refine g_icmp_le Z 13 dX3_isSound_8 (by decide) (fun h8 => ?_) (fun h8 => absurd (hn8) h8)
      refine g_iconst (v := 0) Z dX3_isSound_13 (by decide) ?_
      refine g_istore_n Z dX3_isSound_14 (by decide) ?_
      refine g_iconst (v := 0) Z dX3_isSound_15 (by decide) ?_
      refine g_istore Z dX3_isSound_16 (by decide) ?_
      exact g_lv (by (repeat (first | exact trivial | refine And.intro rfl ?_)); done) (loop 10 0 0 (by omega) ⟨by omega, by omega, rfl⟩)
    · refine g_iload_n Z dX3_isSound_0 rfl ?_
      refine g_iconst (v := 1) Z dX3_isSound_1 (by decide) ?_
      refine g_icmp_lt Z 11 dX3_isSound_2 (by decide) (fun h2 => absurd h2 (hn1)) (fun h2 => ?_)
      refine g_iload_n Z dX3_isSound_5 rfl ?_
      refine g_bipush (v := 8) Z dX3_isSound_6 (by decide) ?_
      refine g_icmp_le Z 13 dX3_isSound_8 (by decide) (fun h8 => absurd h8 (hn8)) (fun h8 => ?_)
      refine g_iconst (v := 0) Z dX3_isSound_11 (by decide) ?_
      exact g_zret Z dX3_isSound_12 (by rfl) (by omega) (by omega) (⟨rfl, Or.inr ⟨rfl, fun ⟨k, a, b, c, d⟩ => hn8 (by rw [c]; exact (nI_leI (b := 8) (by omega) (by decide)).mpr b)⟩⟩)
