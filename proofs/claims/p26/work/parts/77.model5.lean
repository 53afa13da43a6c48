/-- of the rest, only the work, and what a write or a read notes, may differ -/
def Rs (R Q : MR) : Prop := Q.si = R.si ∧ Q.bt = R.bt
theorem isS_of {s : Nat} (h : s ≤ 7) : isS (nI s) := ⟨s, by omega, rfl⟩
theorem inR.nS {y r : Int32} (h : inR y 0 7 r) (h0 : r = 0) : ¬ isS y := fun ⟨j, h1, h2⟩ => h.f h0 ⟨j, by omega, by omega, h2⟩
theorem inR.n3 {y r : Int32} (h : inR y 0 3 r) (h0 : r = 0) : ¬ (¬ y < 0 ∧ y ≤ 3) := fun ⟨h1, h2⟩ => by
  obtain ⟨j, h3, h4⟩ := nI_of2 (n := 3) rfl h1 h2
  exact h.f h0 ⟨j, by omega, h3, h4⟩
theorem inN {g a b : Nat} {r : Int32} (hg : g < 2 ^ 31) (hb : b < 2 ^ 31) (h : inR (nI g) a b r) : (r = 1 ∧ a ≤ g ∧ g ≤ b) ∨ (r = 0 ∧ ¬ (a ≤ g ∧ g ≤ b)) := by
  rcases h with ⟨h1, j, h2, h3, h4⟩ | ⟨h1, h2⟩
  · have := (nI_eq hg (by omega)).mp h4
    exact Or.inl ⟨h1, by omega⟩
  · exact Or.inr ⟨h1, fun q => h2 ⟨g, q.1, q.2, rfl⟩⟩
theorem inN.t {g a b : Nat} {r : Int32} (h : (r = 1 ∧ a ≤ g ∧ g ≤ b) ∨ (r = 0 ∧ ¬ (a ≤ g ∧ g ≤ b))) (h0 : ¬ r = 0) : a ≤ g ∧ g ≤ b := by
  rcases h with h | h
  · exact h.2
  · exact absurd h.1 h0
theorem inN.f {g a b : Nat} {r : Int32} (h : (r = 1 ∧ a ≤ g ∧ g ≤ b) ∨ (r = 0 ∧ ¬ (a ≤ g ∧ g ≤ b))) (h0 : r = 0) : ¬ (a ≤ g ∧ g ≤ b) := by
  rcases h with h | h
  · exact absurd (h.1.symm.trans h0) (by decide)
  · exact h.2
theorem m1' {h : Nat} (h1 : 1 ≤ h) : nI h + (-1) = nI (h - 1) := by
  obtain ⟨k, rfl⟩ : ∃ k, h = k + 1 := ⟨h - 1, by omega⟩
  exact pk_m1 k
theorem s1' {h : Nat} (h1 : 1 ≤ h) : nI h - 1 = nI (h - 1) := pk_sub (a := h) (b := 1) h1
theorem stp_join {h g : Nat} (h1 : 16 ≤ g ∧ g ≤ 19) (h2 : 2 ≤ h) : stp h g = some (h - 1) := by
  unfold stp; rw [if_neg (by omega), if_pos ⟨h1.1, h1.2, h2⟩]
theorem stp_joinN {h g : Nat} (h1 : 16 ≤ g ∧ g ≤ 19) (h2 : ¬ 2 ≤ h) : stp h g = none := by
  unfold stp; rw [if_neg (by omega), if_neg (by omega), if_neg (by omega)]
theorem stp_set {h g : Nat} (h1 : g < 8 ∨ g = 20) (h2 : h ≠ 8) : stp h g = some (h + 1) := by
  unfold stp; rw [if_pos h1, if_neg h2]
theorem stp_setN {h g : Nat} (h1 : g < 8 ∨ g = 20) (h2 : h = 8) : stp h g = none := by
  unfold stp; rw [if_pos h1, if_pos h2]
theorem stp_255 {h g : Nat} (h1 : g = 255) : stp h g = some h := by
  unfold stp; rw [if_neg (by omega), if_neg (by omega), if_pos h1]
theorem stp_bad {h g : Nat} (h1 : ¬ (16 ≤ g ∧ g ≤ 19)) (h2 : ¬ (g < 8 ∨ g = 20)) (h3 : g ≠ 255) : stp h g = none := by
  unfold stp; rw [if_neg h2, if_neg (by omega), if_neg h3]
theorem stp_le {h g u : Nat} (hh : h ≤ 8) (e : stp h g = some u) : u ≤ 8 := by
  unfold stp at e
  split at e
  · split at e
    · cases e
    · cases e; omega
  · split at e
    · cases e; omega
    · split at e
      · cases e; exact hh
      · cases e
theorem hts_some {y : Int64} {n v : Nat} (h : hts y n = some v) {j : Nat} (hj : j ≤ n) : ∃ u, hts y j = some u := by
  cases e : hts y j with
  | none => rw [hts_none e hj] at h; cases h
  | some u => exact ⟨u, rfl⟩
theorem wv_m1 : ∀ k, k < 64 → wv (-1) / 2 ^ k % 2 = 1 := by decide +kernel
theorem on_step {f g : Nat → Int64} {b w : Nat} (hw : w < 1024) (h1 : ∀ d, d ≠ b → ∀ l, l < 65536 → cb g d l = cb f d l) (h2 : ∀ l, l < 64 * w → cb g b l = 1) :
    (∀ d, d ≠ b → ∀ l, l < 65536 → cb (vp_updL g (1024 * b + w) (-1)) d l = cb f d l) ∧ ∀ l, l < 64 * (w + 1) → cb (vp_updL g (1024 * b + w) (-1)) b l = 1 := by
  refine ⟨fun d hd l hl => (cb_word hw hl (Or.inl hd)).trans (h1 d hd l hl), fun l hl => ?_⟩
  by_cases e : l / 64 = w
  · rw [cb_self e]; exact wv_m1 _ (Nat.mod_lt _ (by decide))
  · rw [cb_word hw (by omega) (Or.inr e)]
    exact h2 l (by omega)

set_option maxRecDepth 100000 in
set_option maxHeartbeats 2000000 in
/-- static: whether a formula is one -/
theorem c_X7_isFormula (l : Launch) (D : va_G) (cy : Nat → ClassId) (nw : Nat) (S : PS) (y : Int64) (k : Nat) (hk : k ≤ 8) : kI l yX7_isFormula wsX7_isFormula 1 25 D cy nw [.long y, .int (nI k)] S (fun r T => S = T ∧ ((r = 1 ∧ hts y k = some 1) ∨ (r = 0 ∧ hts y k ≠ some 1))) 0 0 := by
  refine enterI (cc := cX7_isFormula) (nL := 6) (ret := (some .boolean)) (by decide +kernel) rfl (Nat.le_of_ble_eq_true rfl) ?_
  intro F Z hl hR hD hcy hnw hnm
  subst hl hD hcy hnw
  have hRf : F.R.frames = 1 := by rw [hR]
  have hRc : F.R.cells = 0 := by rw [hR]
  have hRs : F.R.slots = 0 := by rw [hR]
  have hRl : F.R.locals = 25 := by rw [hR]
  have ct44 : Cond.constantLong RX7 44 (7) ∈ wsX7_isFormula := by decide +kernel
  have ct124 : Cond.constantLong RX7 124 (255) ∈ wsX7_isFormula := by decide +kernel
  have ct126 : Cond.constantLong RX7 126 (16) ∈ wsX7_isFormula := by decide +kernel
  have ct128 : Cond.constantLong RX7 128 (19) ∈ wsX7_isFormula := by decide +kernel
  have loop : ∀ (n : Nat) (j h : Nat), k - j < n → (j ≤ k ∧ h ≤ 8 ∧ hts y j = some h) → G F 6 S 0 0 (QI F (fun r T => S = T ∧ ((r = 1 ∧ hts y k = some 1) ∨ (r = 0 ∧ hts y k ≠ some 1))) 0 0) 5 [(0, .long y), (2, .int (nI k)), (3, .int (nI h)), (4, .int (nI j))] [] := by
    intro n
    induction n with
    | zero => intros; omega
    | succ n ih =>
      intro j h hn ⟨hj, hh, eh⟩
      have hs1 := hts_s eh
      have hlt256 := sg_lt y j
      have next : ∀ (h2 : Nat), j < k → stp h (sg y j) = some h2 → G F 6 S 0 0 (QI F (fun r T => S = T ∧ ((r = 1 ∧ hts y k = some 1) ∨ (r = 0 ∧ hts y k ≠ some 1))) 0 0) 97 [(0, .long y), (2, .int (nI k)), (3, .int (nI h2)), (4, .int (nI j))] [] := by
        intro h2 hlt e2
        refine g_iinc (c := 1) Z dX7_isFormula_97 rfl (by decide) (by decide) ?_
        rw [nI_1]
        refine g_goto Z 5 dX7_isFormula_100 (by decide) ?_
        exact g_lv (by (repeat (first | exact trivial | refine And.intro rfl ?_)); done) (ih (j + 1) h2 (by omega) ⟨by omega, stp_le hh e2, hs1.trans e2⟩)
      have j73 : j < k → (sg y j < 8 ∨ sg y j = 20) → G F 6 S 0 0 (QI F (fun r T => S = T ∧ ((r = 1 ∧ hts y k = some 1) ∨ (r = 0 ∧ hts y k ≠ some 1))) 0 0) 73 [(0, .long y), (2, .int (nI k)), (3, .int (nI h)), (4, .int (nI j))] [] := by
        intro hlt hg
        refine g_iload_n Z dX7_isFormula_73 rfl ?_
        refine g_bipush (v := 8) Z dX7_isFormula_74 (by decide) ?_
        refine g_icmp_ne Z 81 dX7_isFormula_76 (by decide) (fun h76 => ?_) (fun h76 => ?_)
        · have h8 : h ≠ 8 := fun e => h76 (by rw [e]; rfl)
          refine g_iinc (c := 1) Z dX7_isFormula_81 rfl (by decide) (by decide) ?_
          rw [nI_1]
          refine g_goto Z 97 dX7_isFormula_84 (by decide) ?_
          exact g_lv (by (repeat (first | exact trivial | refine And.intro rfl ?_)); done) (next (h + 1) hlt (stp_set hg h8))
        · have h8 : h = 8 := (nI_eq (b := 8) (by omega) (by decide)).mp h76
          refine g_iconst (v := 0) Z dX7_isFormula_79 (by decide) ?_
          exact g_zret Z dX7_isFormula_80 (by rfl) (by omega) (by omega) (⟨rfl, Or.inr ⟨rfl, by rw [hts_none (j := j + 1) (by rw [hs1]; exact stp_setN hg h8) (by omega)]; exact fun h => by cases h⟩⟩)
      refine g_iload Z dX7_isFormula_5 rfl ?_
      refine g_iload_n Z dX7_isFormula_7 rfl ?_
      refine g_icmp_ge Z 103 dX7_isFormula_8 (by decide) (fun h8 => ?_) (fun h8 => ?_)
      · have he : j = k := by have := ge_t (i := j) (N := k) (by omega) (by omega) h8; omega
        subst he
        refine g_iload_n Z dX7_isFormula_103 rfl ?_
        refine g_iconst (v := 1) Z dX7_isFormula_104 (by decide) ?_
        refine g_icmp_ne Z 112 dX7_isFormula_105 (by decide) (fun h105 => ?_) (fun h105 => ?_)
        · have hh1 : h ≠ 1 := fun e => h105 (by rw [e]; rfl)
          refine g_iconst (v := 0) Z dX7_isFormula_112 (by decide) ?_
          exact g_zret Z dX7_isFormula_113 (by rfl) (by omega) (by omega) (⟨rfl, by first | exact Or.inl ⟨rfl, by rw [eh, hh1]⟩ | exact Or.inr ⟨rfl, by rw [eh]; exact fun e => hh1 (Option.some.inj e)⟩⟩)
        · have hh1 : h = 1 := (nI_eq (b := 1) (by omega) (by decide)).mp h105
          refine g_iconst (v := 1) Z dX7_isFormula_108 (by decide) ?_
          refine g_goto Z 113 dX7_isFormula_109 (by decide) ?_
          exact g_zret Z dX7_isFormula_113 (by rfl) (by omega) (by omega) (⟨rfl, by first | exact Or.inl ⟨rfl, by rw [eh, hh1]⟩ | exact Or.inr ⟨rfl, by rw [eh]; exact fun e => hh1 (Option.some.inj e)⟩⟩)
      · have hlt : j < k := ge_f (by omega) (by omega) h8
        refine g_lload_n Z dX7_isFormula_11 rfl ?_
        refine g_bipush (v := 8) Z dX7_isFormula_12 (by decide) ?_
        refine g_iload Z dX7_isFormula_14 rfl ?_
        refine g_imul Z dX7_isFormula_16 ?_
        refine g_lushr Z dX7_isFormula_17 ?_
        refine g_ldc2 (v := 255) Z dX7_isFormula_18 ct124 ?_
        refine g_land Z dX7_isFormula_21 ?_
        refine g_l2i Z dX7_isFormula_22 ?_
        rw [sg_m y j]
        refine g_istore Z dX7_isFormula_23 (by decide) ?_
        refine g_iload Z dX7_isFormula_25 rfl ?_
        refine g_i2l Z dX7_isFormula_27 ?_
        refine g_ldc2 (v := 16) Z dX7_isFormula_28 ct126 ?_
        refine g_ldc2 (v := 19) Z dX7_isFormula_31 ct128 ?_
        refine g_csI Z (c_X7_in F.l F.D F.cy F.nw _ _ _ _) 3 gX7_isFormula_X7_in rfl (by decide +kernel) (by rw [hRf, hRl]; decide) rfl rfl (Nat.le_of_ble_eq_true rfl) dX7_isFormula_34 (by rw [hRc, hRs]; omega) (fun r1 T1 hp => ?_)
        obtain ⟨rfl, hi0⟩ := hp
        have hi1 := inN (by omega) (by decide) (in_R (x := nI (sg y j)) (a := 16) (b := 19) (by decide) (by decide) hi0)
        refine g_if_eq Z 53 dX7_isFormula_37 (by decide) (fun h37 => ?_) (fun h37 => ?_)
        · have hnj := inN.f hi1 h37
          refine g_iload Z dX7_isFormula_53 rfl ?_
          refine g_i2l Z dX7_isFormula_55 ?_
          refine g_lconst (v := 0) Z dX7_isFormula_56 (by decide) ?_
          refine g_ldc2 (v := 7) Z dX7_isFormula_57 ct44 ?_
          refine g_csI Z (c_X7_in F.l F.D F.cy F.nw _ _ _ _) 3 gX7_isFormula_X7_in rfl (by decide +kernel) (by rw [hRf, hRl]; decide) rfl rfl (Nat.le_of_ble_eq_true rfl) dX7_isFormula_60 (by rw [hRc, hRs]; omega) (fun r2 T2 hp => ?_)
          obtain ⟨rfl, hi0⟩ := hp
          have hi2 := inN (by omega) (by decide) (in_R (x := nI (sg y j)) (a := 0) (b := 7) (by decide) (by decide) hi0)
          refine g_if_ne Z 73 dX7_isFormula_63 (by decide) (fun h63 => ?_) (fun h63 => ?_)
          · have hg7 := inN.t hi2 h63
            first | exact g_lv (by (repeat (first | exact trivial | refine And.intro rfl ?_)); done) (j73 hlt (Or.inl (by omega))) | exact g_lv (by (repeat (first | exact trivial | refine And.intro rfl ?_)); done) (j73 hlt (Or.inr hg20))
          · have hn7 := inN.f hi2 h63
            refine g_iload Z dX7_isFormula_66 rfl ?_
            refine g_bipush (v := 20) Z dX7_isFormula_68 (by decide) ?_
            refine g_icmp_ne Z 87 dX7_isFormula_70 (by decide) (fun h70 => ?_) (fun h70 => ?_)
            · have hn20 : sg y j ≠ 20 := fun e => h70 (by rw [e]; rfl)
              refine g_iload Z dX7_isFormula_87 rfl ?_
              refine g_sipush (v := 255) Z dX7_isFormula_89 (by decide) ?_
              refine g_icmp_eq Z 97 dX7_isFormula_92 (by decide) (fun h92 => ?_) (fun h92 => ?_)
              · have h255 : sg y j = 255 := (nI_eq (b := 255) (by omega) (by decide)).mp h92
                first | exact g_lv (by (repeat (first | exact trivial | refine And.intro rfl ?_)); done) (next (h - 1) hlt (stp_join hjn h2)) | exact g_lv (by (repeat (first | exact trivial | refine And.intro rfl ?_)); done) (next h hlt (stp_255 h255))
              · have h255 : sg y j ≠ 255 := fun e => h92 (by rw [e]; rfl)
                refine g_iconst (v := 0) Z dX7_isFormula_95 (by decide) ?_
                exact g_zret Z dX7_isFormula_96 (by rfl) (by omega) (by omega) (⟨rfl, Or.inr ⟨rfl, by rw [hts_none (j := j + 1) (by rw [hs1]; exact stp_bad hnj (by omega) h255) (by omega)]; exact fun h => by cases h⟩⟩)
            · have hg20 : sg y j = 20 := (nI_eq (b := 20) (by omega) (by decide)).mp h70
              first | exact g_lv (by (repeat (first | exact trivial | refine And.intro rfl ?_)); done) (j73 hlt (Or.inl (by omega))) | exact g_lv (by (repeat (first | exact trivial | refine And.intro rfl ?_)); done) (j73 hlt (Or.inr hg20))
        · have hjn := inN.t hi1 h37
          refine g_iload_n Z dX7_isFormula_40 rfl ?_
          refine g_iconst (v := 2) Z dX7_isFormula_41 (by decide) ?_
          refine g_icmp_ge Z 47 dX7_isFormula_42 (by decide) (fun h42 => ?_) (fun h42 => ?_)
          · have h2 : 2 ≤ h := ge_t (N := 2) (by omega) (by decide) h42
            refine g_iinc (c := (-1)) Z dX7_isFormula_47 rfl (by decide) (by decide) ?_
            rw [m1' (by omega)]
            refine g_goto Z 97 dX7_isFormula_50 (by decide) ?_
            first | exact g_lv (by (repeat (first | exact trivial | refine And.intro rfl ?_)); done) (next (h - 1) hlt (stp_join hjn h2)) | exact g_lv (by (repeat (first | exact trivial | refine And.intro rfl ?_)); done) (next h hlt (stp_255 h255))
          · have h2 : ¬ 2 ≤ h := fun q => h42 (nI_le (a := 2) q (by omega))
            refine g_iconst (v := 0) Z dX7_isFormula_45 (by decide) ?_
            exact g_zret Z dX7_isFormula_46 (by rfl) (by omega) (by omega) (⟨rfl, Or.inr ⟨rfl, by rw [hts_none (j := j + 1) (by rw [hs1]; exact stp_joinN hjn h2) (by omega)]; exact fun h => by cases h⟩⟩)
  refine g_iconst (v := 0) Z dX7_isFormula_0 (by decide) ?_
  refine g_istore_n Z dX7_isFormula_1 (by decide) ?_
  refine g_iconst (v := 0) Z dX7_isFormula_2 (by decide) ?_
  refine g_istore Z dX7_isFormula_3 (by decide) ?_
  exact g_lv (by (repeat (first | exact trivial | refine And.intro rfl ?_)); done) (loop (k + 1) 0 0 (by omega) ⟨by omega, by omega, rfl⟩)

