/-! SINGLE LOWS -/
theorem bit01 (n k : Nat) : n / 2 ^ k % 2 = 0 ∨ n / 2 ^ k % 2 = 1 := by omega
theorem nz_tz {v : Int64} (h : ¬ v = 0) : ∃ k, k < 64 ∧ Tz (wv v) k := by
  apply tz_ex
  apply Classical.byContradiction
  intro hn
  apply h
  apply w_ext
  intro k hk
  have e0 : wv (0 : Int64) / 2 ^ k % 2 = 0 := by rw [show wv (0 : Int64) = 0 from rfl, Nat.zero_div]
  rw [e0]
  rcases bit01 (wv v) k with e | e
  · exact e
  · exact absurd ⟨k, hk, e⟩ hn
theorem wv0 (k : Nat) : wv (0 : Int64) / 2 ^ k % 2 = 0 := by rw [show wv (0 : Int64) = 0 from rfl, Nat.zero_div]
/-- the first low from one on whose bit is b -/
def Fb (W : Nat → Int64) (b i r : Nat) : Prop := i ≤ r ∧ r ≤ 65536 ∧ (∀ l, i ≤ l → l < r → cb W 0 l ≠ b) ∧ (r < 65536 → cb W 0 r = b)
theorem Fb.uniq {W : Nat → Int64} {b i r q : Nat} (h : Fb W b i r) (g : Fb W b i q) : r = q := by
  obtain ⟨h1, h2, h3, h4⟩ := h
  obtain ⟨g1, g2, g3, g4⟩ := g
  rcases Nat.lt_trichotomy r q with e | e | e
  · exact absurd (h4 (by omega)) (g3 r h1 e)
  · exact e
  · exact absurd (g4 (by omega)) (h3 q g1 e)
theorem fl_bit {b : Nat} {fl : Int64} (hfl : (b = 1 ∧ fl = 0) ∨ (b = 0 ∧ fl = -1)) (x : Int64) {k : Nat} (hk : k < 64) : wv (x ^^^ fl) / 2 ^ k % 2 = 1 ↔ wv x / 2 ^ k % 2 = b := by
  rcases hfl with ⟨rfl, rfl⟩ | ⟨rfl, rfl⟩
  · rw [xor_bit, wv0]
    have := bit01 (wv x) k
    omega
  · rw [not_bit _ hk]
    have := bit01 (wv x) k
    omega
theorem fb_word {W : Nat → Int64} {b i j : Nat} {fl : Int64} (hfl : (b = 1 ∧ fl = 0) ∨ (b = 0 ∧ fl = -1)) (hi : i < 65536) (hj : i / 64 ≤ j) {k : Nat} (hk : k < 64) : wv ((W j ^^^ fl) &&& mkA i j) / 2 ^ k % 2 = 1 ↔ (i ≤ 64 * j + k ∧ cb W 0 (64 * j + k) = b) := by
  rw [and_bit, mkA_bit hi hk hj, cbz_at W hk, ← fl_bit hfl _ hk]
  by_cases h : i ≤ 64 * j + k
  · rw [if_pos h, Nat.mul_one]
    exact ⟨fun e => ⟨h, e⟩, fun e => e.2⟩
  · rw [if_neg h, Nat.mul_zero]
    exact ⟨fun e => absurd e (by decide), fun e => absurd e.1 h⟩
theorem fb_found {W : Nat → Int64} {b i j t : Nat} {fl : Int64} (hfl : (b = 1 ∧ fl = 0) ∨ (b = 0 ∧ fl = -1)) (hi : i < 65536) (hj : i / 64 ≤ j) (hj2 : j < 1024) (hinv : ∀ l, i ≤ l → l < 64 * j → cb W 0 l ≠ b) (ht : t < 64) (hz : Tz (wv ((W j ^^^ fl) &&& mkA i j)) t) : Fb W b i (64 * j + t) := by
  have h1 := (fb_word hfl hi hj ht).mp hz.2
  refine ⟨h1.1, by omega, fun l hl hlt => ?_, fun _ => h1.2⟩
  by_cases e : l < 64 * j
  · exact hinv l hl e
  · obtain ⟨d, rfl⟩ : ∃ d, l = 64 * j + d := ⟨l - 64 * j, by omega⟩
    intro q
    have h2 := hz.bit (show d < t by omega)
    have h3 := (fb_word (W := W) hfl hi hj (show d < 64 by omega)).mpr ⟨hl, q⟩
    omega
theorem fb_none {W : Nat → Int64} {b i j : Nat} {fl : Int64} (hfl : (b = 1 ∧ fl = 0) ∨ (b = 0 ∧ fl = -1)) (hi : i < 65536) (hj : i / 64 ≤ j) (hinv : ∀ l, i ≤ l → l < 64 * j → cb W 0 l ≠ b) (hz : (W j ^^^ fl) &&& mkA i j = 0) : ∀ l, i ≤ l → l < 64 * (j + 1) → cb W 0 l ≠ b := by
  intro l hl hlt
  by_cases e : l < 64 * j
  · exact hinv l hl e
  · obtain ⟨d, rfl⟩ : ∃ d, l = 64 * j + d := ⟨l - 64 * j, by omega⟩
    intro q
    have h3 := (fb_word (W := W) hfl hi hj (show d < 64 by omega)).mpr ⟨hl, q⟩
    rw [hz, wv0] at h3
    exact absurd h3 (by decide)
theorem mkA_first {i j : Nat} (h : j = i / 64) : mkA i j = (-1 : Int64) <<< ((nI i).toInt64 &&& 63) := if_pos h
theorem mkA_other {i j : Nat} (h : ¬ j = i / 64) (x : Int64) : x &&& mkA i j = x := by
  unfold mkA
  rw [if_neg h]
  apply w_ext
  intro k hk
  rw [and_bit, m1_bit hk, Nat.mul_one]
/-- a word without its bits below p -/
def Cl (x : Int64) (p : Nat) (v : Int64) : Prop := ∀ j, j < 64 → wv v / 2 ^ j % 2 = if p ≤ j then wv x / 2 ^ j % 2 else 0
theorem Cl.rf (x : Int64) : Cl x 0 x := fun j _ => by rw [if_pos (Nat.zero_le _)]
theorem pN_flat {n p : Nat} : ∀ t, p ≤ t → (∀ j, p ≤ j → j < t → n / 2 ^ j % 2 = 0) → pN n t = pN n p
  | 0, h, _ => by rw [Nat.le_zero.mp h]
  | t + 1, h, h2 => by
    by_cases e : p = t + 1
    · rw [e]
    · show pN n t + n / 2 ^ t % 2 = _
      rw [pN_flat t (by omega) (fun j a b => h2 j a (by omega)), h2 t (by omega) (by omega)]
      rfl
theorem Cl.step {x v : Int64} {p : Nat} (h : Cl x p v) (hp : p ≤ 64) (hlt : pN (wv x) p < pc x) : ∃ t, p ≤ t ∧ t < 64 ∧ Tz (wv v) t ∧ wv x / 2 ^ t % 2 = 1 ∧ pN (wv x) t = pN (wv x) p ∧ Cl x (t + 1) (v &&& (v - 1)) := by
  have hex : ∃ j, j < 64 ∧ wv v / 2 ^ j % 2 = 1 := by
    apply Classical.byContradiction
    intro hn
    have := pN_flat (n := wv x) (p := p) 64 hp (fun j a b => by
      rcases bit01 (wv x) j with e | e
      · exact e
      · exact absurd ⟨j, b, by rw [h j b, if_pos a]; exact e⟩ hn)
    exact absurd hlt (by rw [← this]; exact Nat.lt_irrefl _)
  obtain ⟨t, ht, hz⟩ := tz_ex (wv v) 64 hex
  have h2 := hz.2
  rw [h t ht] at h2
  have hpt : p ≤ t := by
    apply Nat.le_of_not_lt
    intro q
    rw [if_neg (by omega)] at h2
    exact absurd h2 (by decide)
  rw [if_pos hpt] at h2
  refine ⟨t, hpt, ht, hz, h2, pN_flat t hpt (fun j a b => ?_), fun j hj => ?_⟩
  · have := hz.bit b
    rw [h j (by omega), if_pos a] at this
    exact this
  · have e1 : wv (v - 1) = wv v - 1 := by
      obtain ⟨n, hn, rfl⟩ := wb_of v
      have := hz.pos
      rw [wv_lN hn] at this
      rw [show (1 : Int64) = lN 1 from rfl, lN_sub this, wv_lN (by omega), wv_lN hn]
    rw [and_bit, e1, tb (wv v - 1) j, hz.dec]
    by_cases a : j < t
    · rw [hz.bit a, Nat.zero_mul, if_neg (by omega)]
    · by_cases b : t < j
      · rw [if_pos (by omega), h j hj, if_pos (by omega)]
        have hb := h j hj
        rw [if_pos (by omega), tb] at hb
        have e3 : (decide (j < t) || decide (t < j) && (wv v).testBit j) = (wv v).testBit j := by simp [a, b]
        rw [e3, hb]
        rcases bit01 (wv x) j with e | e <;> rw [e]
      · have : j = t := by omega
        subst this
        rw [if_neg (by omega)]
        simp

set_option maxRecDepth 100000 in
set_option maxHeartbeats 2000000 in
/-- the first bit from a low on -/
theorem f_X1_firstBit (l : Launch) (D : va_G) (cy : Nat → ClassId) (nw : Nat) (S : PS) (c : Nat) (a : Cn) (hc : Cv S c a) (i : Nat) (hi : i ≤ 65536) (b : Nat) (fl : Int64) (hfl : (b = 1 ∧ fl = 0) ∨ (b = 0 ∧ fl = -1)) : kI l yX1_firstBit wsX1_firstBit 2 43 D cy nw [.ref c, .int (nI i), .long fl] S (fun r T => S = T ∧ ∃ n : Nat, r = nI n ∧ Fb a.2.2 b i n) 0 0 := by
  refine enterI (cc := cX1_firstBit) (nL := 8) (ret := (some .int)) (by decide +kernel) rfl (Nat.le_of_ble_eq_true rfl) ?_
  intro F Z hl hR hD hcy hnw hnm
  subst hl hD hcy hnw
  have hRf : F.R.frames = 2 := by rw [hR]
  have hRc : F.R.cells = 0 := by rw [hR]
  have hRs : F.R.slots = 0 := by rw [hR]
  have hRl : F.R.locals = 43 := by rw [hR]
  have in1 : ∀ w ∈ u_ws RX1 TX1 4, w ∈ wsX1_firstBit := by decide +kernel
  have lk13 : Cond.fieldLink RX1 13 (TX1 3).1 (TX1 3).2.1 (TX1 3).2.2.1 ∈ wsX1_firstBit := by decide +kernel
  have ct50 : Cond.constantLong RX1 50 (-1) ∈ wsX1_firstBit := by decide +kernel
  have ct85 : Cond.constant RX1 85 (65536) ∈ wsX1_firstBit := by decide +kernel
  obtain ⟨w, ⟨hcL, hcK, hww, hwL, hwK, hwl⟩, hk0, hk0b, hk1, hk2, hrow⟩ := id hc
  have loop : ∀ (n : Nat) (j : Nat), 1026 - j < n → (j ≤ 1024 ∧ i / 64 ≤ j ∧ ∀ l, i ≤ l → l < 64 * j → cb a.2.2 0 l ≠ b) → G F 8 S 0 0 (QI F (fun r T => S = T ∧ ∃ n : Nat, r = nI n ∧ Fb a.2.2 b i n) 0 0) 10 [(0, .ref c), (1, .int (nI i)), (2, .long fl), (4, .int (nI (i / 64))), (5, .int (nI j))] [] := by
    intro n
    induction n with
    | zero => intros; omega
    | succ n ih =>
      intro j hn ⟨hj, hij, hinv⟩
      refine g_iload Z dX1_firstBit_10 rfl ?_
      refine g_sipush (v := 1024) Z dX1_firstBit_12 (by decide) ?_
      refine g_icmp_ge Z 71 dX1_firstBit_15 (by decide) (fun h15 => ?_) (fun h15 => ?_)
      · have he : j = 1024 := by have := ge_t (i := j) (N := 1024) (by omega) (by decide) h15; omega
        refine g_ldc (v := 65536) Z dX1_firstBit_71 ct85 ?_
        exact g_iret Z dX1_firstBit_73 (by omega) (by omega) (⟨rfl, 65536, rfl, hi, Nat.le_refl _, fun l h1 h2 => hinv l h1 (by omega), fun q => absurd q (Nat.lt_irrefl _)⟩)
      · have hlt : j < 1024 := ge_f (by omega) (by decide) h15
        have hi6 : i < 65536 := by omega
        have j46 : ∀ v : Int64, v = (a.2.2 j ^^^ fl) &&& mkA i j → G F 8 S 0 0 (QI F (fun r T => S = T ∧ ∃ n : Nat, r = nI n ∧ Fb a.2.2 b i n) 0 0) 46 [(0, .ref c), (1, .int (nI i)), (2, .long fl), (4, .int (nI (i / 64))), (5, .int (nI j)), (6, .long v)] [] := by
          intro v hv
          refine g_lload Z dX1_firstBit_46 rfl ?_
          refine g_lconst (v := 0) Z dX1_firstBit_48 (by decide) ?_
          refine g_lcmp Z dX1_firstBit_49 ?_
          refine g_if_eq Z 65 dX1_firstBit_50 (by decide) (fun h50 => ?_) (fun h50 => ?_)
          · have hv0 : v = 0 := lc_eq.mp h50
            refine g_iinc (c := 1) Z dX1_firstBit_65 rfl (by decide) (by decide) ?_
            rw [nI_1]
            refine g_goto Z 10 dX1_firstBit_68 (by decide) ?_
            exact g_lv (by (repeat (first | exact trivial | refine And.intro rfl ?_)); done) (ih (j + 1) (by omega) ⟨by omega, by omega, fb_none hfl hi6 hij hinv (hv.symm.trans hv0)⟩)
          · have hv0 : ¬ v = 0 := fun e => h50 (lc_eq.mpr e)
            obtain ⟨t, ht, hz⟩ := nz_tz hv0
            have hz2 := hz
            rw [hv] at hz2
            refine g_iload Z dX1_firstBit_53 rfl ?_
            refine g_bipush (v := 6) Z dX1_firstBit_55 (by decide) ?_
            refine g_ishl Z dX1_firstBit_57 ?_
            rw [shl6 (by omega)]
            refine g_lload Z dX1_firstBit_58 rfl ?_
            refine g_csI Z (f_J13_numberOfTrailingZeros_95d88 F.l F.D F.cy F.nw S v t ht hz) 1 gX1_firstBit_J13_numberOfTrailingZeros_95d88 rfl (by decide +kernel) (by rw [hRf, hRl]; decide) rfl rfl (Nat.le_of_ble_eq_true rfl) dX1_firstBit_60 (by rw [hRc, hRs]; omega) (fun r U hp => ?_)
            obtain ⟨rfl, rfl⟩ := hp
            refine g_iadd Z dX1_firstBit_63 ?_
            rw [nI_add]
            exact g_iret Z dX1_firstBit_64 (by omega) (by omega) (⟨rfl, 64 * j + t, congrArg nI (by omega), fb_found hfl hi6 hij hlt hinv ht hz2⟩)
        refine g_aload_n Z dX1_firstBit_18 rfl ?_
        refine g_getr Z 1 3 rfl (by decide) in1 lk13 dX1_firstBit_19 (by assumption) (by assumption) (by assumption) ?_
        refine g_iload Z dX1_firstBit_22 rfl ?_
        refine g_lald Z dX1_firstBit_24 (by assumption) (by assumption) (by exact vin_of hwl (by omega) (by decide)) ?_
        rw [nI_clamp (by omega), hrow j hlt]
        refine g_lload_n Z dX1_firstBit_25 rfl ?_
        refine g_lxor Z dX1_firstBit_26 ?_
        refine g_lstore Z dX1_firstBit_27 (by decide) ?_
        refine g_iload Z dX1_firstBit_29 rfl ?_
        refine g_iload Z dX1_firstBit_31 rfl ?_
        refine g_icmp_ne Z 46 dX1_firstBit_33 (by decide) (fun h33 => ?_) (fun h33 => ?_)
        · exact g_lv (by (repeat (first | exact trivial | refine And.intro rfl ?_)); done) (j46 _ (by first | (rw [mkA_first ((nI_eq (by omega) (by omega)).mp (Classical.not_not.mp h33))]; done) | (rw [mkA_first ((nI_eq (by omega) (by omega)).mp h33)]; done) | (rw [mkA_other (fun e => h33 (by rw [e]))]; done) | (rw [mkA_other (fun e => absurd (by rw [e]) h33)]; done)))
        · refine g_lload Z dX1_firstBit_36 rfl ?_
          refine g_ldc2 (v := -1) Z dX1_firstBit_38 ct50 ?_
          refine g_iload_n Z dX1_firstBit_41 rfl ?_
          refine g_lshl Z dX1_firstBit_42 ?_
          refine g_land Z dX1_firstBit_43 ?_
          refine g_lstore Z dX1_firstBit_44 (by decide) ?_
          exact g_lv (by (repeat (first | exact trivial | refine And.intro rfl ?_)); done) (j46 _ (by first | (rw [mkA_first ((nI_eq (by omega) (by omega)).mp (Classical.not_not.mp h33))]; done) | (rw [mkA_first ((nI_eq (by omega) (by omega)).mp h33)]; done) | (rw [mkA_other (fun e => h33 (by rw [e]))]; done) | (rw [mkA_other (fun e => absurd (by rw [e]) h33)]; done)))
  refine g_iload_n Z dX1_firstBit_0 rfl ?_
  refine g_bipush (v := 6) Z dX1_firstBit_1 (by decide) ?_
  refine g_ishr Z dX1_firstBit_3 ?_
  rw [shr6 (by omega)]
  refine g_istore Z dX1_firstBit_4 (by decide) ?_
  refine g_iload Z dX1_firstBit_6 rfl ?_
  refine g_istore Z dX1_firstBit_8 (by decide) ?_
  exact g_lv (by (repeat (first | exact trivial | refine And.intro rfl ?_)); done) (loop 1027 (i / 64) (by omega) ⟨by omega, Nat.le_refl _, fun l h1 h2 => absurd h2 (by omega)⟩)

set_option maxRecDepth 100000 in
set_option maxHeartbeats 2000000 in
/-- the first low there, or not there, from one on -/
theorem f_X1_firstIn (l : Launch) (D : va_G) (cy : Nat → ClassId) (nw : Nat) (S : PS) (c : Nat) (a : Cn) (hc : Cv S c a) (i : Nat) (hi : i ≤ 65536) : kI l yX1_firstIn wsX1_firstIn 3 70 D cy nw [.ref c, .int (nI i)] S (fun r T => S = T ∧ ∃ n : Nat, r = nI n ∧ Fb a.2.2 1 i n) 0 0 := by
  refine enterI (cc := cX1_firstIn) (nL := 2) (ret := (some .int)) (by decide +kernel) rfl (Nat.le_of_ble_eq_true rfl) ?_
  intro F Z hl hR hD hcy hnw hnm
  subst hl hD hcy hnw
  have hRf : F.R.frames = 3 := by rw [hR]
  have hRc : F.R.cells = 0 := by rw [hR]
  have hRs : F.R.slots = 0 := by rw [hR]
  have hRl : F.R.locals = 70 := by rw [hR]
  obtain ⟨w, ⟨hcL, hcK, hww, hwL, hwK, hwl⟩, hk0, hk0b, hk1, hk2, hrow⟩ := id hc
  refine g_aload_n Z dX1_firstIn_0 rfl ?_
  refine g_iload_n Z dX1_firstIn_1 rfl ?_
  refine g_lconst (v := 0) Z dX1_firstIn_2 (by decide) ?_
  refine g_cvI Z (f_X1_firstBit F.l F.D F.cy F.nw S c a hc i hi 1 _ (Or.inl ⟨rfl, rfl⟩)) 2 gX1_firstIn_X1_firstBit rfl (by decide +kernel) (by rw [hRf, hRl]; decide) (by assumption) (κ := 1) (by assumption) rfl (by decide) rfl rfl (Nat.le_of_ble_eq_true rfl) dX1_firstIn_3 (by rw [hRc, hRs]; omega) (fun r U hp => ?_)
  exact g_iret Z dX1_firstIn_6 (by omega) (by omega) (hp)

set_option maxRecDepth 100000 in
set_option maxHeartbeats 2000000 in
/-- the first low there, or not there, from one on -/
theorem f_X1_firstOut (l : Launch) (D : va_G) (cy : Nat → ClassId) (nw : Nat) (S : PS) (c : Nat) (a : Cn) (hc : Cv S c a) (i : Nat) (hi : i ≤ 65536) : kI l yX1_firstOut wsX1_firstOut 3 70 D cy nw [.ref c, .int (nI i)] S (fun r T => S = T ∧ ∃ n : Nat, r = nI n ∧ Fb a.2.2 0 i n) 0 0 := by
  refine enterI (cc := cX1_firstOut) (nL := 2) (ret := (some .int)) (by decide +kernel) rfl (Nat.le_of_ble_eq_true rfl) ?_
  intro F Z hl hR hD hcy hnw hnm
  subst hl hD hcy hnw
  have hRf : F.R.frames = 3 := by rw [hR]
  have hRc : F.R.cells = 0 := by rw [hR]
  have hRs : F.R.slots = 0 := by rw [hR]
  have hRl : F.R.locals = 70 := by rw [hR]
  have ct50 : Cond.constantLong RX1 50 (-1) ∈ wsX1_firstOut := by decide +kernel
  obtain ⟨w, ⟨hcL, hcK, hww, hwL, hwK, hwl⟩, hk0, hk0b, hk1, hk2, hrow⟩ := id hc
  refine g_aload_n Z dX1_firstOut_0 rfl ?_
  refine g_iload_n Z dX1_firstOut_1 rfl ?_
  refine g_ldc2 (v := -1) Z dX1_firstOut_2 ct50 ?_
  refine g_cvI Z (f_X1_firstBit F.l F.D F.cy F.nw S c a hc i hi 0 _ (Or.inr ⟨rfl, rfl⟩)) 2 gX1_firstOut_X1_firstBit rfl (by decide +kernel) (by rw [hRf, hRl]; decide) (by assumption) (κ := 1) (by assumption) rfl (by decide) rfl rfl (Nat.le_of_ble_eq_true rfl) dX1_firstOut_5 (by rw [hRc, hRs]; omega) (fun r U hp => ?_)
  exact g_iret Z dX1_firstOut_8 (by omega) (by omega) (hp)

/-- a container's part of the digest -/
def dgW (W : Nat → Int64) (h : Int64) : Nat → Int64
  | 0 => h
  | j + 1 => 31 * dgW W h j + W j
noncomputable def dgC (x : Int64) (a : Cn) : Int64 := dgW a.2.2 (31 * (31 * (31 * (31 * x + (nI a.1).toInt64) + a.2.1.toInt64) + (nI (tot a.2.2)).toInt64) + (nI (rnT a.2.2)).toInt64) 1024

set_option maxRecDepth 100000 in
set_option maxHeartbeats 2000000 in
/-- a container's part of the digest -/
theorem f_X1_digestFrom (l : Launch) (D : va_G) (cy : Nat → ClassId) (nw : Nat) (S : PS) (c : Nat) (a : Cn) (hc : Cv S c a) (x : Int64) : kL l yX1_digestFrom wsX1_digestFrom 2 47 D cy nw [.ref c, .long x] S (fun r T => S = T ∧ r = dgC x a) 0 0 := by
  refine enterL (cc := cX1_digestFrom) (nL := 6) (ret := (some .long)) (by decide +kernel) rfl (Nat.le_of_ble_eq_true rfl) ?_
  intro F Z hl hR hD hcy hnw hnm
  subst hl hD hcy hnw
  have hRf : F.R.frames = 2 := by rw [hR]
  have hRc : F.R.cells = 0 := by rw [hR]
  have hRs : F.R.slots = 0 := by rw [hR]
  have hRl : F.R.locals = 47 := by rw [hR]
  have in1 : ∀ w ∈ u_ws RX1 TX1 4, w ∈ wsX1_digestFrom := by decide +kernel
  have lk13 : Cond.fieldLink RX1 13 (TX1 3).1 (TX1 3).2.1 (TX1 3).2.2.1 ∈ wsX1_digestFrom := by decide +kernel
  have lk27 : Cond.fieldLink RX1 27 (TX1 0).1 (TX1 0).2.1 (TX1 0).2.2.1 ∈ wsX1_digestFrom := by decide +kernel
  have lk31 : Cond.fieldLink RX1 31 (TX1 1).1 (TX1 1).2.1 (TX1 1).2.2.1 ∈ wsX1_digestFrom := by decide +kernel
  have lk34 : Cond.fieldLink RX1 34 (TX1 2).1 (TX1 2).2.1 (TX1 2).2.2.1 ∈ wsX1_digestFrom := by decide +kernel
  have ct86 : Cond.constantLong RX1 86 (31) ∈ wsX1_digestFrom := by decide +kernel
  obtain ⟨w, ⟨hcL, hcK, hww, hwL, hwK, hwl⟩, hk0, hk0b, hk1, hk2, hrow⟩ := id hc
  have loop : ∀ (n : Nat) (j : Nat), 1024 - j < n → j ≤ 1024 → G F 6 S 0 0 (QL F (fun r T => S = T ∧ r = dgC x a) 0 0) 51 [(0, .ref c), (1, .long x), (3, .long (dgW a.2.2 (31 * (31 * (31 * (31 * x + (nI a.1).toInt64) + a.2.1.toInt64) + (nI (tot a.2.2)).toInt64) + (nI (rnT a.2.2)).toInt64) j)), (5, .int (nI j))] [] := by
    intro n
    induction n with
    | zero => intros; omega
    | succ n ih =>
      intro j hn hj
      refine g_iload Z dX1_digestFrom_51 rfl ?_
      refine g_sipush (v := 1024) Z dX1_digestFrom_53 (by decide) ?_
      refine g_icmp_ge Z 79 dX1_digestFrom_56 (by decide) (fun h56 => ?_) (fun h56 => ?_)
      · have he : j = 1024 := by have := ge_t (i := j) (N := 1024) (by omega) (by decide) h56; omega
        refine g_lload_n Z dX1_digestFrom_79 rfl ?_
        exact g_lret Z dX1_digestFrom_80 (by omega) (by omega) (⟨rfl, by rw [he]; rfl⟩)
      · have hlt : j < 1024 := ge_f (by omega) (by decide) h56
        refine g_ldc2 (v := 31) Z dX1_digestFrom_59 ct86 ?_
        refine g_lload_n Z dX1_digestFrom_62 rfl ?_
        refine g_lmul Z dX1_digestFrom_63 ?_
        refine g_aload_n Z dX1_digestFrom_64 rfl ?_
        refine g_getr Z 1 3 rfl (by decide) in1 lk13 dX1_digestFrom_65 (by assumption) (by assumption) (by assumption) ?_
        refine g_iload Z dX1_digestFrom_68 rfl ?_
        refine g_lald Z dX1_digestFrom_70 (by assumption) (by assumption) (by exact vin_of hwl (by omega) (by decide)) ?_
        rw [nI_clamp (by omega), hrow j hlt]
        refine g_ladd Z dX1_digestFrom_71 ?_
        refine g_lstore_n Z dX1_digestFrom_72 (by decide) ?_
        refine g_iinc (c := 1) Z dX1_digestFrom_73 rfl (by decide) (by decide) ?_
        rw [nI_1]
        refine g_goto Z 51 dX1_digestFrom_76 (by decide) ?_
        exact g_lv (by (repeat (first | exact trivial | refine And.intro rfl ?_)); done) (ih (j + 1) (by omega) (by omega))
  refine g_ldc2 (v := 31) Z dX1_digestFrom_0 ct86 ?_
  refine g_lload_n Z dX1_digestFrom_3 rfl ?_
  refine g_lmul Z dX1_digestFrom_4 ?_
  refine g_aload_n Z dX1_digestFrom_5 rfl ?_
  refine g_geti Z 1 0 rfl (by decide) in1 lk27 dX1_digestFrom_6 (by assumption) (by assumption) ?_
  rw [hk0]
  refine g_i2l Z dX1_digestFrom_9 ?_
  refine g_ladd Z dX1_digestFrom_10 ?_
  refine g_lstore_n Z dX1_digestFrom_11 (by decide) ?_
  refine g_ldc2 (v := 31) Z dX1_digestFrom_12 ct86 ?_
  refine g_lload_n Z dX1_digestFrom_15 rfl ?_
  refine g_lmul Z dX1_digestFrom_16 ?_
  refine g_aload_n Z dX1_digestFrom_17 rfl ?_
  refine g_geti Z 1 1 rfl (by decide) in1 lk31 dX1_digestFrom_18 (by assumption) (by assumption) ?_
  rw [hk1]
  refine g_i2l Z dX1_digestFrom_21 ?_
  refine g_ladd Z dX1_digestFrom_22 ?_
  refine g_lstore_n Z dX1_digestFrom_23 (by decide) ?_
  refine g_ldc2 (v := 31) Z dX1_digestFrom_24 ct86 ?_
  refine g_lload_n Z dX1_digestFrom_27 rfl ?_
  refine g_lmul Z dX1_digestFrom_28 ?_
  refine g_aload_n Z dX1_digestFrom_29 rfl ?_
  refine g_geti Z 1 2 rfl (by decide) in1 lk34 dX1_digestFrom_30 (by assumption) (by assumption) ?_
  rw [hk2]
  refine g_i2l Z dX1_digestFrom_33 ?_
  refine g_ladd Z dX1_digestFrom_34 ?_
  refine g_lstore_n Z dX1_digestFrom_35 (by decide) ?_
  refine g_ldc2 (v := 31) Z dX1_digestFrom_36 ct86 ?_
  refine g_lload_n Z dX1_digestFrom_39 rfl ?_
  refine g_lmul Z dX1_digestFrom_40 ?_
  refine g_aload_n Z dX1_digestFrom_41 rfl ?_
  refine g_cvI Z (c_X1_totalRuns F.l F.D F.cy F.nw _ c hc.cr) 0 gX1_digestFrom_X1_totalRuns rfl (by decide +kernel) (by rw [hRf, hRl]; decide) (by assumption) (κ := 1) (by assumption) rfl (by decide) rfl rfl (Nat.le_of_ble_eq_true rfl) dX1_digestFrom_42 (by rw [hRc, hRs]; omega) (fun r U hp => ?_)
  obtain ⟨rfl, hr⟩ := hp
  have hr2 := hr w hww
  subst hr2
  rw [trF_rnT, rnT_congr hrow]
  refine g_i2l Z dX1_digestFrom_45 ?_
  refine g_ladd Z dX1_digestFrom_46 ?_
  refine g_lstore_n Z dX1_digestFrom_47 (by decide) ?_
  refine g_iconst (v := 0) Z dX1_digestFrom_48 (by decide) ?_
  refine g_istore Z dX1_digestFrom_49 (by decide) ?_
  exact g_lv (by (repeat (first | exact trivial | refine And.intro rfl ?_)); done) (loop 1025 0 (by omega) (by omega))

theorem nI_sb {a b : Nat} (h : b ≤ a) : nI a - nI b = nI (a - b) := by
  have e : nI a = nI (a - b) + nI b := by rw [nI_add, Nat.sub_add_cancel h]
  rw [e, Int32.add_sub_cancel]

