/-! WRITING: the state when k bytes have been put from a row of n places, u of them used -/
def WS (S : PS) (br n u k : Nat) (T : PS) : Prop := Rl Pb S T ∧ ∃ h2, BytesAt T br h2 (bN n u k) (bU u k)
theorem bb_n {n u k m : Nat} (hun : u ≤ n) (hn : n ≤ 60000) : bN (bN n u k) (bU u k) m = bN n u (k + m) ∧ bU (bU u k) m = bU u (k + m) ∧ bG n u k + bG (bN n u k) (bU u k) m = bG n u (k + m) := by
  unfold bN bU bG
  by_cases h1 : u + k ≤ n
  · rw [if_pos h1, if_pos (Or.inl h1), show min (u + k) 60000 = u + k by omega]
    refine ⟨?_, by omega, ?_⟩
    · by_cases h2 : u + k + m ≤ n
      · rw [if_pos h2, if_pos (by omega)]
      · rw [if_neg h2, if_neg (by omega)]
    · by_cases h2 : u + k + m ≤ n ∨ n = 60000
      · rw [if_pos h2, if_pos (by omega)]
      · rw [if_neg h2, if_neg (by omega)]
  · rw [if_neg h1]
    refine ⟨?_, by omega, ?_⟩
    · rw [if_neg (by omega : ¬ u + (k + m) ≤ n)]
      by_cases h2 : min (u + k) 60000 + m ≤ 60000
      · rw [if_pos h2]
      · rw [if_neg h2]
    · rw [if_pos (Or.inr rfl : min (u + k) 60000 + m ≤ 60000 ∨ (60000 : Nat) = 60000)]
      by_cases h2 : n = 60000
      · rw [if_pos (Or.inr h2), if_pos (Or.inr h2)]
      · rw [if_neg (by omega), if_neg (by omega)]
theorem bG_le {n u k K : Nat} (h : k ≤ K) : bG n u k ≤ bG n u K := by
  unfold bG
  by_cases h1 : u + k ≤ n ∨ n = 60000
  · rw [if_pos h1]; exact Nat.zero_le _
  · rw [if_neg h1, if_neg (by omega)]; exact Nat.le_refl _
theorem w_room {n u k m K : Nat} (hun : u ≤ n) (hn : n ≤ 60000) (h : k + m ≤ K) : bG n u k + bG (bN n u k) (bU u k) m ≤ bG n u K ∧ 60000 * bG n u k + 60000 * bG (bN n u k) (bU u k) m ≤ 60000 * bG n u K := by
  have h1 := (bb_n (k := k) (m := m) hun hn).2.2
  have h2 := bG_le (n := n) (u := u) h
  omega
theorem w_wid {n u k m : Nat} (hun : u ≤ n) (hn : n ≤ 60000) : bG n u k + bG (bN n u k) (bU u k) m ≤ bG n u (k + m) ∧ 60000 * bG n u k + 60000 * bG (bN n u k) (bU u k) m ≤ 60000 * bG n u (k + m) := w_room hun hn (Nat.le_refl _)
theorem w_room0 {n u k K : Nat} (h : k ≤ K) : bG n u k + 0 ≤ bG n u K ∧ 60000 * bG n u k + 0 ≤ 60000 * bG n u K := by
  have := bG_le (n := n) (u := u) h
  omega
theorem WS.put {S T U : PS} {br n u k m : Nat} (hun : u ≤ n) (hn : n ≤ 60000) (h : WS S br n u k T) (hp : Rl Pb T U ∧ ∃ h2, BytesAt U br h2 (bN (bN n u k) (bU u k) m) (bU (bU u k) m)) : WS S br n u (k + m) U := by
  obtain ⟨e1, e2, -⟩ := bb_n (k := k) (m := m) hun hn
  obtain ⟨h1, h2, h3⟩ := hp
  rw [e1, e2] at h3
  exact ⟨h.1.tr h1, h2, h3⟩
theorem WS.rf {S : PS} {br h n u : Nat} (hb : BytesAt S br h n u) : WS S br n u 0 S := by
  have hun := hb.2.2.2.2.2.2.2.2.1
  have hn := hb.2.2.2.2.2.2.1
  refine ⟨Rl.rf, h, ?_⟩
  rw [show bN n u 0 = n by unfold bN; rw [if_pos (by omega)], show bU u 0 = u by unfold bU; omega]
  exact hb
theorem bG_0 {n u : Nat} (hun : u ≤ n) : bG n u 0 = 0 := by unfold bG; rw [if_pos (by omega)]
abbrev nPb1 : ¬ Pb 1 := by decide
abbrev nPb2 : ¬ Pb 2 := by decide
abbrev nPb10 : ¬ Pb 10 := by decide
abbrev nPb9 : ¬ Pb 9 := by decide
/-- how many bytes the words ahead of word i have as an array's -/
def aK (f : Nat → Int64) : Nat → Nat
  | 0 => 0
  | i + 1 => aK f i + 2 * (bcF (f i)).toNatClampNeg

set_option maxRecDepth 100000 in
set_option maxHeartbeats 2000000 in
/-- static -/
theorem c_X5_putBitmap (l : Launch) (D : va_G) (cy : Nat → ClassId) (nw : Nat) (S : PS) (c : Nat) (hc : Cr S c) (br h n u : Nat) (hb : BytesAt S br h n u) : kV l yX5_putBitmap wsX5_putBitmap 3 106 D cy nw [.ref c, .ref br] S (fun T => WS S br n u 8192 T) (bG n u 8192) (60000 * bG n u 8192) := by
  refine enterV (cc := cX5_putBitmap) (nL := 3) (ret := none) (by decide +kernel) rfl (Nat.le_of_ble_eq_true rfl) ?_
  intro F Z hl hR hD hcy hnw hnm
  subst hl hD hcy hnw
  have hRf : F.R.frames = 3 := by rw [hR]
  have hRc : F.R.cells = (bG n u 8192) := by rw [hR]
  have hRs : F.R.slots = (60000 * bG n u 8192) := by rw [hR]
  have hRl : F.R.locals = 106 := by rw [hR]
  have in1 : ∀ w ∈ u_ws RX1 TX1 4, w ∈ wsX5_putBitmap := by decide +kernel
  have lk85 : Cond.fieldLink RX5 85 (TX1 3).1 (TX1 3).2.1 (TX1 3).2.2.1 ∈ wsX5_putBitmap := by decide +kernel
  have hun : u ≤ n := hb.2.2.2.2.2.2.2.2.1
  have hn6 : n ≤ 60000 := by have := hb.2.2.2.2.2.2.1; omega
  obtain ⟨-, -, -, w, hww, hwL0, hwK0, hwl0⟩ := id hc
  have loop : ∀ (m j : Nat) (T : PS), 1024 - j < m → (WS S br n u (8 * j) T ∧ j ≤ 1024) → G F 3 T (bG n u (8 * j)) (60000 * bG n u (8 * j)) (QV F (fun T => WS S br n u 8192 T) (bG n u 8192) (60000 * bG n u 8192)) 2 [(0, .ref c), (1, .ref br), (2, .int (nI j))] [] := by
    intro m
    induction m with
    | zero => intros; omega
    | succ m ih =>
      intro j T hm ⟨hW, hj⟩
      have hcrT := hW.1.cr nPb1 hc
      obtain ⟨hcL, hcK, -, w2, hww2, hwL, hwK, hwl⟩ := id hcrT
      have hw2 : w2 = w := by
        have := ((hW.1 c hc.1).2.2.2 (by rw [hc.2.1]; exact nPb1)).2.1
        rw [this, hww] at hww2
        exact (Option.some.inj hww2).symm
      subst hw2
      have hrj : T.rj w2 = S.rj w2 := ((hW.1 w2 hwL0).2.2.2 (by rw [hwK0]; exact nPb9)).2.2.2.1
      refine g_iload_n Z dX5_putBitmap_2 rfl ?_
      refine g_sipush (v := 1024) Z dX5_putBitmap_3 (by decide) ?_
      refine g_icmp_ge Z 27 dX5_putBitmap_6 (by decide) (fun h6 => ?_) (fun h6 => ?_)
      · have he : j = 1024 := by have := ge_t (N := 1024) (by omega) (by decide) h6; omega
        subst he
        exact g_vret Z dX5_putBitmap_27 (by exact Nat.le_refl _) (by exact Nat.le_refl _) (hW)
      · have hlt : j < 1024 := ge_f (by omega) (by decide) h6
        refine g_aload_n Z dX5_putBitmap_9 rfl ?_
        refine g_aload_n Z dX5_putBitmap_10 rfl ?_
        refine g_getr Z 1 3 rfl (by decide) in1 lk85 dX5_putBitmap_11 (by assumption) (by assumption) (by assumption) ?_
        refine g_iload_n Z dX5_putBitmap_14 rfl ?_
        refine g_lald Z dX5_putBitmap_15 (by assumption) (by assumption) (by exact vin_of hwl hlt (by decide)) ?_
        refine g_bipush (v := 8) Z dX5_putBitmap_16 (by decide) ?_
        refine g_cvV Z (c_X0_put F.l F.D F.cy F.nw _ br _ _ _ (hW.2.choose_spec) 8 (by omega) _) 2 gX5_putBitmap_X0_put rfl (by decide +kernel) (by rw [hRf, hRl]; decide) (by exact hW.2.choose_spec.1) (κ := 0) (by exact hW.2.choose_spec.2.1) rfl (by decide) rfl rfl (Nat.le_of_ble_eq_true rfl) dX5_putBitmap_18 (by rw [hRc, hRs]; exact w_room hun hn6 (by omega)) (fun U hp => ?_)
        have hW2 := hW.put hun hn6 hp
        refine g_widen (w_wid hun hn6).1 (w_wid hun hn6).2 ?_
        refine g_iinc (c := 1) Z dX5_putBitmap_21 rfl (by decide) (by decide) ?_
        rw [nI_1]
        refine g_goto Z 2 dX5_putBitmap_24 (by decide) ?_
        rw [show 8 * j + 8 = 8 * (j + 1) by omega] at hW2 ⊢
        exact g_lv (by (repeat (first | exact trivial | refine And.intro rfl ?_)); done) (ih (j + 1) U (by omega) ⟨hW2, by omega⟩)
  refine g_iconst (v := 0) Z dX5_putBitmap_0 (by decide) ?_
  refine g_istore_n Z dX5_putBitmap_1 (by decide) ?_
  exact g_widen (Nat.zero_le _) (Nat.zero_le _) (g_lv (by (repeat (first | exact trivial | refine And.intro rfl ?_)); done) (loop 1025 0 S (by omega) ⟨WS.rf hb, by omega⟩))

theorem aK_mono (f : Nat → Int64) {i j : Nat} (h : i ≤ j) : aK f i ≤ aK f j := by
  induction j with
  | zero => rw [Nat.le_zero.mp h]; exact Nat.le_refl _
  | succ j ih =>
    by_cases e : i = j + 1
    · rw [e]; exact Nat.le_refl _
    · exact Nat.le_trans (ih (by omega)) (Nat.le_add_right _ _)
theorem clamp_le {k : Nat} (hk : k < 2 ^ 31) {y : Int32} (h : y ≤ nI k) : y.toNatClampNeg ≤ k := by
  have h2 : y.toInt ≤ (nI k).toInt := Int32.le_iff_toInt_le.mp h
  rw [nI_toInt hk] at h2
  show y.toInt.toNat ≤ k
  omega

set_option maxRecDepth 100000 in
set_option maxHeartbeats 2000000 in
/-- static -/
theorem c_X5_putArray (l : Launch) (D : va_G) (cy : Nat → ClassId) (nw : Nat) (S : PS) (c : Nat) (hc : Cr S c) (br h n u : Nat) (hb : BytesAt S br h n u) (w0 : Nat) (hww0 : S.fr c 3 = some w0) : kV l yX5_putArray wsX5_putArray 3 106 D cy nw [.ref c, .ref br] S (fun T => WS S br n u (aK (S.rj w0) 1024) T) (bG n u (aK (S.rj w0) 1024)) (60000 * bG n u (aK (S.rj w0) 1024)) := by
  refine enterV (cc := cX5_putArray) (nL := 7) (ret := none) (by decide +kernel) rfl (Nat.le_of_ble_eq_true rfl) ?_
  intro F Z hl hR hD hcy hnw hnm
  subst hl hD hcy hnw
  have hRf : F.R.frames = 3 := by rw [hR]
  have hRc : F.R.cells = (bG n u (aK (S.rj w0) 1024)) := by rw [hR]
  have hRs : F.R.slots = (60000 * bG n u (aK (S.rj w0) 1024)) := by rw [hR]
  have hRl : F.R.locals = 106 := by rw [hR]
  have in1 : ∀ w ∈ u_ws RX1 TX1 4, w ∈ wsX5_putArray := by decide +kernel
  have lk85 : Cond.fieldLink RX5 85 (TX1 3).1 (TX1 3).2.1 (TX1 3).2.2.1 ∈ wsX5_putArray := by decide +kernel
  have hun : u ≤ n := hb.2.2.2.2.2.2.2.2.1
  have hn6 : n ≤ 60000 := by have := hb.2.2.2.2.2.2.1; omega
  obtain ⟨-, -, -, w, hww, hwL0, hwK0, hwl0⟩ := id hc
  obtain rfl : w0 = w := by rw [hww0] at hww; exact Option.some.inj hww
  have mono : ∀ i, i ≤ 1024 → aK (S.rj w0) i ≤ aK (S.rj w0) 1024 := fun i hi => aK_mono (S.rj w0) hi
  have loop : ∀ (m j : Nat) (T : PS), 1024 - j < m → (WS S br n u (aK (S.rj w0) j) T ∧ j ≤ 1024) → G F 7 T (bG n u (aK (S.rj w0) j)) (60000 * bG n u (aK (S.rj w0) j)) (QV F (fun T => WS S br n u (aK (S.rj w0) 1024) T) (bG n u (aK (S.rj w0) 1024)) (60000 * bG n u (aK (S.rj w0) 1024))) 2 [(0, .ref c), (1, .ref br), (2, .int (nI j))] [] := by
    intro m
    induction m with
    | zero => intros; omega
    | succ m ih =>
      intro j T hm ⟨hW, hj⟩
      have hcrT := hW.1.cr nPb1 hc
      obtain ⟨hcL, hcK, -, w2, hww2, hwL, hwK, hwl⟩ := id hcrT
      have hw2 : w2 = w0 := by
        have := ((hW.1 c hc.1).2.2.2 (by rw [hc.2.1]; exact nPb1)).2.1
        rw [this, hww] at hww2
        exact (Option.some.inj hww2).symm
      subst hw2
      have hrj : T.rj w2 = S.rj w2 := ((hW.1 w2 hwL0).2.2.2 (by rw [hwK0]; exact nPb9)).2.2.2.1
      refine g_iload_n Z dX5_putArray_2 rfl ?_
      refine g_sipush (v := 1024) Z dX5_putArray_3 (by decide) ?_
      refine g_icmp_ge Z 65 dX5_putArray_6 (by decide) (fun h6 => ?_) (fun h6 => ?_)
      · have he : j = 1024 := by have := ge_t (N := 1024) (by omega) (by decide) h6; omega
        subst he
        exact g_vret Z dX5_putArray_65 (by exact Nat.le_refl _) (by exact Nat.le_refl _) (hW)
      · have hlt : j < 1024 := ge_f (by omega) (by decide) h6
        have inner : ∀ (m2 q : Nat) (v : Int64) (T : PS), (bcF (S.rj w2 j)).toNatClampNeg - q < m2 → (WS S br n u (aK (S.rj w2) j + 2 * q) T ∧ q ≤ (bcF (S.rj w2 j)).toNatClampNeg) → G F 7 T (bG n u (aK (S.rj w2) j + 2 * q)) (60000 * bG n u (aK (S.rj w2) j + 2 * q)) (QV F (fun T => WS S br n u (aK (S.rj w2) 1024) T) (bG n u (aK (S.rj w2) 1024)) (60000 * bG n u (aK (S.rj w2) 1024))) 25 [(0, .ref c), (1, .ref br), (2, .int (nI j)), (3, .long v), (5, .int (bcF (S.rj w2 j))), (6, .int (nI q))] [] := by
          intro m2
          induction m2 with
          | zero => intros; omega
          | succ m2 ih2 =>
            intro q v T hm2 ⟨hW, hq⟩
            have hcb := clamp_lt (bcF (S.rj w2 j))
            have hmj := mono (j + 1) (by omega)
            have ea : aK (S.rj w2) (j + 1) = aK (S.rj w2) j + 2 * (bcF (S.rj w2 j)).toNatClampNeg := rfl
            refine g_iload Z dX5_putArray_25 rfl ?_
            refine g_iload Z dX5_putArray_27 rfl ?_
            refine g_icmp_ge Z 59 dX5_putArray_29 (by decide) (fun h29 => ?_) (fun h29 => ?_)
            · have he : q = (bcF (S.rj w2 j)).toNatClampNeg := by have := clamp_le (k := q) (by omega) h29; omega
              refine g_iinc (c := 1) Z dX5_putArray_59 rfl (by decide) (by decide) ?_
              rw [nI_1]
              refine g_goto Z 2 dX5_putArray_62 (by decide) ?_
              subst he
              exact g_lv (by (repeat (first | exact trivial | refine And.intro rfl ?_)); done) (ih (j + 1) T (by omega) ⟨hW, by omega⟩)
            · have hlt2 : q < (bcF (S.rj w2 j)).toNatClampNeg := lt_clamp (by omega) h29
              refine g_aload_n Z dX5_putArray_32 rfl ?_
              refine g_iload_n Z dX5_putArray_33 rfl ?_
              refine g_bipush (v := 6) Z dX5_putArray_34 (by decide) ?_
              refine g_ishl Z dX5_putArray_36 ?_
              rw [shl6 (by omega)]
              refine g_lload_n Z dX5_putArray_37 rfl ?_
              refine g_csI Z (c_J13_numberOfTrailingZeros_95d88 F.l F.D F.cy F.nw _ _) 1 gX5_putArray_J13_numberOfTrailingZeros_95d88 rfl (by decide +kernel) (by rw [hRf, hRl]; decide) rfl rfl (Nat.le_of_ble_eq_true rfl) dX5_putArray_38 (by rw [hRc, hRs]; exact w_room0 (by omega)) (fun r V hp => ?_)
              obtain ⟨rfl, n2, hn2, rfl⟩ := hp
              refine g_iadd Z dX5_putArray_41 ?_
              refine g_i2l Z dX5_putArray_42 ?_
              refine g_iconst (v := 2) Z dX5_putArray_43 (by decide) ?_
              refine g_cvV Z (c_X0_put F.l F.D F.cy F.nw _ br _ _ _ (hW.2.choose_spec) 2 (by omega) _) 2 gX5_putArray_X0_put rfl (by decide +kernel) (by rw [hRf, hRl]; decide) (by exact hW.2.choose_spec.1) (κ := 0) (by exact hW.2.choose_spec.2.1) rfl (by decide) rfl rfl (Nat.le_of_ble_eq_true rfl) dX5_putArray_44 (by rw [hRc, hRs]; exact w_room hun hn6 (by omega)) (fun V hp => ?_)
              have hW2 := hW.put hun hn6 hp
              refine g_widen (w_wid hun hn6).1 (w_wid hun hn6).2 ?_
              refine g_lload_n Z dX5_putArray_47 rfl ?_
              refine g_lload_n Z dX5_putArray_48 rfl ?_
              refine g_lconst (v := 1) Z dX5_putArray_49 (by decide) ?_
              refine g_lsub Z dX5_putArray_50 ?_
              refine g_land Z dX5_putArray_51 ?_
              refine g_lstore_n Z dX5_putArray_52 (by decide) ?_
              refine g_iinc (c := 1) Z dX5_putArray_53 rfl (by decide) (by decide) ?_
              rw [nI_1]
              refine g_goto Z 25 dX5_putArray_56 (by decide) ?_
              rw [show aK (S.rj w2) j + 2 * q + 2 = aK (S.rj w2) j + 2 * (q + 1) by omega] at hW2 ⊢
              exact g_lv (by (repeat (first | exact trivial | refine And.intro rfl ?_)); done) (ih2 (q + 1) _ V (by omega) ⟨hW2, by omega⟩)
        refine g_aload_n Z dX5_putArray_9 rfl ?_
        refine g_getr Z 1 3 rfl (by decide) in1 lk85 dX5_putArray_10 (by assumption) (by assumption) (by assumption) ?_
        refine g_iload_n Z dX5_putArray_13 rfl ?_
        refine g_lald Z dX5_putArray_14 (by assumption) (by assumption) (by exact vin_of hwl hlt (by decide)) ?_
        rw [show (nI j).toNatClampNeg = j from nI_clamp (by omega), hrj]
        refine g_lstore_n Z dX5_putArray_15 (by decide) ?_
        refine g_lload_n Z dX5_putArray_16 rfl ?_
        refine g_csI Z (c_J13_bitCount_95d88 F.l F.D F.cy F.nw _ _) 1 gX5_putArray_J13_bitCount_95d88 rfl (by decide +kernel) (by rw [hRf, hRl]; decide) rfl rfl (Nat.le_of_ble_eq_true rfl) dX5_putArray_17 (by rw [hRc, hRs]; exact w_room0 (mono j (by omega))) (fun r U hp => ?_)
        obtain ⟨rfl, rfl⟩ := hp
        refine g_istore Z dX5_putArray_20 (by decide) ?_
        refine g_iconst (v := 0) Z dX5_putArray_22 (by decide) ?_
        refine g_istore Z dX5_putArray_23 (by decide) ?_
        exact g_lv (by (repeat (first | exact trivial | refine And.intro rfl ?_)); done) (inner (2 ^ 31) 0 _ T (by have := clamp_lt (bcF (S.rj w2 j)); omega) ⟨hW, by omega⟩)
  refine g_iconst (v := 0) Z dX5_putArray_0 (by decide) ?_
  refine g_istore_n Z dX5_putArray_1 (by decide) ?_
  exact g_widen (Nat.zero_le _) (Nat.zero_le _) (g_lv (by (repeat (first | exact trivial | refine And.intro rfl ?_)); done) (loop 1025 0 S (by omega) ⟨WS.rf hb, by omega⟩))
