/-! THE REFERENCE: what its sets must keep -/
theorem ix6 (s k : Nat) : (6 : Int32) * nI s + nI k = nI (6 * s + k) := by rw [show (6 : Int32) = nI 6 from rfl, pk_mul, nI_add]
theorem ixw (c w : Nat) : (1024 : Int32) * nI c + nI w = nI (1024 * c + w) := by rw [show (1024 : Int32) = nI 1024 from rfl, pk_mul, nI_add]
theorem d64 {l : Nat} (h : l < 2 ^ 31) : nI l / 64 = nI (l / 64) := pk_div (d := 64) h (by decide) (by decide)
theorem r64 {l : Nat} (h : l < 2 ^ 31) : nI l - nI l / 64 * 64 = nI (l % 64) := pk_rem (d := 64) h (by decide) (by decide)
def inR (x : Int32) (a b : Nat) (r : Int32) : Prop := (r = 1 ∧ ∃ j, a ≤ j ∧ j ≤ b ∧ x = nI j) ∨ (r = 0 ∧ ¬ ∃ j, a ≤ j ∧ j ≤ b ∧ x = nI j)
theorem in_iff {x : Int32} {a b : Nat} (ha : a < 2 ^ 31) (hb : b < 2 ^ 31) : (lN a ≤ x.toInt64 ∧ x.toInt64 ≤ lN b) ↔ ∃ j, a ≤ j ∧ j ≤ b ∧ x = nI j := by
  rw [Int64.le_iff_toInt_le, Int64.le_iff_toInt_le, lN_toInt ha, lN_toInt hb, Int32.toInt_toInt64]
  constructor
  · rintro ⟨h1, h2⟩
    refine ⟨x.toInt.toNat, by omega, by omega, ?_⟩
    apply Int32.toInt_inj.mp
    rw [nI_toInt (by omega)]
    omega
  · rintro ⟨j, h1, h2, rfl⟩
    rw [nI_toInt (by omega)]
    omega
theorem in_R {x : Int32} {a b : Nat} {r : Int32} (ha : a < 2 ^ 31) (hb : b < 2 ^ 31) (h : (r = 1 ∧ lN a ≤ x.toInt64 ∧ x.toInt64 ≤ lN b) ∨ (r = 0 ∧ ¬ (lN a ≤ x.toInt64 ∧ x.toInt64 ≤ lN b))) : inR x a b r := by
  rcases h with ⟨h1, h2⟩ | ⟨h1, h2⟩
  · exact Or.inl ⟨h1, (in_iff ha hb).mp h2⟩
  · exact Or.inr ⟨h1, fun q => h2 ((in_iff ha hb).mpr q)⟩
theorem inR.t {x : Int32} {a b : Nat} {r : Int32} (h : inR x a b r) (h0 : ¬ r = 0) : ∃ j, a ≤ j ∧ j ≤ b ∧ x = nI j := by
  rcases h with h | h
  · exact h.2
  · exact absurd h.1 h0
theorem inR.f {x : Int32} {a b : Nat} {r : Int32} (h : inR x a b r) (h0 : r = 0) : ¬ ∃ j, a ≤ j ∧ j ≤ b ∧ x = nI j := by
  rcases h with h | h
  · exact absurd (h.1.symm.trans h0) (by decide)
  · exact h.2
theorem inR.is {x : Int32} {b : Nat} {r : Int32} (h : inR x 0 b r) (h0 : ¬ r = 0) : ∃ j, j ≤ b ∧ x = nI j := by
  obtain ⟨j, -, h1, h2⟩ := h.t h0
  exact ⟨j, h1, h2⟩
def Okc (C : C5) : Prop := (∀ s, s < 17 → ∃ k, k ≤ 6 ∧ C.mn s = nI k) ∧ ∀ i, i < 102 → ∃ k, k < 65536 ∧ C.ky i = nI k
/-- the size that is told of a container is how many bits it has -/
def gc (C : C5) (i : Nat) : Prop := C.sz i = nI (ct C.wd i 65536)
def Gd (C : C5) (s : Nat) : Prop := ∃ k, k ≤ 6 ∧ C.mn s = nI k ∧ ∀ i, i < k → gc C (6 * s + i)
/-- only container c has changed -/
def Ce (c : Nat) (C D : C5) : Prop := D.mn = C.mn ∧ ∀ d, d ≠ c → D.ky d = C.ky d ∧ D.sz d = C.sz d ∧ ∀ l, l < 65536 → cb D.wd d l = cb C.wd d l
/-- only set s has changed -/
def Se (s : Nat) (C D : C5) : Prop := ∀ t, t < 17 → t ≠ s → D.mn t = C.mn t ∧ ∀ i, i < 6 → D.ky (6 * t + i) = C.ky (6 * t + i) ∧ D.sz (6 * t + i) = C.sz (6 * t + i) ∧ ∀ l, l < 65536 → cb D.wd (6 * t + i) l = cb C.wd (6 * t + i) l
theorem Ce.rf {c : Nat} {C : C5} : Ce c C C := ⟨rfl, fun _ _ => ⟨rfl, rfl, fun _ _ => rfl⟩⟩
theorem Ce.tr {c : Nat} {C D E : C5} (h : Ce c C D) (k : Ce c D E) : Ce c C E := ⟨k.1.trans h.1, fun d hd => ⟨(k.2 d hd).1.trans (h.2 d hd).1, (k.2 d hd).2.1.trans (h.2 d hd).2.1, fun l hl => ((k.2 d hd).2.2 l hl).trans ((h.2 d hd).2.2 l hl)⟩⟩
theorem Se.rf {s : Nat} {C : C5} : Se s C C := fun _ _ _ => ⟨rfl, fun _ _ => ⟨rfl, rfl, fun _ _ => rfl⟩⟩
theorem Se.tr {s : Nat} {C D E : C5} (h : Se s C D) (k : Se s D E) : Se s C E := fun t h1 h2 => ⟨(k t h1 h2).1.trans (h t h1 h2).1, fun i hi => ⟨((k t h1 h2).2 i hi).1.trans ((h t h1 h2).2 i hi).1, ((k t h1 h2).2 i hi).2.1.trans ((h t h1 h2).2 i hi).2.1, fun l hl => (((k t h1 h2).2 i hi).2.2 l hl).trans (((h t h1 h2).2 i hi).2.2 l hl)⟩⟩
theorem gc_of {C D : C5} {i : Nat} (h1 : D.sz i = C.sz i) (h2 : ∀ l, l < 65536 → cb D.wd i l = cb C.wd i l) (h : gc C i) : gc D i := by
  unfold gc
  rw [h1, ct_congr 65536 h2]
  exact h
theorem Ce.gc {c d : Nat} {C D : C5} (h : Ce c C D) (hd : d ≠ c) (k : gc C d) : gc D d := gc_of (h.2 d hd).2.1 (h.2 d hd).2.2 k
theorem Se.gd {s t : Nat} {C D : C5} (h : Se s C D) (ht : t < 17) (hne : t ≠ s) (k : Gd C t) : Gd D t := by
  obtain ⟨n, h1, h2, h3⟩ := k
  obtain ⟨a1, a2⟩ := h t ht hne
  exact ⟨n, h1, a1.trans h2, fun i hi => gc_of (a2 i (by omega)).2.1 (a2 i (by omega)).2.2 (h3 i hi)⟩
theorem Ce.ok {c : Nat} {C D : C5} (h : Ce c C D) (hk : ∃ k, k < 65536 ∧ D.ky c = nI k) (k : Okc C) : Okc D := by
  refine ⟨fun s hs => ?_, fun i hi => ?_⟩
  · rw [h.1]; exact k.1 s hs
  · by_cases e : i = c
    · rw [e]; exact hk
    · rw [(h.2 i e).1]; exact k.2 i hi

set_option maxRecDepth 100000 in
set_option maxHeartbeats 2000000 in
/-- static: whether a number is within two -/
theorem c_X7_in (l : Launch) (D : va_G) (cy : Nat → ClassId) (nw : Nat) (S : PS) (v a b : Int64) : kI l yX7_in wsX7_in 0 0 D cy nw [.long v, .long a, .long b] S (fun r T => S = T ∧ ((r = 1 ∧ a ≤ v ∧ v ≤ b) ∨ (r = 0 ∧ ¬ (a ≤ v ∧ v ≤ b)))) 0 0 := by
  refine enterI (cc := cX7_in) (nL := 6) (ret := (some .boolean)) (by decide +kernel) rfl (Nat.le_of_ble_eq_true rfl) ?_
  intro F Z hl hR hD hcy hnw hnm
  subst hl hD hcy hnw
  have hRf : F.R.frames = 0 := by rw [hR]
  have hRc : F.R.cells = 0 := by rw [hR]
  have hRs : F.R.slots = 0 := by rw [hR]
  have hRl : F.R.locals = 0 := by rw [hR]
  refine g_lload_n Z dX7_in_0 rfl ?_
  refine g_lload_n Z dX7_in_1 rfl ?_
  refine g_lcmp Z dX7_in_2 ?_
  refine g_if_lt Z 17 dX7_in_3 (by decide) (fun h3 => ?_) (fun h3 => ?_)
  · refine g_iconst (v := 0) Z dX7_in_17 (by decide) ?_
    exact g_zret Z dX7_in_18 (by rfl) (by omega) (by omega) (⟨rfl, by first | exact Or.inl ⟨rfl, Int64.not_lt.mp (fun q => h3 (lc_lt.mpr q)), Int64.not_lt.mp (fun q => Int32.not_lt.mpr h10 (lc_gt.mpr q))⟩ | exact Or.inr ⟨rfl, fun q => absurd q.1 (Int64.not_le.mpr (lc_lt.mp (Int32.not_le.mp h3)))⟩ | exact Or.inr ⟨rfl, fun q => absurd q.2 (Int64.not_le.mpr (lc_gt.mp h10))⟩ | exact Or.inl ⟨rfl, Int64.not_lt.mp (fun q => h3 (lc_lt.mpr q)), Int64.not_lt.mp (fun q => h10 (lc_gt.mpr q))⟩ | exact Or.inr ⟨rfl, fun q => absurd q.1 (Int64.not_le.mpr (lc_lt.mp h3))⟩⟩)
  · refine g_lload_n Z dX7_in_6 rfl ?_
    refine g_lload Z dX7_in_7 rfl ?_
    refine g_lcmp Z dX7_in_9 ?_
    refine g_if_gt Z 17 dX7_in_10 (by decide) (fun h10 => ?_) (fun h10 => ?_)
    · refine g_iconst (v := 0) Z dX7_in_17 (by decide) ?_
      exact g_zret Z dX7_in_18 (by rfl) (by omega) (by omega) (⟨rfl, by first | exact Or.inl ⟨rfl, Int64.not_lt.mp (fun q => h3 (lc_lt.mpr q)), Int64.not_lt.mp (fun q => Int32.not_lt.mpr h10 (lc_gt.mpr q))⟩ | exact Or.inr ⟨rfl, fun q => absurd q.1 (Int64.not_le.mpr (lc_lt.mp (Int32.not_le.mp h3)))⟩ | exact Or.inr ⟨rfl, fun q => absurd q.2 (Int64.not_le.mpr (lc_gt.mp h10))⟩ | exact Or.inl ⟨rfl, Int64.not_lt.mp (fun q => h3 (lc_lt.mpr q)), Int64.not_lt.mp (fun q => h10 (lc_gt.mpr q))⟩ | exact Or.inr ⟨rfl, fun q => absurd q.1 (Int64.not_le.mpr (lc_lt.mp h3))⟩⟩)
    · refine g_iconst (v := 1) Z dX7_in_13 (by decide) ?_
      refine g_goto Z 18 dX7_in_14 (by decide) ?_
      exact g_zret Z dX7_in_18 (by rfl) (by omega) (by omega) (⟨rfl, by first | exact Or.inl ⟨rfl, Int64.not_lt.mp (fun q => h3 (lc_lt.mpr q)), Int64.not_lt.mp (fun q => Int32.not_lt.mpr h10 (lc_gt.mpr q))⟩ | exact Or.inr ⟨rfl, fun q => absurd q.1 (Int64.not_le.mpr (lc_lt.mp (Int32.not_le.mp h3)))⟩ | exact Or.inr ⟨rfl, fun q => absurd q.2 (Int64.not_le.mpr (lc_gt.mp h10))⟩ | exact Or.inl ⟨rfl, Int64.not_lt.mp (fun q => h3 (lc_lt.mpr q)), Int64.not_lt.mp (fun q => h10 (lc_gt.mpr q))⟩ | exact Or.inr ⟨rfl, fun q => absurd q.1 (Int64.not_le.mpr (lc_lt.mp h3))⟩⟩)

set_option maxRecDepth 100000 in
set_option maxHeartbeats 2000000 in
/-- static: isSet -/
theorem c_X7_isSet (l : Launch) (D : va_G) (cy : Nat → ClassId) (nw : Nat) (S : PS) (s : Int32) : kI l yX7_isSet wsX7_isSet 1 25 D cy nw [.int s] S (fun r T => S = T ∧ inR s 0 7 r) 0 0 := by
  refine enterI (cc := cX7_isSet) (nL := 1) (ret := (some .boolean)) (by decide +kernel) rfl (Nat.le_of_ble_eq_true rfl) ?_
  intro F Z hl hR hD hcy hnw hnm
  subst hl hD hcy hnw
  have hRf : F.R.frames = 1 := by rw [hR]
  have hRc : F.R.cells = 0 := by rw [hR]
  have hRs : F.R.slots = 0 := by rw [hR]
  have hRl : F.R.locals = 25 := by rw [hR]
  have ct44 : Cond.constantLong RX7 44 (7) ∈ wsX7_isSet := by decide +kernel
  refine g_iload_n Z dX7_isSet_0 rfl ?_
  refine g_i2l Z dX7_isSet_1 ?_
  refine g_lconst (v := 0) Z dX7_isSet_2 (by decide) ?_
  refine g_ldc2 (v := 7) Z dX7_isSet_3 ct44 ?_
  refine g_csI Z (c_X7_in F.l F.D F.cy F.nw _ _ _ _) 3 gX7_isSet_X7_in rfl (by decide +kernel) (by rw [hRf, hRl]; decide) rfl rfl (Nat.le_of_ble_eq_true rfl) dX7_isSet_6 (by rw [hRc, hRs]; omega) (fun r T hp => ?_)
  obtain ⟨rfl, hp⟩ := hp
  have hi := in_R (x := s) (a := 0) (b := 7) (by decide) (by decide) hp
  exact g_zret Z dX7_isSet_9 (by rcases hi with ⟨e, -⟩ | ⟨e, -⟩ <;> rw [e] <;> rfl) (by omega) (by omega) (⟨rfl, hi⟩)

set_option maxRecDepth 100000 in
set_option maxHeartbeats 2000000 in
/-- static: isLow -/
theorem c_X7_isLow (l : Launch) (D : va_G) (cy : Nat → ClassId) (nw : Nat) (S : PS) (s : Int32) : kI l yX7_isLow wsX7_isLow 1 25 D cy nw [.int s] S (fun r T => S = T ∧ inR s 0 65535 r) 0 0 := by
  refine enterI (cc := cX7_isLow) (nL := 1) (ret := (some .boolean)) (by decide +kernel) rfl (Nat.le_of_ble_eq_true rfl) ?_
  intro F Z hl hR hD hcy hnw hnm
  subst hl hD hcy hnw
  have hRf : F.R.frames = 1 := by rw [hR]
  have hRc : F.R.cells = 0 := by rw [hR]
  have hRs : F.R.slots = 0 := by rw [hR]
  have hRl : F.R.locals = 25 := by rw [hR]
  have ct50 : Cond.constantLong RX7 50 (65535) ∈ wsX7_isLow := by decide +kernel
  refine g_iload_n Z dX7_isLow_0 rfl ?_
  refine g_i2l Z dX7_isLow_1 ?_
  refine g_lconst (v := 0) Z dX7_isLow_2 (by decide) ?_
  refine g_ldc2 (v := 65535) Z dX7_isLow_3 ct50 ?_
  refine g_csI Z (c_X7_in F.l F.D F.cy F.nw _ _ _ _) 3 gX7_isLow_X7_in rfl (by decide +kernel) (by rw [hRf, hRl]; decide) rfl rfl (Nat.le_of_ble_eq_true rfl) dX7_isLow_6 (by rw [hRc, hRs]; omega) (fun r T hp => ?_)
  obtain ⟨rfl, hp⟩ := hp
  have hi := in_R (x := s) (a := 0) (b := 65535) (by decide) (by decide) hp
  exact g_zret Z dX7_isLow_9 (by rcases hi with ⟨e, -⟩ | ⟨e, -⟩ <;> rw [e] <;> rfl) (by omega) (by omega) (⟨rfl, hi⟩)

set_option maxRecDepth 100000 in
set_option maxHeartbeats 2000000 in
/-- static: how many bits a word has -/
theorem c_X7_bitsOf (l : Launch) (D : va_G) (cy : Nat → ClassId) (nw : Nat) (S : PS) (w : Int64) : kI l yX7_bitsOf wsX7_bitsOf 0 0 D cy nw [.long w] S (fun r T => S = T ∧ r = nI (pc w)) 0 0 := by
  refine enterI (cc := cX7_bitsOf) (nL := 5) (ret := (some .int)) (by decide +kernel) rfl (Nat.le_of_ble_eq_true rfl) ?_
  intro F Z hl hR hD hcy hnw hnm
  subst hl hD hcy hnw
  have hRf : F.R.frames = 0 := by rw [hR]
  have hRc : F.R.cells = 0 := by rw [hR]
  have hRs : F.R.slots = 0 := by rw [hR]
  have hRl : F.R.locals = 0 := by rw [hR]
  have loop : ∀ (n : Nat) (v : Int64) (k : Nat), pc v < n → (k + pc v = pc w) → G F 5 S 0 0 (QI F (fun r T => S = T ∧ r = nI (pc w)) 0 0) 4 [(0, .long w), (2, .int (nI k)), (3, .long v)] [] := by
    intro n
    induction n with
    | zero => intros; omega
    | succ n ih =>
      intro v k hn hk
      refine g_lload_n Z dX7_bitsOf_4 rfl ?_
      refine g_lconst (v := 0) Z dX7_bitsOf_5 (by decide) ?_
      refine g_lcmp Z dX7_bitsOf_6 ?_
      refine g_if_eq Z 22 dX7_bitsOf_7 (by decide) (fun h7 => ?_) (fun h7 => ?_)
      · have e : v = 0 := lc_eq.mp h7
        subst e
        rw [pc_0] at hk
        refine g_iload_n Z dX7_bitsOf_22 rfl ?_
        exact g_iret Z dX7_bitsOf_23 (by omega) (by omega) (⟨rfl, by rw [← hk]; rfl⟩)
      · have e : ¬ v = 0 := fun q => h7 (lc_eq.mpr q)
        have hs := pc_step e
        refine g_lload_n Z dX7_bitsOf_10 rfl ?_
        refine g_lload_n Z dX7_bitsOf_11 rfl ?_
        refine g_lconst (v := 1) Z dX7_bitsOf_12 (by decide) ?_
        refine g_lsub Z dX7_bitsOf_13 ?_
        refine g_land Z dX7_bitsOf_14 ?_
        refine g_lstore_n Z dX7_bitsOf_15 (by decide) ?_
        refine g_iinc (c := 1) Z dX7_bitsOf_16 rfl (by decide) (by decide) ?_
        rw [nI_1]
        refine g_goto Z 4 dX7_bitsOf_19 (by decide) ?_
        exact g_lv (by (repeat (first | exact trivial | refine And.intro rfl ?_)); done) (ih _ (k + 1) (by omega) (by omega))
  refine g_iconst (v := 0) Z dX7_bitsOf_0 (by decide) ?_
  refine g_istore_n Z dX7_bitsOf_1 (by decide) ?_
  refine g_lload_n Z dX7_bitsOf_2 rfl ?_
  refine g_lstore_n Z dX7_bitsOf_3 (by decide) ?_
  exact g_lv (by (repeat (first | exact trivial | refine And.intro rfl ?_)); done) (loop 65 w 0 (by have := pc_le w; omega) (by omega))

theorem has_b (f : Nat → Int64) (c l : Nat) : ((f (1024 * c + l / 64)).toUInt64 >>> ((nI (l % 64)).toInt64.toUInt64 &&& Int64.toUInt64 63)).toInt64 &&& 1 = lN (cb f c l) := by
  have h := wb_bit (wv_lt (f (1024 * c + l / 64))) (k := l % 64) (Nat.mod_lt _ (by decide))
  rw [lN_wv] at h
  exact h
theorem has_1 {f : Nat → Int64} {c l : Nat} (h : lg_cmp (lN (cb f c l)) 1 = 0) : (1 : Int32) = nI (cb f c l) := by
  have e := (pk_lEQ (a := cb f c l) (b := 1) (by have := cb_le f c l; omega) (by decide)).mp (lc_eq.mp h)
  rw [e]; rfl
theorem has_0 {f : Nat → Int64} {c l : Nat} (h : ¬ lg_cmp (lN (cb f c l)) 1 = 0) : (0 : Int32) = nI (cb f c l) := by
  have h1 := cb_le f c l
  have e : cb f c l = 0 := by
    rcases (show cb f c l = 0 ∨ cb f c l = 1 by omega) with e | e
    · exact e
    · exact absurd (lc_eq.mpr (by rw [e]; rfl)) h
  rw [e]; rfl

set_option maxRecDepth 100000 in
set_option maxHeartbeats 2000000 in
/-- whether a container has a low -/
theorem c_X7_hasLow (l : Launch) (D : va_G) (cy : Nat → ClassId) (nw : Nat) (A : Nat → Nat) (x : Nat) (ho : mOk A x) (C : C5) (R : MR) (c b : Nat) (hc : c < 102) (hb : b < 65536) : kI l yX7_hasLow wsX7_hasLow 0 0 D cy nw [.ref x, .int (nI c), .int (nI b)] (mP A x (C, R)) (fun r T => (mP A x (C, R)) = T ∧ r = nI (cb C.wd c b)) 0 0 := by
  refine enterI (cc := cX7_hasLow) (nL := 3) (ret := (some .boolean)) (by decide +kernel) rfl (Nat.le_of_ble_eq_true rfl) ?_
  intro F Z hl hR hD hcy hnw hnm
  subst hl hD hcy hnw
  have hRf : F.R.frames = 0 := by rw [hR]
  have hRc : F.R.cells = 0 := by rw [hR]
  have hRs : F.R.slots = 0 := by rw [hR]
  have hRl : F.R.locals = 0 := by rw [hR]
  have in6 : ∀ w ∈ u_ws RX7 TX7 16, w ∈ wsX7_hasLow := by decide +kernel
  have lk23 : Cond.fieldLink RX7 23 (TX7 4).1 (TX7 4).2.1 (TX7 4).2.2.1 ∈ wsX7_hasLow := by decide +kernel
  refine g_aload_n Z dX7_hasLow_0 rfl ?_
  refine m_ref_wd Z in6 lk23 dX7_hasLow_1 ?_
  refine g_sipush (v := 1024) Z dX7_hasLow_4 (by decide) ?_
  refine g_iload_n Z dX7_hasLow_7 rfl ?_
  refine g_imul Z dX7_hasLow_8 ?_
  refine g_iload_n Z dX7_hasLow_9 rfl ?_
  refine g_bipush (v := 64) Z dX7_hasLow_10 (by decide) ?_
  refine g_idiv Z dX7_hasLow_12 (by decide) ?_
  refine g_iadd Z dX7_hasLow_13 ?_
  rw [d64 (by omega), ixw]
  refine m_ald_wd Z ho dX7_hasLow_14 (by exact vp_in_nI (by omega) (by decide)) ?_
  rw [nI_clamp (by omega)]
  refine g_iload_n Z dX7_hasLow_15 rfl ?_
  refine g_bipush (v := 64) Z dX7_hasLow_16 (by decide) ?_
  refine g_irem Z dX7_hasLow_18 (by decide) ?_
  rw [r64 (by omega)]
  refine g_lushr Z dX7_hasLow_19 ?_
  refine g_lconst (v := 1) Z dX7_hasLow_20 (by decide) ?_
  refine g_land Z dX7_hasLow_21 ?_
  rw [has_b C.wd c b]
  refine g_lconst (v := 1) Z dX7_hasLow_22 (by decide) ?_
  refine g_lcmp Z dX7_hasLow_23 ?_
  refine g_if_ne Z 31 dX7_hasLow_24 (by decide) (fun h24 => ?_) (fun h24 => ?_)
  · refine g_iconst (v := 0) Z dX7_hasLow_31 (by decide) ?_
    exact g_zret Z dX7_hasLow_32 (by rfl) (by omega) (by omega) (⟨rfl, by first | exact has_1 h24 | exact has_0 h24⟩)
  · refine g_iconst (v := 1) Z dX7_hasLow_27 (by decide) ?_
    refine g_goto Z 32 dX7_hasLow_28 (by decide) ?_
    exact g_zret Z dX7_hasLow_32 (by rfl) (by omega) (by omega) (⟨rfl, by first | exact has_1 h24 | exact has_0 h24⟩)

set_option maxRecDepth 100000 in
set_option maxHeartbeats 2000000 in
/-- a low is turned -/
theorem c_X7_turn (l : Launch) (D : va_G) (cy : Nat → ClassId) (nw : Nat) (A : Nat → Nat) (x : Nat) (ho : mOk A x) (C : C5) (R : MR) (c b : Nat) (hc : c < 102) (hb : b < 65536) : kV l yX7_turn wsX7_turn 0 0 D cy nw [.ref x, .int (nI c), .int (nI b)] (mP A x (C, R)) (fun T => ∃ g, mP A x (C.s_wd g, R) = T ∧ Tn C.wd g c b) 0 0 := by
  refine enterV (cc := cX7_turn) (nL := 3) (ret := none) (by decide +kernel) rfl (Nat.le_of_ble_eq_true rfl) ?_
  intro F Z hl hR hD hcy hnw hnm
  subst hl hD hcy hnw
  have hRf : F.R.frames = 0 := by rw [hR]
  have hRc : F.R.cells = 0 := by rw [hR]
  have hRs : F.R.slots = 0 := by rw [hR]
  have hRl : F.R.locals = 0 := by rw [hR]
  have in6 : ∀ w ∈ u_ws RX7 TX7 16, w ∈ wsX7_turn := by decide +kernel
  have lk23 : Cond.fieldLink RX7 23 (TX7 4).1 (TX7 4).2.1 (TX7 4).2.2.1 ∈ wsX7_turn := by decide +kernel
  refine g_aload_n Z dX7_turn_0 rfl ?_
  refine m_ref_wd Z in6 lk23 dX7_turn_1 ?_
  refine g_sipush (v := 1024) Z dX7_turn_4 (by decide) ?_
  refine g_iload_n Z dX7_turn_7 rfl ?_
  refine g_imul Z dX7_turn_8 ?_
  refine g_iload_n Z dX7_turn_9 rfl ?_
  refine g_bipush (v := 64) Z dX7_turn_10 (by decide) ?_
  refine g_idiv Z dX7_turn_12 (by decide) ?_
  refine g_iadd Z dX7_turn_13 ?_
  rw [d64 (by omega), ixw]
  refine g_aload_n Z dX7_turn_14 rfl ?_
  refine m_ref_wd Z in6 lk23 dX7_turn_15 ?_
  refine g_sipush (v := 1024) Z dX7_turn_18 (by decide) ?_
  refine g_iload_n Z dX7_turn_21 rfl ?_
  refine g_imul Z dX7_turn_22 ?_
  refine g_iload_n Z dX7_turn_23 rfl ?_
  refine g_bipush (v := 64) Z dX7_turn_24 (by decide) ?_
  refine g_idiv Z dX7_turn_26 (by decide) ?_
  refine g_iadd Z dX7_turn_27 ?_
  rw [d64 (by omega), ixw]
  refine m_ald_wd Z ho dX7_turn_28 (by exact vp_in_nI (by omega) (by decide)) ?_
  rw [nI_clamp (by omega)]
  refine g_lconst (v := 1) Z dX7_turn_29 (by decide) ?_
  refine g_iload_n Z dX7_turn_30 rfl ?_
  refine g_bipush (v := 64) Z dX7_turn_31 (by decide) ?_
  refine g_irem Z dX7_turn_33 (by decide) ?_
  rw [r64 (by omega)]
  refine g_lshl Z dX7_turn_34 ?_
  refine g_lxor Z dX7_turn_35 ?_
  refine m_ast_wd Z ho dX7_turn_36 (by exact vp_in_nI (by omega) (by decide)) ?_
  rw [nI_clamp (by omega)]
  exact g_vret Z dX7_turn_37 (by omega) (by omega) (⟨_, rfl, tn_of C.wd c hb⟩)

theorem one_of {a : Nat} (h : a ≤ 1) (h0 : ¬ a = 0) : a = 1 := by omega
theorem neg_i {v : Int64} (h : ¬ 0 ≤ lg_cmp v 0) : wv v / 2 ^ 63 = 1 := (wv_neg v).mp (lc_lt.mp (Int32.not_le.mp h))
theorem neg_n {v : Int64} (h : 0 ≤ lg_cmp v 0) : wv v / 2 ^ 63 = 0 := by
  have h1 : ¬ v < 0 := fun q => absurd (lc_lt.mpr q) (Int32.not_lt.mpr h)
  have h2 : ¬ wv v / 2 ^ 63 = 1 := fun q => h1 ((wv_neg v).mpr q)
  have := wv_lt v
  omega
theorem low_1 {v : Int64} (h : lg_cmp (v &&& 1) 1 = 0) : wv v % 2 = 1 := by
  have e := lc_eq.mp h
  have h2 := wb_a1 (wv_lt v)
  rw [lN_wv] at h2
  rw [h2] at e
  exact (pk_lEQ (a := wv v % 2) (b := 1) (by omega) (by decide)).mp e
theorem low_0 {v : Int64} (h : ¬ lg_cmp (v &&& 1) 1 = 0) : wv v % 2 = 0 := by
  have h2 := wb_a1 (wv_lt v)
  rw [lN_wv] at h2
  rcases Nat.mod_two_eq_zero_or_one (wv v) with e | e
  · exact e
  · exact absurd (lc_eq.mpr (by rw [h2, e]; rfl)) h

set_option maxRecDepth 100000 in
set_option maxHeartbeats 2000000 in
/-- how many runs a container has -/
theorem c_X7_runsOf (l : Launch) (D : va_G) (cy : Nat → ClassId) (nw : Nat) (A : Nat → Nat) (x : Nat) (ho : mOk A x) (C : C5) (R : MR) (c : Nat) (hc : c < 102) : kI l yX7_runsOf wsX7_runsOf 1 24 D cy nw [.ref x, .int (nI c)] (mP A x (C, R)) (fun r T => (mP A x (C, R)) = T ∧ r = nI (rn C.wd c 65536)) 0 0 := by
  refine enterI (cc := cX7_runsOf) (nL := 7) (ret := (some .int)) (by decide +kernel) rfl (Nat.le_of_ble_eq_true rfl) ?_
  intro F Z hl hR hD hcy hnw hnm
  subst hl hD hcy hnw
  have hRf : F.R.frames = 1 := by rw [hR]
  have hRc : F.R.cells = 0 := by rw [hR]
  have hRs : F.R.slots = 0 := by rw [hR]
  have hRl : F.R.locals = 24 := by rw [hR]
  have in6 : ∀ w ∈ u_ws RX7 TX7 16, w ∈ wsX7_runsOf := by decide +kernel
  have lk23 : Cond.fieldLink RX7 23 (TX7 4).1 (TX7 4).2.1 (TX7 4).2.2.1 ∈ wsX7_runsOf := by decide +kernel
  have ct52 : Cond.constantLong RX7 52 (-1) ∈ wsX7_runsOf := by decide +kernel
  have loop : ∀ (n : Nat) (w : Nat), 1024 - w < n → w ≤ 1024 → G F 7 (mP A x (C, R)) 0 0 (QI F (fun r T => (mP A x (C, R)) = T ∧ r = nI (rn C.wd c 65536)) 0 0) 7 [(0, .ref x), (1, .int (nI c)), (2, .int (nI (rn C.wd c (64 * w)))), (3, .int (nI (pv C.wd c (64 * w)))), (4, .int (nI w))] [] := by
    intro n
    induction n with
    | zero => intros; omega
    | succ n ih =>
      intro w hn hw
      have hpv := pv_le C.wd c (64 * w)
      have tail : ∀ (v : Int64) (y : Int32), w < 1024 → C.wd (1024 * c + w) = v → y = nI (rn C.wd c (64 * (w + 1))) → G F 7 (mP A x (C, R)) 0 0 (QI F (fun r T => (mP A x (C, R)) = T ∧ r = nI (rn C.wd c 65536)) 0 0) 63 [(0, .ref x), (1, .int (nI c)), (2, .int y), (4, .int (nI w)), (5, .long v)] [] := by
        intro v y hlt hv hy
        subst hy
        have hp := pv_next C.wd c w
        rw [hv] at hp
        refine g_lload Z dX7_runsOf_63 rfl ?_
        refine g_lconst (v := 0) Z dX7_runsOf_65 (by decide) ?_
        refine g_lcmp Z dX7_runsOf_66 ?_
        refine g_if_ge Z 74 dX7_runsOf_67 (by decide) (fun h67 => ?_) (fun h67 => ?_)
        · have hq := hp.trans (neg_n h67)
          have hih := ih (w + 1) (by omega) (by omega)
          rw [hq] at hih
          refine g_iconst (v := 0) Z dX7_runsOf_74 (by decide) ?_
          refine g_istore_n Z dX7_runsOf_75 (by decide) ?_
          refine g_iinc (c := 1) Z dX7_runsOf_76 rfl (by decide) (by decide) ?_
          rw [nI_1]
          refine g_goto Z 7 dX7_runsOf_79 (by decide) ?_
          exact g_lv (by (repeat (first | exact trivial | refine And.intro rfl ?_)); done) hih
        · have hq := hp.trans (neg_i h67)
          have hih := ih (w + 1) (by omega) (by omega)
          rw [hq] at hih
          refine g_iconst (v := 1) Z dX7_runsOf_70 (by decide) ?_
          refine g_goto Z 75 dX7_runsOf_71 (by decide) ?_
          refine g_istore_n Z dX7_runsOf_75 (by decide) ?_
          refine g_iinc (c := 1) Z dX7_runsOf_76 rfl (by decide) (by decide) ?_
          rw [nI_1]
          refine g_goto Z 7 dX7_runsOf_79 (by decide) ?_
          exact g_lv (by (repeat (first | exact trivial | refine And.intro rfl ?_)); done) hih
      refine g_iload Z dX7_runsOf_7 rfl ?_
      refine g_sipush (v := 1024) Z dX7_runsOf_9 (by decide) ?_
      refine g_icmp_ge Z 82 dX7_runsOf_12 (by decide) (fun h12 => ?_) (fun h12 => ?_)
      · have he : w = 1024 := by have := ge_t (N := 1024) (by omega) (by decide) h12; omega
        subst he
        refine g_iload_n Z dX7_runsOf_82 rfl ?_
        exact g_iret Z dX7_runsOf_83 (by omega) (by omega) (⟨rfl, rfl⟩)
      · have hlt : w < 1024 := ge_f (by omega) (by decide) h12
        have hrx := rn_next C.wd c w
        refine g_aload_n Z dX7_runsOf_15 rfl ?_
        refine m_ref_wd Z in6 lk23 dX7_runsOf_16 ?_
        refine g_sipush (v := 1024) Z dX7_runsOf_19 (by decide) ?_
        refine g_iload_n Z dX7_runsOf_22 rfl ?_
        refine g_imul Z dX7_runsOf_23 ?_
        refine g_iload Z dX7_runsOf_24 rfl ?_
        refine g_iadd Z dX7_runsOf_26 ?_
        rw [ixw]
        refine m_ald_wd Z ho dX7_runsOf_27 (by exact vp_in_nI (by omega) (by decide)) ?_
        rw [nI_clamp (by omega)]
        refine g_lstore Z dX7_runsOf_28 (by decide) ?_
        refine g_iload_n Z dX7_runsOf_30 rfl ?_
        refine g_lload Z dX7_runsOf_31 rfl ?_
        refine g_lload Z dX7_runsOf_33 rfl ?_
        refine g_iconst (v := 1) Z dX7_runsOf_35 (by decide) ?_
        refine g_lshl Z dX7_runsOf_36 ?_
        refine g_ldc2 (v := -1) Z dX7_runsOf_37 ct52 ?_
        refine g_lxor Z dX7_runsOf_40 ?_
        refine g_land Z dX7_runsOf_41 ?_
        refine g_csI Z (c_X7_bitsOf F.l F.D F.cy F.nw _ _) 1 gX7_runsOf_X7_bitsOf rfl (by decide +kernel) (by rw [hRf, hRl]; decide) rfl rfl (Nat.le_of_ble_eq_true rfl) dX7_runsOf_42 (by rw [hRc, hRs]; omega) (fun r T hp => ?_)
        obtain ⟨rfl, rfl⟩ := hp
        refine g_iadd Z dX7_runsOf_45 ?_
        rw [nI_add]
        refine g_istore_n Z dX7_runsOf_46 (by decide) ?_
        refine g_iload_n Z dX7_runsOf_47 rfl ?_
        refine g_if_eq Z 63 dX7_runsOf_48 (by decide) (fun h48 => ?_) (fun h48 => ?_)
        · have e0 : pv C.wd c (64 * w) = 0 := (nI_eq (by omega) (by decide)).mp h48
          exact g_lv (by (repeat (first | exact trivial | refine And.intro rfl ?_)); done) (tail _ _ hlt rfl (by first | (rw [e0] at hrx; simp only [Nat.zero_mul, Nat.add_zero] at hrx; rw [hrx]; rfl) | (rw [e1] at hrx; simp only [Nat.mul_zero, Nat.add_zero] at hrx; rw [hrx]; rfl) | (rw [e0, e1] at hrx; simp only [Nat.one_mul] at hrx; exact (congrArg (fun q => nI q + (-1)) hrx.symm).trans (pk_m1 _))))
        · have e0 : pv C.wd c (64 * w) = 1 := one_of hpv (fun q => h48 (by rw [q]; rfl))
          refine g_lload Z dX7_runsOf_51 rfl ?_
          refine g_lconst (v := 1) Z dX7_runsOf_53 (by decide) ?_
          refine g_land Z dX7_runsOf_54 ?_
          refine g_lconst (v := 1) Z dX7_runsOf_55 (by decide) ?_
          refine g_lcmp Z dX7_runsOf_56 ?_
          refine g_if_ne Z 63 dX7_runsOf_57 (by decide) (fun h57 => ?_) (fun h57 => ?_)
          · have e1 := low_0 h57
            exact g_lv (by (repeat (first | exact trivial | refine And.intro rfl ?_)); done) (tail _ _ hlt rfl (by first | (rw [e0] at hrx; simp only [Nat.zero_mul, Nat.add_zero] at hrx; rw [hrx]; rfl) | (rw [e1] at hrx; simp only [Nat.mul_zero, Nat.add_zero] at hrx; rw [hrx]; rfl) | (rw [e0, e1] at hrx; simp only [Nat.one_mul] at hrx; exact (congrArg (fun q => nI q + (-1)) hrx.symm).trans (pk_m1 _))))
          · have e1 := low_1 h57
            refine g_iinc (c := (-1)) Z dX7_runsOf_60 rfl (by decide) (by decide) ?_
            exact g_lv (by (repeat (first | exact trivial | refine And.intro rfl ?_)); done) (tail _ _ hlt rfl (by first | (rw [e0] at hrx; simp only [Nat.zero_mul, Nat.add_zero] at hrx; rw [hrx]; rfl) | (rw [e1] at hrx; simp only [Nat.mul_zero, Nat.add_zero] at hrx; rw [hrx]; rfl) | (rw [e0, e1] at hrx; simp only [Nat.one_mul] at hrx; exact (congrArg (fun q => nI q + (-1)) hrx.symm).trans (pk_m1 _))))
  refine g_iconst (v := 0) Z dX7_runsOf_0 (by decide) ?_
  refine g_istore_n Z dX7_runsOf_1 (by decide) ?_
  refine g_iconst (v := 0) Z dX7_runsOf_2 (by decide) ?_
  refine g_istore_n Z dX7_runsOf_3 (by decide) ?_
  refine g_iconst (v := 0) Z dX7_runsOf_4 (by decide) ?_
  refine g_istore Z dX7_runsOf_5 (by decide) ?_
  exact g_lv (by (repeat (first | exact trivial | refine And.intro rfl ?_)); done) (loop 1025 0 (by omega) (by omega))
