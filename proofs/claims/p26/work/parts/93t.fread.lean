/-! READING: the reader's first three numbers, written out -/
abbrev Q3 (S : PS) (rd : Nat) (x y p : Int32) : PS := (S.L, S.K, va_up S.fi rd (c3 (S.fi rd) x y p), S.fr, S.ln, S.ri, S.rj, S.rr)
theorem Q3_id (S : PS) (rd : Nat) : S = Q3 S rd (S.fi rd 0) (S.fi rd 1) (S.fi rd 2) := by
  show S = (S.L, S.K, va_up S.fi rd (c3 (S.fi rd) (S.fi rd 0) (S.fi rd 1) (S.fi rd 2)), S.fr, S.ln, S.ri, S.rj, S.rr)
  rw [c3_id, va_up_get]
theorem up_comm {α : Type} (f : Nat → α) {a b : Nat} (h : a ≠ b) (x y : α) : va_up (va_up f a x) b y = va_up (va_up f b y) a x := by
  funext i
  unfold va_up
  by_cases e : i = b
  · rw [if_pos e, if_neg (fun q => h (q.symm.trans e)), if_pos e]
  · rw [if_neg e]
    by_cases e2 : i = a
    · rw [if_pos e2, if_pos e2]
    · rw [if_neg e2, if_neg e2, if_neg e]
/-- reader and container, written out -/
abbrev RX (S : PS) (rd c w : Nat) (x y p k d v : Int32) (R : Nat → Int64) : PS := CS (Q3 S rd x y p) c w k d v R
theorem RX_fi {S : PS} {rd c w : Nat} {x y p k d v : Int32} {R : Nat → Int64} (h : rd ≠ c) : (RX S rd c w x y p k d v R).fi = va_up (va_up S.fi rd (c3 (S.fi rd) x y p)) c (c3 (S.fi c) k d v) := by
  show va_up (va_up S.fi rd (c3 (S.fi rd) x y p)) c (c3 (va_up S.fi rd (c3 (S.fi rd) x y p) c) k d v) = _
  rw [va_up_ne _ _ (Ne.symm h)]
theorem RX_rd {S : PS} {rd c w : Nat} {x y p k d v : Int32} {R : Nat → Int64} (h : rd ≠ c) : (RX S rd c w x y p k d v R).fi rd = c3 (S.fi rd) x y p := by
  rw [RX_fi h, va_up_ne _ _ h, va_up_self]
theorem RX_c {S : PS} {rd c w : Nat} {x y p k d v : Int32} {R : Nat → Int64} (h : rd ≠ c) : (RX S rd c w x y p k d v R).fi c = c3 (S.fi c) k d v := by
  rw [RX_fi h, va_up_self]
theorem RX_set {S : PS} {rd c w : Nat} {x y p k d v : Int32} {R : Nat → Int64} (h : rd ≠ c) {i : Nat} {z : Int32} : (RX S rd c w x y p k d v R).setI rd i z = (S.L, S.K, va_up (va_up S.fi rd (va_up (c3 (S.fi rd) x y p) i z)) c (c3 (S.fi c) k d v), S.fr, S.ln, S.ri, va_up S.rj w R, S.rr) := by
  show (_, _, va_up (RX S rd c w x y p k d v R).fi rd (va_up ((RX S rd c w x y p k d v R).fi rd) i z), _, _, _, _, _) = _
  rw [RX_rd h, RX_fi h, up_comm _ (Ne.symm h), bx_uu]
theorem RX_eq {S : PS} {rd c w : Nat} {x y p k d v : Int32} {R : Nat → Int64} (h : rd ≠ c) : RX S rd c w x y p k d v R = (S.L, S.K, va_up (va_up S.fi rd (c3 (S.fi rd) x y p)) c (c3 (S.fi c) k d v), S.fr, S.ln, S.ri, va_up S.rj w R, S.rr) := by
  show (_, _, (RX S rd c w x y p k d v R).fi, _, _, _, _, _) = _
  rw [RX_fi h]
theorem RX_0 {S : PS} {rd c w : Nat} {x y p k d v z : Int32} {R : Nat → Int64} (h : rd ≠ c) : (RX S rd c w x y p k d v R).setI rd 0 z = RX S rd c w z y p k d v R := by rw [RX_set h, RX_eq h, c3_0]
theorem RX_1 {S : PS} {rd c w : Nat} {x y p k d v z : Int32} {R : Nat → Int64} (h : rd ≠ c) : (RX S rd c w x y p k d v R).setI rd 1 z = RX S rd c w x z p k d v R := by rw [RX_set h, RX_eq h, c3_1]
theorem RX_2 {S : PS} {rd c w : Nat} {x y p k d v z : Int32} {R : Nat → Int64} (h : rd ≠ c) : (RX S rd c w x y p k d v R).setI rd 2 z = RX S rd c w x y z k d v R := by rw [RX_set h, RX_eq h, c3_2]
theorem RX_by {S : PS} {rd c w : Nat} {x y p k d v : Int32} {R : Nat → Int64} {br h n u : Nat} {B : Nat → Nat} (hr : br ≠ rd) (hc : br ≠ c) (hb : ByV S br h n u B) : ByV (RX S rd c w x y p k d v R) br h n u B := by
  obtain ⟨⟨k1, k2, k3, k4, k5, k6, k7, k8, k9, k10⟩, hB⟩ := hb
  refine ⟨⟨k1, k2, k3, k4, k5, k6, k7, ?_, k9, k10⟩, hB⟩
  have e : (RX S rd c w x y p k d v R).fi br = S.fi br := by
    show va_up (va_up S.fi rd (c3 (S.fi rd) x y p)) c _ br = _
    rw [va_up_ne _ _ hc, va_up_ne _ _ hr]
  rw [e]
  exact k8

set_option maxRecDepth 100000 in
set_option maxHeartbeats 2000000 in
/-- a fault is told: never true -/
theorem f_X4_tellFault (l : Launch) (D : va_G) (cy : Nat → ClassId) (nw : Nat) (S : PS) (rd : Nat) (hrL : rd ∈ S.L) (hrK : S.K rd = 4) (x y : Int32) : kI l yX4_tellFault wsX4_tellFault 0 0 D cy nw [.ref rd, .int x, .int y] S (fun r T => r = 0 ∧ T = (S.setI rd 0 x).setI rd 1 y) 0 0 := by
  refine enterI (cc := cX4_tellFault) (nL := 3) (ret := (some .boolean)) (by decide +kernel) rfl (Nat.le_of_ble_eq_true rfl) ?_
  intro F Z hl hR hD hcy hnw hnm
  subst hl hD hcy hnw
  have hRf : F.R.frames = 0 := by rw [hR]
  have hRc : F.R.cells = 0 := by rw [hR]
  have hRs : F.R.slots = 0 := by rw [hR]
  have hRl : F.R.locals = 0 := by rw [hR]
  have in4 : ∀ w ∈ u_ws RX4 TX4 10, w ∈ wsX4_tellFault := by decide +kernel
  have lk18 : Cond.fieldLink RX4 18 (TX4 0).1 (TX4 0).2.1 (TX4 0).2.2.1 ∈ wsX4_tellFault := by decide +kernel
  have lk22 : Cond.fieldLink RX4 22 (TX4 1).1 (TX4 1).2.1 (TX4 1).2.2.1 ∈ wsX4_tellFault := by decide +kernel
  refine g_aload_n Z dX4_tellFault_0 rfl ?_
  refine g_iload_n Z dX4_tellFault_1 rfl ?_
  refine g_puti Z 4 0 rfl (by decide) tyX4 tyX4_ok nmX4 rfl in4 lk18 dX4_tellFault_2 rfl rfl (by assumption) (by assumption) ?_
  refine g_aload_n Z dX4_tellFault_5 rfl ?_
  refine g_iload_n Z dX4_tellFault_6 rfl ?_
  refine g_puti Z 4 1 rfl (by decide) tyX4 tyX4_ok nmX4 rfl in4 lk22 dX4_tellFault_7 rfl rfl (by assumption) (by assumption) ?_
  refine g_iconst (v := 0) Z dX4_tellFault_10 (by decide) ?_
  exact g_zret Z dX4_tellFault_11 (by rfl) (by omega) (by omega) (⟨rfl, rfl⟩)

set_option maxRecDepth 100000 in
set_option maxHeartbeats 2000000 in
/-- whether so many bytes are there -/
theorem f_X4_isThere (l : Launch) (D : va_G) (cy : Nat → ClassId) (nw : Nat) (S : PS) (rd p e : Nat) (hrL : rd ∈ S.L) (hrK : S.K rd = 4) (hrp : S.fi rd 2 = nI p) (hre : S.fi rd 3 = nI e) (hpe : p ≤ e) (he6 : e ≤ 60000) (k : Nat) (hk : k < 2 ^ 31) : kI l yX4_isThere wsX4_isThere 1 22 D cy nw [.ref rd, .int (nI k)] S (fun r T => (p + k ≤ e ∧ r = 1 ∧ T = S) ∨ (¬ p + k ≤ e ∧ r = 0 ∧ T = (S.setI rd 0 1).setI rd 1 (nI e))) 0 0 := by
  refine enterI (cc := cX4_isThere) (nL := 2) (ret := (some .boolean)) (by decide +kernel) rfl (Nat.le_of_ble_eq_true rfl) ?_
  intro F Z hl hR hD hcy hnw hnm
  subst hl hD hcy hnw
  have hRf : F.R.frames = 1 := by rw [hR]
  have hRc : F.R.cells = 0 := by rw [hR]
  have hRs : F.R.slots = 0 := by rw [hR]
  have hRl : F.R.locals = 22 := by rw [hR]
  have in4 : ∀ w ∈ u_ws RX4 TX4 10, w ∈ wsX4_isThere := by decide +kernel
  have lk25 : Cond.fieldLink RX4 25 (TX4 2).1 (TX4 2).2.1 (TX4 2).2.2.1 ∈ wsX4_isThere := by decide +kernel
  have lk33 : Cond.fieldLink RX4 33 (TX4 3).1 (TX4 3).2.1 (TX4 3).2.2.1 ∈ wsX4_isThere := by decide +kernel
  refine g_aload_n Z dX4_isThere_0 rfl ?_
  refine g_geti Z 4 3 rfl (by decide) in4 lk33 dX4_isThere_1 (by assumption) (by assumption) ?_
  rw [hre]
  refine g_aload_n Z dX4_isThere_4 rfl ?_
  refine g_geti Z 4 2 rfl (by decide) in4 lk25 dX4_isThere_5 (by assumption) (by assumption) ?_
  rw [hrp]
  refine g_isub Z dX4_isThere_8 ?_
  rw [pk_sub hpe]
  refine g_iload_n Z dX4_isThere_9 rfl ?_
  refine g_icmp_ge Z 25 dX4_isThere_10 (by decide) (fun h10 => ?_) (fun h10 => ?_)
  · have hge : k ≤ e - p := ge_t (by omega) (by omega) h10
    refine g_iconst (v := 1) Z dX4_isThere_25 (by decide) ?_
    refine g_goto Z 30 dX4_isThere_26 (by decide) ?_
    exact g_zret Z dX4_isThere_30 (by rfl) (by omega) (by omega) (by first | exact Or.inl ⟨by omega, rfl, rfl⟩ | exact Or.inr ⟨by omega, rfl, rfl⟩)
  · have hge : e - p < k := ge_f (by omega) (by omega) h10
    refine g_aload_n Z dX4_isThere_13 rfl ?_
    refine g_iconst (v := 1) Z dX4_isThere_14 (by decide) ?_
    refine g_aload_n Z dX4_isThere_15 rfl ?_
    refine g_geti Z 4 3 rfl (by decide) in4 lk33 dX4_isThere_16 (by assumption) (by assumption) ?_
    rw [hre]
    refine g_cvI Z (f_X4_tellFault F.l F.D F.cy F.nw S rd hrL hrK _ _) 2 gX4_isThere_X4_tellFault rfl (by decide +kernel) (by rw [hRf, hRl]; decide) (by assumption) (κ := 4) (by assumption) rfl (by decide) rfl rfl (Nat.le_of_ble_eq_true rfl) dX4_isThere_19 (by rw [hRc, hRs]; omega) (fun r U hp => ?_)
    obtain ⟨rfl, rfl⟩ := hp
    refine g_if_eq Z 29 dX4_isThere_22 (by decide) (fun h22 => ?_) (fun h22 => absurd (rfl) h22)
    refine g_iconst (v := 0) Z dX4_isThere_29 (by decide) ?_
    exact g_zret Z dX4_isThere_30 (by rfl) (by omega) (by omega) (by first | exact Or.inl ⟨by omega, rfl, rfl⟩ | exact Or.inr ⟨by omega, rfl, rfl⟩)

set_option maxRecDepth 100000 in
set_option maxHeartbeats 2000000 in
/-- a number is taken -/
theorem f_X4_take (l : Launch) (D : va_G) (cy : Nat → ClassId) (nw : Nat) (S : PS) (rd p : Nat) (hrL : rd ∈ S.L) (hrK : S.K rd = 4) (hrp : S.fi rd 2 = nI p) (br h n u : Nat) (B : Nat → Nat) (hb : ByV S br h n u B) (k : Nat) (hk : k ≤ 8) (hpu : p + k ≤ u) : kL l yX4_take wsX4_take 2 46 D cy nw [.ref rd, .ref br, .int (nI k)] S (fun r T => r = lN (nuB B p k) ∧ T = S.setI rd 2 (nI (p + k))) 0 0 := by
  refine enterL (cc := cX4_take) (nL := 5) (ret := (some .long)) (by decide +kernel) rfl (Nat.le_of_ble_eq_true rfl) ?_
  intro F Z hl hR hD hcy hnw hnm
  subst hl hD hcy hnw
  have hRf : F.R.frames = 2 := by rw [hR]
  have hRc : F.R.cells = 0 := by rw [hR]
  have hRs : F.R.slots = 0 := by rw [hR]
  have hRl : F.R.locals = 46 := by rw [hR]
  have in4 : ∀ w ∈ u_ws RX4 TX4 10, w ∈ wsX4_take := by decide +kernel
  have lk25 : Cond.fieldLink RX4 25 (TX4 2).1 (TX4 2).2.1 (TX4 2).2.2.1 ∈ wsX4_take := by decide +kernel
  refine g_aload_n Z dX4_take_0 rfl ?_
  refine g_aload_n Z dX4_take_1 rfl ?_
  refine g_geti Z 4 2 rfl (by decide) in4 lk25 dX4_take_2 (by assumption) (by assumption) ?_
  rw [hrp]
  refine g_iload_n Z dX4_take_5 rfl ?_
  refine g_cvL Z (f_X0_numberAt F.l F.D F.cy F.nw S br h n u B hb p k hk hpu) 2 gX4_take_X0_numberAt rfl (by decide +kernel) (by rw [hRf, hRl]; decide) (by exact hb.1.1) (κ := 0) (by exact hb.1.2.1) rfl (by decide) rfl rfl (Nat.le_of_ble_eq_true rfl) dX4_take_6 (by rw [hRc, hRs]; omega) (fun r U hp => ?_)
  obtain ⟨rfl, rfl⟩ := hp
  refine g_lstore_n Z dX4_take_9 (by decide) ?_
  refine g_aload_n Z dX4_take_10 rfl ?_
  refine g_dup Z dX4_take_11 rfl ?_
  refine g_geti Z 4 2 rfl (by decide) in4 lk25 dX4_take_12 (by assumption) (by assumption) ?_
  rw [hrp]
  refine g_iload_n Z dX4_take_15 rfl ?_
  refine g_iadd Z dX4_take_16 ?_
  rw [nI_add]
  refine g_puti Z 4 2 rfl (by decide) tyX4 tyX4_ok nmX4 rfl in4 lk25 dX4_take_17 rfl rfl (by assumption) (by assumption) ?_
  refine g_lload_n Z dX4_take_20 rfl ?_
  exact g_lret Z dX4_take_21 (by omega) (by omega) (⟨rfl, rfl⟩)

/-! WHAT IS READ: a fault and its place, or how far and which words -/
abbrev Rw : Type := (Nat × Nat) ⊕ (Nat × (Nat → Int64))
def rdAr (B : Nat → Nat) (e : Nat) : Nat → Nat → Nat → (Nat → Int64) → Rw
  | 0, p, _, W => .inr (p, W)
  | m + 1, p, a, W => if p + 2 ≤ e then (if nuB B p 2 < a then .inl (7, p) else rdAr B e m (p + 2) (nuB B p 2 + 1) (rg 0 (nuB B p 2) (nuB B p 2) W)) else .inl (1, e)
/-- what a step of reading leaves -/
def RdP (S : PS) (rd c w : Nat) (x y k d : Int32) (o : Rw) (r : Int32) (T : PS) : Prop := match o with
  | .inr (p, W) => r = 1 ∧ T = RX S rd c w x y (nI p) k d (nI (tot W)) W
  | .inl (f, g) => r = 0 ∧ ∃ p W, T = RX S rd c w (nI f) (nI g) p k d (nI (tot W)) W
theorem ah_t {low a : Nat} (hl : low < 65536) (ha : a ≤ 65536) (h : nI a - 1 < nI low) : ¬ low < a := by
  intro q
  rw [show nI a - 1 = nI (a - 1) from nI_sb (b := 1) (by omega)] at h
  have := (nI_ltI (a := a - 1) (b := low) (by omega) (by omega)).mp h
  omega
theorem ah_f {low a : Nat} (hl : low < 65536) (ha : a ≤ 65536) (h : ¬ nI a - 1 < nI low) : low < a := by
  apply Nat.lt_of_not_le
  intro q
  apply h
  by_cases e : a = 0
  · subst e
    apply Int32.lt_iff_toInt_lt.mpr
    rw [nI_toInt (by omega)]
    show (-1 : Int) < low
    omega
  · rw [show nI a - 1 = nI (a - 1) from nI_sb (b := 1) (by omega)]
    exact (nI_ltI (a := a - 1) (b := low) (by omega) (by omega)).mpr (by omega)
theorem nu2 {B : Nat → Nat} {p : Nat} (h : ∀ i, i < 2 → B (p + i) < 256) : nuB B p 2 < 65536 := nuB_lt 2 h

set_option maxRecDepth 100000 in
set_option maxHeartbeats 2000000 in
/-- an array is read -/
theorem f_X4_takeArray (l : Launch) (D : va_G) (cy : Nat → ClassId) (nw : Nat) (S : PS) (rd e : Nat) (hrL : rd ∈ S.L) (hrK : S.K rd = 4) (hre : S.fi rd 3 = nI e) (he6 : e ≤ 60000) (br h n u : Nat) (B : Nat → Nat) (hb : ByV S br h n u B) (heu : e ≤ u) (c w : Nat) (hc : Cq S c w) (x y k d : Int32) (R : Nat → Int64) (p : Nat) (hpe : p ≤ e) (tt : Nat) (htt : tt ≤ 65536) : kI l yX4_takeArray wsX4_takeArray 3 70 D cy nw [.ref rd, .ref br, .ref c, .int (nI tt)] (RX S rd c w x y (nI p) k d (nI (tot R)) R) (fun r T => RdP S rd c w x y k d (rdAr B e tt p 0 R) r T) 0 0 := by
  refine enterI (cc := cX4_takeArray) (nL := 7) (ret := (some .boolean)) (by decide +kernel) rfl (Nat.le_of_ble_eq_true rfl) ?_
  intro F Z hl hR hD hcy hnw hnm
  subst hl hD hcy hnw
  have hRf : F.R.frames = 3 := by rw [hR]
  have hRc : F.R.cells = 0 := by rw [hR]
  have hRs : F.R.slots = 0 := by rw [hR]
  have hRl : F.R.locals = 70 := by rw [hR]
  have in4 : ∀ w ∈ u_ws RX4 TX4 10, w ∈ wsX4_takeArray := by decide +kernel
  have lk25 : Cond.fieldLink RX4 25 (TX4 2).1 (TX4 2).2.1 (TX4 2).2.2.1 ∈ wsX4_takeArray := by decide +kernel
  have hne : rd ≠ c := fun q => by have := hc.2.1; rw [← q, hrK] at this; exact absurd this (by decide)
  have hbr : br ≠ rd := fun q => by have := hb.1.2.1; rw [q, hrK] at this; exact absurd this (by decide)
  have hbc : br ≠ c := fun q => by have := hb.1.2.1; rw [q, hc.2.1] at this; exact absurd this (by decide)
  have fp : ∀ (p : Nat) (v : Int32) (R : Nat → Int64), (RX S rd c w x y (nI p) k d v R).fi rd 2 = nI p := fun p v R => by rw [RX_rd hne]; rfl
  have fe : ∀ (p : Nat) (v : Int32) (R : Nat → Int64), (RX S rd c w x y (nI p) k d v R).fi rd 3 = nI e := fun p v R => by rw [RX_rd hne]; exact hre
  have fb : ∀ (p : Nat) (v : Int32) (R : Nat → Int64), ByV (RX S rd c w x y (nI p) k d v R) br h n u B := fun p v R => RX_by hbr hbc hb
  have hB2 : ∀ q, q + 2 ≤ e → nuB B q 2 < 65536 := fun q hq => nu2 (fun i hi => (hb.2 (q + i) (by omega)).1)
  have loop : ∀ (m q p a : Nat) (R : Nat → Int64), tt - q < m → (q ≤ tt ∧ p ≤ e ∧ a ≤ 65536) → G F 7 (RX S rd c w x y (nI p) k d (nI (tot R)) R) 0 0 (QI F (fun r T => RdP S rd c w x y k d (rdAr B e (tt - q) p a R) r T) 0 0) 6 [(0, .ref rd), (1, .ref br), (2, .ref c), (3, .int (nI tt)), (4, .int (nI a - 1)), (5, .int (nI q))] [] := by
    intro m
    induction m with
    | zero => intros; omega
    | succ m ih =>
      intro q p a R hm ⟨hq, hpe, ha⟩
      refine g_iload Z dX4_takeArray_6 rfl ?_
      refine g_iload_n Z dX4_takeArray_8 rfl ?_
      refine g_icmp_ge Z 71 dX4_takeArray_9 (by decide) (fun h9 => ?_) (fun h9 => ?_)
      · have hz : tt - q = 0 := by have := ge_t (i := q) (N := tt) (by omega) (by omega) h9; omega
        rw [hz]
        refine g_iconst (v := 1) Z dX4_takeArray_71 (by decide) ?_
        exact g_zret Z dX4_takeArray_72 (by rfl) (by omega) (by omega) (⟨rfl, rfl⟩)
      · have hlt : q < tt := ge_f (by omega) (by omega) h9
        obtain ⟨m2, hm2⟩ : ∃ m2, tt - q = m2 + 1 := ⟨tt - q - 1, by omega⟩
        have hm3 : tt - (q + 1) = m2 := by omega
        rw [hm2]
        refine g_aload_n Z dX4_takeArray_12 rfl ?_
        refine g_iconst (v := 2) Z dX4_takeArray_13 (by decide) ?_
        refine g_cvI Z (f_X4_isThere F.l F.D F.cy F.nw (RX S rd c w x y (nI p) k d (nI (tot R)) R) rd p e hrL hrK (fp p _ R) (fe p _ R) hpe he6 2 (by decide)) 1 gX4_takeArray_X4_isThere rfl (by decide +kernel) (by rw [hRf, hRl]; decide) (by assumption) (κ := 4) (by assumption) rfl (by decide) rfl rfl (Nat.le_of_ble_eq_true rfl) dX4_takeArray_14 (by rw [hRc, hRs]; omega) (fun r1 T1 hp => ?_)
        have hpT := hp
        refine g_if_ne Z 22 dX4_takeArray_17 (by decide) (fun h17 => ?_) (fun h17 => ?_)
        · obtain ⟨hp2, -, rfl⟩ : p + 2 ≤ e ∧ r1 = 1 ∧ T1 = RX S rd c w x y (nI p) k d (nI (tot R)) R := by
            rcases hpT with hh | hh
            · exact hh
            · exact absurd hh.2.1 h17
          have hlow := hB2 p hp2
          refine g_aload_n Z dX4_takeArray_22 rfl ?_
          refine g_aload_n Z dX4_takeArray_23 rfl ?_
          refine g_iconst (v := 2) Z dX4_takeArray_24 (by decide) ?_
          refine g_cvL Z (f_X4_take F.l F.D F.cy F.nw (RX S rd c w x y (nI p) k d (nI (tot R)) R) rd p hrL hrK (fp p _ R) br h n u B (fb p _ R) 2 (by decide) (by omega)) 2 gX4_takeArray_X4_take rfl (by decide +kernel) (by rw [hRf, hRl]; decide) (by assumption) (κ := 4) (by assumption) rfl (by decide) rfl rfl (Nat.le_of_ble_eq_true rfl) dX4_takeArray_25 (by rw [hRc, hRs]; omega) (fun r2 T2 hq2 => ?_)
          obtain ⟨rfl, rfl⟩ := hq2
          rw [RX_2 hne]
          refine g_l2i Z dX4_takeArray_28 ?_
          rw [lN_i]
          refine g_istore Z dX4_takeArray_29 (by decide) ?_
          refine g_iload Z dX4_takeArray_31 rfl ?_
          refine g_iload Z dX4_takeArray_33 rfl ?_
          refine g_icmp_gt Z 51 dX4_takeArray_35 (by decide) (fun h35 => ?_) (fun h35 => ?_)
          · have hge := ah_t hlow ha h35
            refine g_aload_n Z dX4_takeArray_51 rfl ?_
            refine g_iload Z dX4_takeArray_52 rfl ?_
            refine g_iload Z dX4_takeArray_54 rfl ?_
            refine g_iconst (v := 0) Z dX4_takeArray_56 (by decide) ?_
            refine g_cvI Z (f_X1_changeLows F.l F.D F.cy F.nw (RX S rd c w x y (nI (p + 2)) k d (nI (tot R)) R) c w hc (by show (RX S rd c w x y (nI (p + 2)) k d (nI (tot R)) R).fi c 2 = nI (tot (va_up S.rj w R w)); rw [RX_c hne, va_up_self]; rfl) (nuB B p 2) (nuB B p 2) hlow hlow (Nat.le_refl _) 0) 3 gX4_takeArray_X1_changeLows rfl (by decide +kernel) (by rw [hRf, hRl]; decide) (by exact hc.1) (κ := 1) (by exact hc.2.1) rfl (by decide) rfl rfl (Nat.le_of_ble_eq_true rfl) dX4_takeArray_57 (by rw [hRc, hRs]; omega) (fun r3 T3 hq3 => ?_)
            obtain ⟨rfl, -⟩ := hq3
            rw [show (RX S rd c w x y (nI (p + 2)) k d (nI (tot R)) R).rj w = R from va_up_self _ _ _, show (RX S rd c w x y (nI (p + 2)) k d (nI (tot R)) R).fi c 0 = k by rw [RX_c hne]; rfl, show (RX S rd c w x y (nI (p + 2)) k d (nI (tot R)) R).fi c 1 = d by rw [RX_c hne]; rfl, CS_CS]
            refine g_pop Z dX4_takeArray_60 rfl ?_
            refine g_iload Z dX4_takeArray_61 rfl ?_
            refine g_istore Z dX4_takeArray_63 (by decide) ?_
            refine g_iinc (c := 1) Z dX4_takeArray_65 rfl (by decide) (by decide) ?_
            rw [nI_1]
            refine g_goto Z 6 dX4_takeArray_68 (by decide) ?_
            have hres : rdAr B e (m2 + 1) p a R = rdAr B e m2 (p + 2) (nuB B p 2 + 1) (rg 0 (nuB B p 2) (nuB B p 2) R) := by
              show (if p + 2 ≤ e then (if nuB B p 2 < a then Sum.inl (7, p) else rdAr B e m2 (p + 2) (nuB B p 2 + 1) (rg 0 (nuB B p 2) (nuB B p 2) R)) else Sum.inl (1, e)) = _
              rw [if_pos hp2, if_neg hge]
            rw [hres]
            have hih := ih (q + 1) (p + 2) (nuB B p 2 + 1) (rg 0 (nuB B p 2) (nuB B p 2) R) (by omega) ⟨by omega, by omega, by omega⟩
            rw [hm3, show nI (nuB B p 2 + 1) - 1 = nI (nuB B p 2) from nI_sb (b := 1) (by omega)] at hih
            exact g_lv (by (repeat (first | exact trivial | refine And.intro rfl ?_)); done) hih
          · have hge := ah_f hlow ha h35
            refine g_aload_n Z dX4_takeArray_38 rfl ?_
            refine g_bipush (v := 7) Z dX4_takeArray_39 (by decide) ?_
            refine g_aload_n Z dX4_takeArray_41 rfl ?_
            refine g_geti Z 4 2 rfl (by decide) in4 lk25 dX4_takeArray_42 (by assumption) (by assumption) ?_
            rw [fp]
            refine g_iconst (v := 2) Z dX4_takeArray_45 (by decide) ?_
            refine g_isub Z dX4_takeArray_46 ?_
            rw [show nI (p + 2) - 2 = nI p from (nI_sb (b := 2) (by omega)).trans (congrArg nI (by omega))]
            refine g_cvI Z (f_X4_tellFault F.l F.D F.cy F.nw (RX S rd c w x y (nI (p + 2)) k d (nI (tot R)) R) rd hrL hrK _ _) 2 gX4_takeArray_X4_tellFault rfl (by decide +kernel) (by rw [hRf, hRl]; decide) (by assumption) (κ := 4) (by assumption) rfl (by decide) rfl rfl (Nat.le_of_ble_eq_true rfl) dX4_takeArray_47 (by rw [hRc, hRs]; omega) (fun r3 T3 hq3 => ?_)
            obtain ⟨rfl, rfl⟩ := hq3
            rw [RX_0 hne, RX_1 hne]
            exact g_zret Z dX4_takeArray_50 (by rfl) (by omega) (by omega) (by unfold rdAr; rw [if_pos hp2, if_pos hge]; exact ⟨rfl, _, _, rfl⟩)
        · obtain ⟨hp2, -, rfl⟩ : ¬ p + 2 ≤ e ∧ r1 = 0 ∧ T1 = ((RX S rd c w x y (nI p) k d (nI (tot R)) R).setI rd 0 1).setI rd 1 (nI e) := by
            rcases hpT with hh | hh
            · rw [hh.2.1] at h17; exact absurd h17 (by decide)
            · exact hh
          refine g_iconst (v := 0) Z dX4_takeArray_20 (by decide) ?_
          exact g_zret Z dX4_takeArray_21 (by rfl) (by omega) (by omega) (by unfold rdAr; rw [if_neg hp2]; exact ⟨rfl, nI p, R, by rw [RX_0 hne, RX_1 hne]; rfl⟩)
  refine g_iconst (v := (-1)) Z dX4_takeArray_0 (by decide) ?_
  refine g_istore Z dX4_takeArray_1 (by decide) ?_
  refine g_iconst (v := 0) Z dX4_takeArray_3 (by decide) ?_
  refine g_istore Z dX4_takeArray_4 (by decide) ?_
  exact g_lv (by (repeat (first | exact trivial | refine And.intro rfl ?_)); done) (loop (tt + 1) 0 p 0 R (by omega) ⟨by omega, hpe, by omega⟩)
