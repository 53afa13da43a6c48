/-! READING THE HEAD: only the reader's numbers change -/
abbrev E8 (S : PS) (rd : Nat) (v : Nat → Int32) : PS := (S.L, S.K, va_up S.fi rd v, S.fr, S.ln, S.ri, S.rj, S.rr)
theorem E8_of (S : PS) (rd i : Nat) (z : Int32) : S.setI rd i z = E8 S rd (va_up (S.fi rd) i z) := rfl
theorem E8_set (S : PS) (rd i : Nat) (v : Nat → Int32) (z : Int32) : (E8 S rd v).setI rd i z = E8 S rd (va_up v i z) := by
  show (_, _, va_up (va_up S.fi rd v) rd (va_up (va_up S.fi rd v rd) i z), _, _, _, _, _) = _
  rw [bx_uu, va_up_self]
theorem E8_E8 (S : PS) (rd : Nat) (v v2 : Nat → Int32) : E8 (E8 S rd v) rd v2 = E8 S rd v2 := by
  show (_, _, va_up (va_up S.fi rd v) rd v2, _, _, _, _, _) = _
  rw [bx_uu]
theorem E8_fi (S : PS) (rd : Nat) (v : Nat → Int32) : (E8 S rd v).fi rd = v := va_up_self _ _ _
theorem E8_by {S : PS} {rd : Nat} {v : Nat → Int32} {br h n u : Nat} {B : Nat → Nat} (hr : br ≠ rd) (hb : ByV S br h n u B) : ByV (E8 S rd v) br h n u B := by
  obtain ⟨⟨k1, k2, k3, k4, k5, k6, k7, k8, k9, k10⟩, hB⟩ := hb
  exact ⟨⟨k1, k2, k3, k4, k5, k6, k7, (congrFun (show (E8 S rd v).fi br = S.fi br from va_up_ne _ _ hr) 1).trans k8, k9, k10⟩, hB⟩
/-- a fault and its place, or how many containers, which mark, which are runs, how far -/
abbrev Rh : Type := (Nat × Nat) ⊕ (Nat × Nat × Nat × Nat)
def rdPt (B : Nat → Nat) (e : Nat) : Rh := if 8 ≤ e then (if 6 < nuB B 4 4 then .inl (3, 4) else .inr (nuB B 4 4, 1, 0, 8)) else .inl (1, e)
def rdRb (B : Nat → Nat) (e told : Nat) : Rh := if 6 < told then .inl (3, 2) else if 5 ≤ e then (if nuB B 4 1 / 2 ^ told = 0 then .inr (told, 0, nuB B 4 1, 5) else .inl (4, 4)) else .inl (1, e)
def rdMk (B : Nat → Nat) (e : Nat) : Rh := if 4 ≤ e then (if nuB B 0 4 = 12346 then rdPt B e else if nuB B 0 4 % 65536 = 12347 then rdRb B e (nuB B 0 4 / 65536 + 1) else .inl (2, 0)) else .inl (1, e)
def HdP (S : PS) (rd : Nat) (o : Rh) (r : Int32) (T : PS) : Prop := match o with
  | .inr (n, pl, rb, p) => r = 1 ∧ ∃ v, T = E8 S rd v ∧ v 0 = S.fi rd 0 ∧ v 1 = S.fi rd 1 ∧ v 2 = nI p ∧ v 3 = S.fi rd 3 ∧ v 4 = nI n ∧ v 5 = nI pl ∧ v 6 = nI rb ∧ v 7 = S.fi rd 7
  | .inl (f, g) => r = 0 ∧ ∃ v, T = E8 S rd v ∧ v 0 = nI f ∧ v 1 = nI g
theorem HdP.r {S : PS} {rd : Nat} {o : Rh} {r : Int32} {T : PS} (h : HdP S rd o r T) : r = 0 ∨ r = 1 := by
  rcases o with ⟨f, g⟩ | ⟨n, pl, rb, p⟩
  · exact Or.inl h.1
  · exact Or.inr h.1
theorem HdP.up {S : PS} {rd : Nat} {o : Rh} {r : Int32} {T : PS} {v0 : Nat → Int32} (h : HdP (E8 S rd v0) rd o r T) (h0 : v0 0 = S.fi rd 0) (h1 : v0 1 = S.fi rd 1) (h3 : v0 3 = S.fi rd 3) (h7 : v0 7 = S.fi rd 7) : HdP S rd o r T := by
  rcases o with ⟨f, g⟩ | ⟨n, pl, rb, p⟩
  · obtain ⟨a, v, b, c⟩ := h
    exact ⟨a, v, by rw [b, E8_E8], c⟩
  · obtain ⟨a, v, b, c0, c1, c2, c3, c4, c5, c6, c7⟩ := h
    rw [E8_fi] at c0 c1 c3 c7
    exact ⟨a, v, by rw [b, E8_E8], c0.trans h0, c1.trans h1, c2, c3.trans h3, c4, c5, c6, c7.trans h7⟩
theorem HdP.f {S : PS} {rd f g : Nat} : HdP S rd (.inl (f, g)) 0 ((S.setI rd 0 (nI f)).setI rd 1 (nI g)) := ⟨rfl, va_up (va_up (S.fi rd) 0 (nI f)) 1 (nI g), by rw [E8_of S, E8_set], (va_up_ne _ _ (by decide)).trans (va_up_self _ _ _), va_up_self _ _ _⟩
theorem lcmp_gt {v : Nat} (hv : v < 2 ^ 32) (h : ¬ lg_cmp (lN v) 6 ≤ 0) : 6 < v := by
  have h1 : (0 : Int32) < lg_cmp (lN v) 6 := i_lt_of_nle h
  have h2 : (6 : Int64) < lN v := lc_gt.mp h1
  exact (pk_lLT (a := 6) (b := v) (by decide) (by omega)).mp h2
theorem shk : ∀ k, k < 32 → (((nI k).toUInt32 &&& Int32.toUInt32 31).toBitVec % 32).toNat = k := by decide +kernel

set_option maxRecDepth 100000 in
set_option maxHeartbeats 2000000 in
/-- how many containers, told in four bytes -/
theorem f_X4_takePlainTotal (l : Launch) (D : va_G) (cy : Nat → ClassId) (nw : Nat) (S : PS) (rd e : Nat) (hrL : rd ∈ S.L) (hrK : S.K rd = 4) (hre : S.fi rd 3 = nI e) (he6 : e ≤ 60000) (br h n u : Nat) (B : Nat → Nat) (hb : ByV S br h n u B) (heu : e ≤ u) (hrp : S.fi rd 2 = nI 4) (hpe : 4 ≤ e) (h60 : S.fi rd 6 = nI 0) : kI l yX4_takePlainTotal wsX4_takePlainTotal 3 70 D cy nw [.ref rd, .ref br] S (fun r T => HdP S rd (rdPt B e) r T) 0 0 := by
  refine enterI (cc := cX4_takePlainTotal) (nL := 4) (ret := (some .boolean)) (by decide +kernel) rfl (Nat.le_of_ble_eq_true rfl) ?_
  intro F Z hl hR hD hcy hnw hnm
  subst hl hD hcy hnw
  have hRf : F.R.frames = 3 := by rw [hR]
  have hRc : F.R.cells = 0 := by rw [hR]
  have hRs : F.R.slots = 0 := by rw [hR]
  have hRl : F.R.locals = 70 := by rw [hR]
  have in4 : ∀ w ∈ u_ws RX4 TX4 10, w ∈ wsX4_takePlainTotal := by decide +kernel
  have lk36 : Cond.fieldLink RX4 36 (TX4 4).1 (TX4 4).2.1 (TX4 4).2.2.1 ∈ wsX4_takePlainTotal := by decide +kernel
  have lk39 : Cond.fieldLink RX4 39 (TX4 5).1 (TX4 5).2.1 (TX4 5).2.2.1 ∈ wsX4_takePlainTotal := by decide +kernel
  have ct96 : Cond.constantLong RX4 96 (6) ∈ wsX4_takePlainTotal := by decide +kernel
  have hbr : br ≠ rd := fun q => by have := hb.1.2.1; rw [q, hrK] at this; exact absurd this (by decide)
  refine g_aload_n Z dX4_takePlainTotal_0 rfl ?_
  refine g_iconst (v := 4) Z dX4_takePlainTotal_1 (by decide) ?_
  refine g_cvI Z (f_X4_isThere F.l F.D F.cy F.nw S rd 4 e hrL hrK hrp hre hpe he6 4 (by decide)) 1 gX4_takePlainTotal_X4_isThere rfl (by decide +kernel) (by rw [hRf, hRl]; decide) (by exact hrL) (κ := 4) (by exact hrK) rfl (by decide) rfl rfl (Nat.le_of_ble_eq_true rfl) dX4_takePlainTotal_2 (by rw [hRc, hRs]; omega) (fun r1 T1 hp => ?_)
  have hpT := hp
  refine g_if_ne Z 10 dX4_takePlainTotal_5 (by decide) (fun h5 => ?_) (fun h5 => ?_)
  · obtain ⟨hp2, -, rfl⟩ : 4 + 4 ≤ e ∧ r1 = 1 ∧ S = T1 := by
      rcases hpT with hh | hh
      · exact ⟨hh.1, hh.2.1, hh.2.2.symm⟩
      · exact absurd hh.2.1 h5
    have hlt : nuB B 4 4 < 2 ^ 32 := nuB_lt 4 (fun i hi => (hb.2 (4 + i) (by omega)).1)
    refine g_aload_n Z dX4_takePlainTotal_10 rfl ?_
    refine g_aload_n Z dX4_takePlainTotal_11 rfl ?_
    refine g_iconst (v := 4) Z dX4_takePlainTotal_12 (by decide) ?_
    refine g_cvL Z (f_X4_take F.l F.D F.cy F.nw S rd 4 hrL hrK hrp br h n u B hb 4 (by decide) (by omega)) 2 gX4_takePlainTotal_X4_take rfl (by decide +kernel) (by rw [hRf, hRl]; decide) (by exact hrL) (κ := 4) (by exact hrK) rfl (by decide) rfl rfl (Nat.le_of_ble_eq_true rfl) dX4_takePlainTotal_13 (by rw [hRc, hRs]; omega) (fun r2 T2 hq2 => ?_)
    obtain ⟨rfl, rfl⟩ := hq2
    generalize hT : nuB B 4 4 = t4 at hlt ⊢
    rw [E8_of]
    refine g_lstore_n Z dX4_takePlainTotal_16 (by decide) ?_
    refine g_lload_n Z dX4_takePlainTotal_17 rfl ?_
    refine g_ldc2 (v := 6) Z dX4_takePlainTotal_18 ct96 ?_
    refine g_lcmp Z dX4_takePlainTotal_21 ?_
    refine g_if_le Z 32 dX4_takePlainTotal_22 (by decide) (fun h22 => ?_) (fun h22 => ?_)
    · have hle : ¬ 6 < t4 := by have := lcmp_le hlt h22; omega
      have pt0 : (va_up (va_up (va_up (S.fi rd) 2 (nI (4 + 4))) 4 (nI (t4))) 5 1) 0 = S.fi rd 0 := (va_up_ne _ _ (by decide)).trans ((va_up_ne _ _ (by decide)).trans ((va_up_ne _ _ (by decide)).trans (rfl)))
      have pt1 : (va_up (va_up (va_up (S.fi rd) 2 (nI (4 + 4))) 4 (nI (t4))) 5 1) 1 = S.fi rd 1 := (va_up_ne _ _ (by decide)).trans ((va_up_ne _ _ (by decide)).trans ((va_up_ne _ _ (by decide)).trans (rfl)))
      have pt2 : (va_up (va_up (va_up (S.fi rd) 2 (nI (4 + 4))) 4 (nI (t4))) 5 1) 2 = nI 8 := (va_up_ne _ _ (by decide)).trans ((va_up_ne _ _ (by decide)).trans (va_up_self _ _ _))
      have pt3 : (va_up (va_up (va_up (S.fi rd) 2 (nI (4 + 4))) 4 (nI (t4))) 5 1) 3 = S.fi rd 3 := (va_up_ne _ _ (by decide)).trans ((va_up_ne _ _ (by decide)).trans ((va_up_ne _ _ (by decide)).trans (rfl)))
      have pt4 : (va_up (va_up (va_up (S.fi rd) 2 (nI (4 + 4))) 4 (nI (t4))) 5 1) 4 = nI (t4) := (va_up_ne _ _ (by decide)).trans (va_up_self _ _ _)
      have pt5 : (va_up (va_up (va_up (S.fi rd) 2 (nI (4 + 4))) 4 (nI (t4))) 5 1) 5 = nI 1 := va_up_self _ _ _
      have pt6 : (va_up (va_up (va_up (S.fi rd) 2 (nI (4 + 4))) 4 (nI (t4))) 5 1) 6 = nI 0 := (va_up_ne _ _ (by decide)).trans ((va_up_ne _ _ (by decide)).trans ((va_up_ne _ _ (by decide)).trans (h60)))
      have pt7 : (va_up (va_up (va_up (S.fi rd) 2 (nI (4 + 4))) 4 (nI (t4))) 5 1) 7 = S.fi rd 7 := (va_up_ne _ _ (by decide)).trans ((va_up_ne _ _ (by decide)).trans ((va_up_ne _ _ (by decide)).trans (rfl)))
      refine g_aload_n Z dX4_takePlainTotal_32 rfl ?_
      refine g_lload_n Z dX4_takePlainTotal_33 rfl ?_
      refine g_l2i Z dX4_takePlainTotal_34 ?_
      rw [lN_i]
      refine g_puti Z 4 4 rfl (by decide) tyX4 tyX4_ok nmX4 rfl in4 lk36 dX4_takePlainTotal_35 rfl rfl (by exact hrL) (by exact hrK) ?_
      rw [E8_set]
      refine g_aload_n Z dX4_takePlainTotal_38 rfl ?_
      refine g_iconst (v := 1) Z dX4_takePlainTotal_39 (by decide) ?_
      refine g_puti Z 4 5 rfl (by decide) tyX4 tyX4_ok nmX4 rfl in4 lk39 dX4_takePlainTotal_40 (by rfl) (by rfl) (by exact hrL) (by exact hrK) ?_
      rw [E8_set]
      refine g_iconst (v := 1) Z dX4_takePlainTotal_43 (by decide) ?_
      exact g_zret Z dX4_takePlainTotal_44 (by rfl) (by omega) (by omega) (by rw [show rdPt B e = Sum.inr (t4, 1, 0, 8) by unfold rdPt; rw [hT, if_pos (show 8 ≤ e from hp2), if_neg hle]]; exact ⟨rfl, _, rfl, pt0, pt1, pt2, pt3, pt4, pt5, pt6, pt7⟩)
    · have hgt : 6 < t4 := lcmp_gt hlt h22
      refine g_aload_n Z dX4_takePlainTotal_25 rfl ?_
      refine g_iconst (v := 3) Z dX4_takePlainTotal_26 (by decide) ?_
      refine g_iconst (v := 4) Z dX4_takePlainTotal_27 (by decide) ?_
      refine g_cvI Z (f_X4_tellFault F.l F.D F.cy F.nw (E8 S rd (va_up (S.fi rd) 2 (nI (4 + 4)))) rd hrL hrK _ _) 2 gX4_takePlainTotal_X4_tellFault rfl (by decide +kernel) (by rw [hRf, hRl]; decide) (by exact hrL) (κ := 4) (by exact hrK) rfl (by decide) rfl rfl (Nat.le_of_ble_eq_true rfl) dX4_takePlainTotal_28 (by rw [hRc, hRs]; omega) (fun r3 T3 hq3 => ?_)
      obtain ⟨rfl, rfl⟩ := hq3
      rw [E8_set, E8_set]
      exact g_zret Z dX4_takePlainTotal_31 (by rfl) (by omega) (by omega) (by rw [show rdPt B e = Sum.inl (3, 4) by unfold rdPt; rw [hT, if_pos (show 8 ≤ e from hp2), if_pos hgt]]; exact ⟨rfl, _, rfl, (va_up_ne _ _ (by decide)).trans (va_up_self _ _ _), va_up_self _ _ _⟩)
  · obtain ⟨hp2, -, rfl⟩ : ¬ 4 + 4 ≤ e ∧ r1 = 0 ∧ T1 = (S.setI rd 0 1).setI rd 1 (nI e) := by
      rcases hpT with hh | hh
      · rw [hh.2.1] at h5; exact absurd h5 (by decide)
      · exact hh
    refine g_iconst (v := 0) Z dX4_takePlainTotal_8 (by decide) ?_
    exact g_zret Z dX4_takePlainTotal_9 (by rfl) (by omega) (by omega) (by rw [show rdPt B e = Sum.inl (1, e) from if_neg hp2]; exact HdP.f)

set_option maxRecDepth 100000 in
set_option maxHeartbeats 2000000 in
/-- how many containers, and which are runs -/
theorem f_X4_takeRunBits (l : Launch) (D : va_G) (cy : Nat → ClassId) (nw : Nat) (S : PS) (rd e : Nat) (hrL : rd ∈ S.L) (hrK : S.K rd = 4) (hre : S.fi rd 3 = nI e) (he6 : e ≤ 60000) (br h n u : Nat) (B : Nat → Nat) (hb : ByV S br h n u B) (heu : e ≤ u) (hrp : S.fi rd 2 = nI 4) (hpe : 4 ≤ e) (h50 : S.fi rd 5 = nI 0) (k : Nat) (hk : k < 2 ^ 31) : kI l yX4_takeRunBits wsX4_takeRunBits 3 70 D cy nw [.ref rd, .ref br, .int (nI k)] S (fun r T => HdP S rd (rdRb B e k) r T) 0 0 := by
  refine enterI (cc := cX4_takeRunBits) (nL := 3) (ret := (some .boolean)) (by decide +kernel) rfl (Nat.le_of_ble_eq_true rfl) ?_
  intro F Z hl hR hD hcy hnw hnm
  subst hl hD hcy hnw
  have hRf : F.R.frames = 3 := by rw [hR]
  have hRc : F.R.cells = 0 := by rw [hR]
  have hRs : F.R.slots = 0 := by rw [hR]
  have hRl : F.R.locals = 70 := by rw [hR]
  have in4 : ∀ w ∈ u_ws RX4 TX4 10, w ∈ wsX4_takeRunBits := by decide +kernel
  have lk25 : Cond.fieldLink RX4 25 (TX4 2).1 (TX4 2).2.1 (TX4 2).2.2.1 ∈ wsX4_takeRunBits := by decide +kernel
  have lk36 : Cond.fieldLink RX4 36 (TX4 4).1 (TX4 4).2.1 (TX4 4).2.2.1 ∈ wsX4_takeRunBits := by decide +kernel
  have lk43 : Cond.fieldLink RX4 43 (TX4 6).1 (TX4 6).2.1 (TX4 6).2.2.1 ∈ wsX4_takeRunBits := by decide +kernel
  have hbr : br ≠ rd := fun q => by have := hb.1.2.1; rw [q, hrK] at this; exact absurd this (by decide)
  refine g_iload_n Z dX4_takeRunBits_0 rfl ?_
  refine g_bipush (v := 6) Z dX4_takeRunBits_1 (by decide) ?_
  refine g_icmp_le Z 13 dX4_takeRunBits_3 (by decide) (fun h3 => ?_) (fun h3 => ?_)
  · have hk6 : ¬ 6 < k := by have := le_t (i := k) (N := 6) (by omega) (by decide) h3; omega
    refine g_aload_n Z dX4_takeRunBits_13 rfl ?_
    refine g_iconst (v := 1) Z dX4_takeRunBits_14 (by decide) ?_
    refine g_cvI Z (f_X4_isThere F.l F.D F.cy F.nw S rd 4 e hrL hrK hrp hre hpe he6 1 (by decide)) 1 gX4_takeRunBits_X4_isThere rfl (by decide +kernel) (by rw [hRf, hRl]; decide) (by exact hrL) (κ := 4) (by exact hrK) rfl (by decide) rfl rfl (Nat.le_of_ble_eq_true rfl) dX4_takeRunBits_15 (by rw [hRc, hRs]; omega) (fun r1 T1 hp => ?_)
    have hpT := hp
    refine g_if_ne Z 23 dX4_takeRunBits_18 (by decide) (fun h18 => ?_) (fun h18 => ?_)
    · obtain ⟨hp2, -, rfl⟩ : 4 + 1 ≤ e ∧ r1 = 1 ∧ S = T1 := by
        rcases hpT with hh | hh
        · exact ⟨hh.1, hh.2.1, hh.2.2.symm⟩
        · exact absurd hh.2.1 h18
      have hlt : nuB B 4 1 < 256 := nuB_lt 1 (fun i hi => (hb.2 (4 + i) (by omega)).1)
      refine g_aload_n Z dX4_takeRunBits_23 rfl ?_
      refine g_iload_n Z dX4_takeRunBits_24 rfl ?_
      refine g_puti Z 4 4 rfl (by decide) tyX4 tyX4_ok nmX4 rfl in4 lk36 dX4_takeRunBits_25 rfl rfl (by exact hrL) (by exact hrK) ?_
      rw [E8_of]
      refine g_aload_n Z dX4_takeRunBits_28 rfl ?_
      refine g_aload_n Z dX4_takeRunBits_29 rfl ?_
      refine g_aload_n Z dX4_takeRunBits_30 rfl ?_
      refine g_iconst (v := 1) Z dX4_takeRunBits_31 (by decide) ?_
      refine g_cvL Z (f_X4_take F.l F.D F.cy F.nw (E8 S rd (va_up (S.fi rd) 4 (nI k))) rd 4 hrL hrK ((congrFun (E8_fi S rd (va_up (S.fi rd) 4 (nI k))) 2).trans ((va_up_ne _ _ (by decide)).trans hrp)) br h n u B (E8_by hbr hb) 1 (by decide) (by omega)) 2 gX4_takeRunBits_X4_take rfl (by decide +kernel) (by rw [hRf, hRl]; decide) (by exact hrL) (κ := 4) (by exact hrK) rfl (by decide) rfl rfl (Nat.le_of_ble_eq_true rfl) dX4_takeRunBits_32 (by rw [hRc, hRs]; omega) (fun r2 T2 hq2 => ?_)
      obtain ⟨rfl, rfl⟩ := hq2
      generalize hT : nuB B 4 1 = b4 at hlt ⊢
      rw [E8_set]
      refine g_l2i Z dX4_takeRunBits_35 ?_
      rw [lN_i]
      refine g_puti Z 4 6 rfl (by decide) tyX4 tyX4_ok nmX4 rfl in4 lk43 dX4_takeRunBits_36 rfl rfl (by exact hrL) (by exact hrK) ?_
      rw [E8_set]
      have rb0 : (va_up (va_up (va_up (S.fi rd) 4 (nI k)) 2 (nI (4 + 1))) 6 (nI (b4))) 0 = S.fi rd 0 := (va_up_ne _ _ (by decide)).trans ((va_up_ne _ _ (by decide)).trans ((va_up_ne _ _ (by decide)).trans (rfl)))
      have rb1 : (va_up (va_up (va_up (S.fi rd) 4 (nI k)) 2 (nI (4 + 1))) 6 (nI (b4))) 1 = S.fi rd 1 := (va_up_ne _ _ (by decide)).trans ((va_up_ne _ _ (by decide)).trans ((va_up_ne _ _ (by decide)).trans (rfl)))
      have rb2 : (va_up (va_up (va_up (S.fi rd) 4 (nI k)) 2 (nI (4 + 1))) 6 (nI (b4))) 2 = nI 5 := (va_up_ne _ _ (by decide)).trans (va_up_self _ _ _)
      have rb3 : (va_up (va_up (va_up (S.fi rd) 4 (nI k)) 2 (nI (4 + 1))) 6 (nI (b4))) 3 = S.fi rd 3 := (va_up_ne _ _ (by decide)).trans ((va_up_ne _ _ (by decide)).trans ((va_up_ne _ _ (by decide)).trans (rfl)))
      have rb4 : (va_up (va_up (va_up (S.fi rd) 4 (nI k)) 2 (nI (4 + 1))) 6 (nI (b4))) 4 = nI k := (va_up_ne _ _ (by decide)).trans ((va_up_ne _ _ (by decide)).trans (va_up_self _ _ _))
      have rb5 : (va_up (va_up (va_up (S.fi rd) 4 (nI k)) 2 (nI (4 + 1))) 6 (nI (b4))) 5 = nI 0 := (va_up_ne _ _ (by decide)).trans ((va_up_ne _ _ (by decide)).trans ((va_up_ne _ _ (by decide)).trans (h50)))
      have rb6 : (va_up (va_up (va_up (S.fi rd) 4 (nI k)) 2 (nI (4 + 1))) 6 (nI (b4))) 6 = nI (b4) := va_up_self _ _ _
      have rb7 : (va_up (va_up (va_up (S.fi rd) 4 (nI k)) 2 (nI (4 + 1))) 6 (nI (b4))) 7 = S.fi rd 7 := (va_up_ne _ _ (by decide)).trans ((va_up_ne _ _ (by decide)).trans ((va_up_ne _ _ (by decide)).trans (rfl)))
      refine g_aload_n Z dX4_takeRunBits_39 rfl ?_
      refine g_geti Z 4 6 rfl (by decide) in4 lk43 dX4_takeRunBits_40 (by exact hrL) (by exact hrK) ?_
      rw [show PS.fi (E8 S rd (va_up (va_up (va_up (S.fi rd) 4 (nI k)) 2 (nI (4 + 1))) 6 (nI b4))) rd 6 = nI (b4) from (congrFun (E8_fi S rd (va_up (va_up (va_up (S.fi rd) 4 (nI k)) 2 (nI (4 + 1))) 6 (nI b4))) 6).trans rb6]
      refine g_aload_n Z dX4_takeRunBits_43 rfl ?_
      refine g_geti Z 4 4 rfl (by decide) in4 lk36 dX4_takeRunBits_44 (by exact hrL) (by exact hrK) ?_
      rw [show PS.fi (E8 S rd (va_up (va_up (va_up (S.fi rd) 4 (nI k)) 2 (nI (4 + 1))) 6 (nI b4))) rd 4 = nI k from (congrFun (E8_fi S rd (va_up (va_up (va_up (S.fi rd) 4 (nI k)) 2 (nI (4 + 1))) 6 (nI b4))) 4).trans rb4]
      refine g_iushr Z dX4_takeRunBits_47 ?_
      rw [pk_ushrN (n := b4) (by omega) (nI k) k (shk k (by omega))]
      refine g_if_eq Z 65 dX4_takeRunBits_48 (by decide) (fun h48 => ?_) (fun h48 => ?_)
      · have hz : b4 / 2 ^ k = 0 := nI_z (Nat.lt_of_le_of_lt (Nat.div_le_self _ _) (by omega)) h48
        refine g_iconst (v := 1) Z dX4_takeRunBits_65 (by decide) ?_
        refine g_goto Z 70 dX4_takeRunBits_66 (by decide) ?_
        exact g_zret Z dX4_takeRunBits_70 (by rfl) (by omega) (by omega) (by first | (rw [show rdRb B e k = Sum.inr (k, 0, b4, 5) by unfold rdRb; rw [hT, if_neg hk6, if_pos (show 5 ≤ e from hp2), if_pos hz]]; exact ⟨rfl, _, rfl, rb0, rb1, rb2, rb3, rb4, rb5, rb6, rb7⟩) | (rw [show rdRb B e k = Sum.inl (4, 4) by unfold rdRb; rw [hT, if_neg hk6, if_pos (show 5 ≤ e from hp2), if_neg hz]]; exact ⟨rfl, _, rfl, (va_up_ne _ _ (by decide)).trans (va_up_self _ _ _), va_up_self _ _ _⟩))
      · have hz : ¬ b4 / 2 ^ k = 0 := fun q => h48 (by rw [q]; rfl)
        refine g_aload_n Z dX4_takeRunBits_51 rfl ?_
        refine g_iconst (v := 4) Z dX4_takeRunBits_52 (by decide) ?_
        refine g_aload_n Z dX4_takeRunBits_53 rfl ?_
        refine g_geti Z 4 2 rfl (by decide) in4 lk25 dX4_takeRunBits_54 (by exact hrL) (by exact hrK) ?_
        rw [show PS.fi (E8 S rd (va_up (va_up (va_up (S.fi rd) 4 (nI k)) 2 (nI (4 + 1))) 6 (nI b4))) rd 2 = nI 5 from (congrFun (E8_fi S rd (va_up (va_up (va_up (S.fi rd) 4 (nI k)) 2 (nI (4 + 1))) 6 (nI b4))) 2).trans rb2]
        refine g_iconst (v := 1) Z dX4_takeRunBits_57 (by decide) ?_
        refine g_isub Z dX4_takeRunBits_58 ?_
        rw [show nI 5 - 1 = nI 4 from rfl]
        refine g_cvI Z (f_X4_tellFault F.l F.D F.cy F.nw (E8 S rd (va_up (va_up (va_up (S.fi rd) 4 (nI k)) 2 (nI (4 + 1))) 6 (nI b4))) rd hrL hrK _ _) 2 gX4_takeRunBits_X4_tellFault rfl (by decide +kernel) (by rw [hRf, hRl]; decide) (by exact hrL) (κ := 4) (by exact hrK) rfl (by decide) rfl rfl (Nat.le_of_ble_eq_true rfl) dX4_takeRunBits_59 (by rw [hRc, hRs]; omega) (fun r3 T3 hq3 => ?_)
        obtain ⟨rfl, rfl⟩ := hq3
        rw [E8_set, E8_set]
        refine g_if_eq Z 69 dX4_takeRunBits_62 (by decide) (fun h62 => ?_) (fun h62 => absurd (rfl) h62)
        refine g_iconst (v := 0) Z dX4_takeRunBits_69 (by decide) ?_
        exact g_zret Z dX4_takeRunBits_70 (by rfl) (by omega) (by omega) (by first | (rw [show rdRb B e k = Sum.inr (k, 0, b4, 5) by unfold rdRb; rw [hT, if_neg hk6, if_pos (show 5 ≤ e from hp2), if_pos hz]]; exact ⟨rfl, _, rfl, rb0, rb1, rb2, rb3, rb4, rb5, rb6, rb7⟩) | (rw [show rdRb B e k = Sum.inl (4, 4) by unfold rdRb; rw [hT, if_neg hk6, if_pos (show 5 ≤ e from hp2), if_neg hz]]; exact ⟨rfl, _, rfl, (va_up_ne _ _ (by decide)).trans (va_up_self _ _ _), va_up_self _ _ _⟩))
    · obtain ⟨hp2, -, rfl⟩ : ¬ 4 + 1 ≤ e ∧ r1 = 0 ∧ T1 = (S.setI rd 0 1).setI rd 1 (nI e) := by
        rcases hpT with hh | hh
        · rw [hh.2.1] at h18; exact absurd h18 (by decide)
        · exact hh
      refine g_iconst (v := 0) Z dX4_takeRunBits_21 (by decide) ?_
      exact g_zret Z dX4_takeRunBits_22 (by rfl) (by omega) (by omega) (by rw [show rdRb B e k = Sum.inl (1, e) from (if_neg hk6).trans (if_neg hp2)]; exact HdP.f)
  · have hk6 : 6 < k := le_f (i := k) (N := 6) (by omega) (by decide) h3
    refine g_aload_n Z dX4_takeRunBits_6 rfl ?_
    refine g_iconst (v := 3) Z dX4_takeRunBits_7 (by decide) ?_
    refine g_iconst (v := 2) Z dX4_takeRunBits_8 (by decide) ?_
    refine g_cvI Z (f_X4_tellFault F.l F.D F.cy F.nw S rd hrL hrK _ _) 2 gX4_takeRunBits_X4_tellFault rfl (by decide +kernel) (by rw [hRf, hRl]; decide) (by exact hrL) (κ := 4) (by exact hrK) rfl (by decide) rfl rfl (Nat.le_of_ble_eq_true rfl) dX4_takeRunBits_9 (by rw [hRc, hRs]; omega) (fun r3 T3 hq3 => ?_)
    obtain ⟨rfl, rfl⟩ := hq3
    rw [E8_of S, E8_set]
    exact g_zret Z dX4_takeRunBits_12 (by rfl) (by omega) (by omega) (by rw [show rdRb B e k = Sum.inl (3, 2) from if_pos hk6]; exact ⟨rfl, _, rfl, (va_up_ne _ _ (by decide)).trans (va_up_self _ _ _), va_up_self _ _ _⟩)

theorem lN_jj {a b : Nat} (ha : a < 2 ^ 64) (hb : b < 2 ^ 64) (h : lN a = lN b) : a = b := by
  have := congrArg wv h
  rw [wv_lN ha, wv_lN hb] at this
  exact this

set_option maxRecDepth 100000 in
set_option maxHeartbeats 2000000 in
/-- the first bytes -/
theorem f_X4_takeMark (l : Launch) (D : va_G) (cy : Nat → ClassId) (nw : Nat) (S : PS) (rd e : Nat) (hrL : rd ∈ S.L) (hrK : S.K rd = 4) (hre : S.fi rd 3 = nI e) (he6 : e ≤ 60000) (br h n u : Nat) (B : Nat → Nat) (hb : ByV S br h n u B) (heu : e ≤ u) (hrp : S.fi rd 2 = nI 0) (h50 : S.fi rd 5 = nI 0) (h60 : S.fi rd 6 = nI 0) : kI l yX4_takeMark wsX4_takeMark 4 93 D cy nw [.ref rd, .ref br] S (fun r T => HdP S rd (rdMk B e) r T) 0 0 := by
  refine enterI (cc := cX4_takeMark) (nL := 4) (ret := (some .boolean)) (by decide +kernel) rfl (Nat.le_of_ble_eq_true rfl) ?_
  intro F Z hl hR hD hcy hnw hnm
  subst hl hD hcy hnw
  have hRf : F.R.frames = 4 := by rw [hR]
  have hRc : F.R.cells = 0 := by rw [hR]
  have hRs : F.R.slots = 0 := by rw [hR]
  have hRl : F.R.locals = 93 := by rw [hR]
  have ct83 : Cond.constantLong RX4 83 (12346) ∈ wsX4_takeMark := by decide +kernel
  have ct88 : Cond.constantLong RX4 88 (65535) ∈ wsX4_takeMark := by decide +kernel
  have ct90 : Cond.constantLong RX4 90 (12347) ∈ wsX4_takeMark := by decide +kernel
  have hbr : br ≠ rd := fun q => by have := hb.1.2.1; rw [q, hrK] at this; exact absurd this (by decide)
  have hpe : 0 ≤ e := Nat.zero_le _
  refine g_aload_n Z dX4_takeMark_0 rfl ?_
  refine g_iconst (v := 4) Z dX4_takeMark_1 (by decide) ?_
  refine g_cvI Z (f_X4_isThere F.l F.D F.cy F.nw S rd 0 e hrL hrK hrp hre hpe he6 4 (by decide)) 1 gX4_takeMark_X4_isThere rfl (by decide +kernel) (by rw [hRf, hRl]; decide) (by exact hrL) (κ := 4) (by exact hrK) rfl (by decide) rfl rfl (Nat.le_of_ble_eq_true rfl) dX4_takeMark_2 (by rw [hRc, hRs]; omega) (fun r1 T1 hp => ?_)
  have hpT := hp
  refine g_if_ne Z 10 dX4_takeMark_5 (by decide) (fun h5 => ?_) (fun h5 => ?_)
  · obtain ⟨hp2, -, rfl⟩ : 0 + 4 ≤ e ∧ r1 = 1 ∧ S = T1 := by
      rcases hpT with hh | hh
      · exact ⟨hh.1, hh.2.1, hh.2.2.symm⟩
      · exact absurd hh.2.1 h5
    have hlt : nuB B 0 4 < 2 ^ 32 := nuB_lt 4 (fun i hi => (hb.2 (0 + i) (by omega)).1)
    have hp4 : 4 ≤ e := by omega
    refine g_aload_n Z dX4_takeMark_10 rfl ?_
    refine g_aload_n Z dX4_takeMark_11 rfl ?_
    refine g_iconst (v := 4) Z dX4_takeMark_12 (by decide) ?_
    refine g_cvL Z (f_X4_take F.l F.D F.cy F.nw S rd 0 hrL hrK hrp br h n u B hb 4 (by decide) (by omega)) 2 gX4_takeMark_X4_take rfl (by decide +kernel) (by rw [hRf, hRl]; decide) (by exact hrL) (κ := 4) (by exact hrK) rfl (by decide) rfl rfl (Nat.le_of_ble_eq_true rfl) dX4_takeMark_13 (by rw [hRc, hRs]; omega) (fun r2 T2 hq2 => ?_)
    obtain ⟨rfl, rfl⟩ := hq2
    generalize hT : nuB B 0 4 = t4 at hlt ⊢
    rw [E8_of]
    refine g_lstore_n Z dX4_takeMark_16 (by decide) ?_
    refine g_lload_n Z dX4_takeMark_17 rfl ?_
    refine g_ldc2 (v := 12346) Z dX4_takeMark_18 ct83 ?_
    refine g_lcmp Z dX4_takeMark_21 ?_
    refine g_if_ne Z 31 dX4_takeMark_22 (by decide) (fun h22 => ?_) (fun h22 => ?_)
    · have hm1 : ¬ t4 = 12346 := fun q => h22 (lc_eq.mpr (by rw [q]; rfl))
      refine g_lload_n Z dX4_takeMark_31 rfl ?_
      refine g_ldc2 (v := 65535) Z dX4_takeMark_32 ct88 ?_
      refine g_land Z dX4_takeMark_35 ?_
      rw [show lN (t4) &&& 65535 = lN (t4 % 2 ^ 16) from wb_mask (k := 16) (by omega) (by decide)]
      refine g_ldc2 (v := 12347) Z dX4_takeMark_36 ct90 ?_
      refine g_lcmp Z dX4_takeMark_39 ?_
      refine g_if_eq Z 50 dX4_takeMark_40 (by decide) (fun h40 => ?_) (fun h40 => ?_)
      · have hm2 : t4 % 65536 = 12347 := lN_jj (by omega) (by decide) (lc_eq.mp h40)
        refine g_aload_n Z dX4_takeMark_50 rfl ?_
        refine g_aload_n Z dX4_takeMark_51 rfl ?_
        refine g_lload_n Z dX4_takeMark_52 rfl ?_
        refine g_bipush (v := 16) Z dX4_takeMark_53 (by decide) ?_
        refine g_lushr Z dX4_takeMark_55 ?_
        refine g_l2i Z dX4_takeMark_56 ?_
        refine g_iconst (v := 1) Z dX4_takeMark_57 (by decide) ?_
        refine g_iadd Z dX4_takeMark_58 ?_
        rw [mark16 hlt]
        refine g_cvI Z (f_X4_takeRunBits F.l F.D F.cy F.nw (E8 S rd (va_up (S.fi rd) 2 (nI (0 + 4)))) rd e hrL hrK ((congrFun (E8_fi S rd (va_up (S.fi rd) 2 (nI (0 + 4)))) 3).trans hre) he6 br h n u B (E8_by hbr hb) heu (congrFun (E8_fi S rd (va_up (S.fi rd) 2 (nI (0 + 4)))) 2) hp4 ((congrFun (E8_fi S rd (va_up (S.fi rd) 2 (nI (0 + 4)))) 5).trans h50) (t4 / 2 ^ 16 + 1) (by omega)) 2 gX4_takeMark_X4_takeRunBits rfl (by decide +kernel) (by rw [hRf, hRl]; decide) (by exact hrL) (κ := 4) (by exact hrK) rfl (by decide) rfl rfl (Nat.le_of_ble_eq_true rfl) dX4_takeMark_59 (by rw [hRc, hRs]; omega) (fun r3 T3 hq3 => ?_)
        exact g_zret Z dX4_takeMark_62 (nar01 hq3.r) (by omega) (by omega) (by rw [show rdMk B e = rdRb B e (t4 / 65536 + 1) by unfold rdMk; rw [hT, if_pos hp4, if_neg hm1, if_pos hm2]]; exact hq3.up (va_up_ne _ _ (by decide)) (va_up_ne _ _ (by decide)) (va_up_ne _ _ (by decide)) (va_up_ne _ _ (by decide)))
      · have hm2 : ¬ t4 % 65536 = 12347 := fun q => h40 (lc_eq.mpr (by rw [show (2 : Nat) ^ 16 = 65536 from rfl, q]; rfl))
        refine g_aload_n Z dX4_takeMark_43 rfl ?_
        refine g_iconst (v := 2) Z dX4_takeMark_44 (by decide) ?_
        refine g_iconst (v := 0) Z dX4_takeMark_45 (by decide) ?_
        refine g_cvI Z (f_X4_tellFault F.l F.D F.cy F.nw (E8 S rd (va_up (S.fi rd) 2 (nI (0 + 4)))) rd hrL hrK _ _) 2 gX4_takeMark_X4_tellFault rfl (by decide +kernel) (by rw [hRf, hRl]; decide) (by exact hrL) (κ := 4) (by exact hrK) rfl (by decide) rfl rfl (Nat.le_of_ble_eq_true rfl) dX4_takeMark_46 (by rw [hRc, hRs]; omega) (fun r3 T3 hq3 => ?_)
        obtain ⟨rfl, rfl⟩ := hq3
        rw [E8_set, E8_set]
        exact g_zret Z dX4_takeMark_49 (by rfl) (by omega) (by omega) (by rw [show rdMk B e = Sum.inl (2, 0) by unfold rdMk; rw [hT, if_pos hp4, if_neg hm1, if_neg hm2]]; exact ⟨rfl, _, rfl, (va_up_ne _ _ (by decide)).trans (va_up_self _ _ _), va_up_self _ _ _⟩)
    · have hm1 : t4 = 12346 := lN_jj (by omega) (by decide) (lc_eq.mp h22)
      refine g_aload_n Z dX4_takeMark_25 rfl ?_
      refine g_aload_n Z dX4_takeMark_26 rfl ?_
      refine g_cvI Z (f_X4_takePlainTotal F.l F.D F.cy F.nw (E8 S rd (va_up (S.fi rd) 2 (nI (0 + 4)))) rd e hrL hrK ((congrFun (E8_fi S rd (va_up (S.fi rd) 2 (nI (0 + 4)))) 3).trans hre) he6 br h n u B (E8_by hbr hb) heu (congrFun (E8_fi S rd (va_up (S.fi rd) 2 (nI (0 + 4)))) 2) hp4 ((congrFun (E8_fi S rd (va_up (S.fi rd) 2 (nI (0 + 4)))) 6).trans h60)) 1 gX4_takeMark_X4_takePlainTotal rfl (by decide +kernel) (by rw [hRf, hRl]; decide) (by exact hrL) (κ := 4) (by exact hrK) rfl (by decide) rfl rfl (Nat.le_of_ble_eq_true rfl) dX4_takeMark_27 (by rw [hRc, hRs]; omega) (fun r3 T3 hq3 => ?_)
      exact g_zret Z dX4_takeMark_30 (nar01 hq3.r) (by omega) (by omega) (by rw [show rdMk B e = rdPt B e by unfold rdMk; rw [hT, if_pos hp4, if_pos hm1]]; exact hq3.up (va_up_ne _ _ (by decide)) (va_up_ne _ _ (by decide)) (va_up_ne _ _ (by decide)) (va_up_ne _ _ (by decide)))
  · obtain ⟨hp2, -, rfl⟩ : ¬ 0 + 4 ≤ e ∧ r1 = 0 ∧ T1 = (S.setI rd 0 1).setI rd 1 (nI e) := by
      rcases hpT with hh | hh
      · rw [hh.2.1] at h5; exact absurd h5 (by decide)
      · exact hh
    refine g_iconst (v := 0) Z dX4_takeMark_8 (by decide) ?_
    exact g_zret Z dX4_takeMark_9 (by rfl) (by omega) (by omega) (by rw [show rdMk B e = Sum.inl (1, e) from if_neg (by omega)]; exact HdP.f)
