theorem FX.saAt {S : PS} {nw x sa pl la br h n u rd rk rt w fa : Nat} {so O : Nat → Nat} {V : Nat → Sv} {B : Nat → Nat} (k : FX S nw x sa pl la br h n u rd rk rt w fa so O V B) : SaAt S nw sa := by
  obtain ⟨⟨-, ⟨k1, k2, k3, k4, -⟩, -⟩, ⟨be, it, C, g, -, -⟩, -⟩ := k
  exact ⟨k1, k2, k3, fun i hi => ⟨so i, k4 i hi, it i, (V i).1, (g i (by omega)).1.at⟩⟩

set_option maxRecDepth 100000 in
set_option maxHeartbeats 2000000 in
/-- whether a number is in a set -/
theorem s_X6_has (l : Launch) (D : va_G) (cy : Nat → ClassId) (nw : Nat) (S : PS) (x sa pl la br h n u rd rk rt w fa : Nat) (so O : Nat → Nat) (V : Nat → Sv) (B : Nat → Nat) (hx : FX S nw x sa pl la br h n u rd rk rt w fa so O V B) (a v : Int32) : kI l yX6_has wsX6_has 2 44 D cy nw [.ref x, .int a, .int v] S (fun _ T => S = T) 0 0 := by
  refine enterI (cc := cX6_has) (nL := 4) (ret := (some .int)) (by decide +kernel) rfl (Nat.le_of_ble_eq_true rfl) ?_
  intro F Z hl hR hD hcy hnw hnm
  subst hl hD hcy hnw
  have hRf : F.R.frames = 2 := by rw [hR]
  have hRc : F.R.cells = 0 := by rw [hR]
  have hRs : F.R.slots = 0 := by rw [hR]
  have hRl : F.R.locals = 44 := by rw [hR]
  have in5 : ∀ w ∈ u_ws RX6 TX6 6, w ∈ wsX6_has := by decide +kernel
  have lk11 : Cond.fieldLink RX6 11 (TX6 0).1 (TX6 0).2.1 (TX6 0).2.2.1 ∈ wsX6_has := by decide +kernel
  have hSa0 := hx.saAt
  obtain ⟨hsaL, hsaK, hsal, hsas⟩ := id hSa0
  obtain ⟨⟨⟨hxL, hxK, -, hsa, -⟩, -⟩, -⟩ := id hx
  refine g_iload_n Z dX6_has_0 rfl ?_
  refine g_csI Z (c_X6_isNoSet F.l F.D F.cy F.nw _ _) 1 gX6_has_X6_isNoSet rfl (by decide +kernel) (by rw [hRf, hRl]; decide) rfl rfl (Nat.le_of_ble_eq_true rfl) dX6_has_1 (by rw [hRc, hRs]; omega) (fun r0 T0 hq0 => ?_)
  obtain ⟨rfl, hi⟩ := hq0
  refine g_if_eq Z 10 dX6_has_4 (by decide) (fun h4 => ?_) (fun h4 => ?_)
  · obtain ⟨j, hj, rfl⟩ := isIx_0 hi h4
    obtain ⟨s, hs, it, us, hss⟩ := hsas j hj
    have hcj : (nI j).toNatClampNeg = j := nI_clamp (by omega)
    have hsL := hss.1
    have hsK := hss.2.1
    refine g_aload_n Z dX6_has_10 rfl ?_
    refine g_getr Z 5 0 rfl (by decide) in5 lk11 dX6_has_11 (by assumption) (by assumption) (by assumption) ?_
    refine g_iload_n Z dX6_has_14 rfl ?_
    refine g_aald11 Z dX6_has_15 (by assumption) (by assumption) (by exact vin_of hsal (by omega) (by decide)) (by rw [hcj]; exact hs) ?_
    refine g_iload_n Z dX6_has_16 rfl ?_
    refine g_csI Z (c_X6_keyOf F.l F.D F.cy F.nw _ _) 1 gX6_has_X6_keyOf rfl (by decide +kernel) (by rw [hRf, hRl]; decide) rfl rfl (Nat.le_of_ble_eq_true rfl) dX6_has_17 (by rw [hRc, hRs]; omega) (fun r1 T1 hq1 => ?_)
    obtain ⟨rfl, rfl⟩ := hq1
    obtain ⟨key, hkey, ekey⟩ := key16 v
    rw [ekey]
    refine g_cvR Z (c_X2_find F.l F.D F.cy F.nw _ s it us hss key hkey) 1 gX6_has_X2_find rfl (by decide +kernel) (by rw [hRf, hRl]; decide) (by assumption) (κ := 2) (by assumption) rfl (by decide) rfl rfl (Nat.le_of_ble_eq_true rfl) dX6_has_20 (by rw [hRc, hRs]; omega) (fun r2 T2 hq2 => ?_)
    obtain ⟨rfl, hr2⟩ := hq2
    rcases hr2 with rfl | ⟨c, rfl, hcr⟩
    · refine g_astore_nN Z dX6_has_23 (by decide) ?_
      refine g_aload_nN Z dX6_has_24 rfl ?_
      refine g_ifnullN Z 43 dX6_has_25 (by decide) ?_
      refine g_iconst (v := 0) Z dX6_has_43 (by decide) ?_
      exact g_iret Z dX6_has_44 (by omega) (by omega) (rfl)
    · refine g_astore_n Z dX6_has_23 (by decide) ?_
      refine g_aload_n Z dX6_has_24 rfl ?_
      refine g_ifnull Z dX6_has_25 ?_
      refine g_aload_n Z dX6_has_28 rfl ?_
      refine g_iload_n Z dX6_has_29 rfl ?_
      refine g_csI Z (c_X6_lowOf F.l F.D F.cy F.nw _ _) 1 gX6_has_X6_lowOf rfl (by decide +kernel) (by rw [hRf, hRl]; decide) rfl rfl (Nat.le_of_ble_eq_true rfl) dX6_has_30 (by rw [hRc, hRs]; omega) (fun r1 T1 hq1 => ?_)
      obtain ⟨rfl, rfl⟩ := hq1
      obtain ⟨low, hlow, elow⟩ := low16 v
      rw [elow]
      refine g_cvI Z (c_X1_holds F.l F.D F.cy F.nw _ c hcr low hlow) 1 gX6_has_X1_holds rfl (by decide +kernel) (by rw [hRf, hRl]; decide) (by exact hcr.1) (κ := 1) (by exact hcr.2.1) rfl (by decide) rfl rfl (Nat.le_of_ble_eq_true rfl) dX6_has_33 (by rw [hRc, hRs]; omega) (fun r3 T3 hq3 => ?_)
      obtain ⟨rfl, -⟩ := hq3
      refine g_if_eq Z 43 dX6_has_36 (by decide) (fun h36 => ?_) (fun h36 => ?_)
      · refine g_iconst (v := 0) Z dX6_has_43 (by decide) ?_
        exact g_iret Z dX6_has_44 (by omega) (by omega) (rfl)
      · refine g_iconst (v := 1) Z dX6_has_39 (by decide) ?_
        refine g_goto Z 44 dX6_has_40 (by decide) ?_
        exact g_iret Z dX6_has_44 (by omega) (by omega) (rfl)
  · refine g_bipush (v := (-2)) Z dX6_has_7 (by decide) ?_
    exact g_iret Z dX6_has_9 (by omega) (by omega) (rfl)

set_option maxRecDepth 100000 in
set_option maxHeartbeats 2000000 in
/-- asked -/
theorem s_X6_rank (l : Launch) (D : va_G) (cy : Nat → ClassId) (nw : Nat) (S : PS) (x sa pl la br h n u rd rk rt w fa : Nat) (so O : Nat → Nat) (V : Nat → Sv) (B : Nat → Nat) (hx : FX S nw x sa pl la br h n u rd rk rt w fa so O V B) (a v : Int32) : kI l yX6_rank wsX6_rank 3 69 D cy nw [.ref x, .int a, .int v] S (fun _ T => S = T) 0 0 := by
  refine enterI (cc := cX6_rank) (nL := 3) (ret := (some .int)) (by decide +kernel) rfl (Nat.le_of_ble_eq_true rfl) ?_
  intro F Z hl hR hD hcy hnw hnm
  subst hl hD hcy hnw
  have hRf : F.R.frames = 3 := by rw [hR]
  have hRc : F.R.cells = 0 := by rw [hR]
  have hRs : F.R.slots = 0 := by rw [hR]
  have hRl : F.R.locals = 69 := by rw [hR]
  have in5 : ∀ w ∈ u_ws RX6 TX6 6, w ∈ wsX6_rank := by decide +kernel
  have lk11 : Cond.fieldLink RX6 11 (TX6 0).1 (TX6 0).2.1 (TX6 0).2.2.1 ∈ wsX6_rank := by decide +kernel
  have hSa0 := hx.saAt
  obtain ⟨hsaL, hsaK, hsal, hsas⟩ := id hSa0
  obtain ⟨⟨⟨hxL, hxK, -, hsa, -⟩, -⟩, -⟩ := id hx
  refine g_iload_n Z dX6_rank_0 rfl ?_
  refine g_csI Z (c_X6_isNoSet F.l F.D F.cy F.nw _ _) 1 gX6_rank_X6_isNoSet rfl (by decide +kernel) (by rw [hRf, hRl]; decide) rfl rfl (Nat.le_of_ble_eq_true rfl) dX6_rank_1 (by rw [hRc, hRs]; omega) (fun r0 T0 hq0 => ?_)
  obtain ⟨rfl, hi⟩ := hq0
  refine g_if_eq Z 12 dX6_rank_4 (by decide) (fun h4 => ?_) (fun h4 => ?_)
  · obtain ⟨j, hj, rfl⟩ := isIx_0 hi h4
    obtain ⟨s, hs, it, us, hss⟩ := hsas j hj
    have hcj : (nI j).toNatClampNeg = j := nI_clamp (by omega)
    have hsL := hss.1
    have hsK := hss.2.1
    refine g_aload_n Z dX6_rank_12 rfl ?_
    refine g_getr Z 5 0 rfl (by decide) in5 lk11 dX6_rank_13 (by assumption) (by assumption) (by assumption) ?_
    refine g_iload_n Z dX6_rank_16 rfl ?_
    refine g_aald11 Z dX6_rank_17 (by assumption) (by assumption) (by exact vin_of hsal (by omega) (by decide)) (by rw [hcj]; exact hs) ?_
    refine g_iload_n Z dX6_rank_18 rfl ?_
    refine g_csI Z (c_X6_keyOf F.l F.D F.cy F.nw _ _) 1 gX6_rank_X6_keyOf rfl (by decide +kernel) (by rw [hRf, hRl]; decide) rfl rfl (Nat.le_of_ble_eq_true rfl) dX6_rank_19 (by rw [hRc, hRs]; omega) (fun r1 T1 hq1 => ?_)
    obtain ⟨rfl, rfl⟩ := hq1
    obtain ⟨key, hkey, ekey⟩ := key16 v
    rw [ekey]
    refine g_iload_n Z dX6_rank_22 rfl ?_
    refine g_csI Z (c_X6_lowOf F.l F.D F.cy F.nw _ _) 1 gX6_rank_X6_lowOf rfl (by decide +kernel) (by rw [hRf, hRl]; decide) rfl rfl (Nat.le_of_ble_eq_true rfl) dX6_rank_23 (by rw [hRc, hRs]; omega) (fun r1 T1 hq1 => ?_)
    obtain ⟨rfl, rfl⟩ := hq1
    obtain ⟨low, hlow, elow⟩ := low16 v
    rw [elow]
    refine g_cvI Z (c_X2_totalUpTo F.l F.D F.cy F.nw _ s it us hss _ low hlow) 2 gX6_rank_X2_totalUpTo rfl (by decide +kernel) (by rw [hRf, hRl]; decide) (by assumption) (κ := 2) (by assumption) rfl (by decide) rfl rfl (Nat.le_of_ble_eq_true rfl) dX6_rank_26 (by rw [hRc, hRs]; omega) (fun r3 T3 hq3 => ?_)
    obtain rfl := hq3
    exact g_iret Z dX6_rank_29 (by omega) (by omega) (rfl)
  · refine g_bipush (v := (-2)) Z dX6_rank_7 (by decide) ?_
    refine g_goto Z 29 dX6_rank_9 (by decide) ?_
    exact g_iret Z dX6_rank_29 (by omega) (by omega) (rfl)

set_option maxRecDepth 100000 in
set_option maxHeartbeats 2000000 in
/-- asked -/
theorem s_X6_next (l : Launch) (D : va_G) (cy : Nat → ClassId) (nw : Nat) (S : PS) (x sa pl la br h n u rd rk rt w fa : Nat) (so O : Nat → Nat) (V : Nat → Sv) (B : Nat → Nat) (hx : FX S nw x sa pl la br h n u rd rk rt w fa so O V B) (a v : Int32) : kL l yX6_next wsX6_next 5 115 D cy nw [.ref x, .int a, .int v] S (fun _ T => S = T) 0 0 := by
  refine enterL (cc := cX6_next) (nL := 3) (ret := (some .long)) (by decide +kernel) rfl (Nat.le_of_ble_eq_true rfl) ?_
  intro F Z hl hR hD hcy hnw hnm
  subst hl hD hcy hnw
  have hRf : F.R.frames = 5 := by rw [hR]
  have hRc : F.R.cells = 0 := by rw [hR]
  have hRs : F.R.slots = 0 := by rw [hR]
  have hRl : F.R.locals = 115 := by rw [hR]
  have in5 : ∀ w ∈ u_ws RX6 TX6 6, w ∈ wsX6_next := by decide +kernel
  have lk11 : Cond.fieldLink RX6 11 (TX6 0).1 (TX6 0).2.1 (TX6 0).2.2.1 ∈ wsX6_next := by decide +kernel
  have ct115 : Cond.constantLong RX6 115 (-2) ∈ wsX6_next := by decide +kernel
  have hSa0 := hx.saAt
  obtain ⟨hsaL, hsaK, hsal, hsas⟩ := id hSa0
  obtain ⟨⟨⟨hxL, hxK, -, hsa, -⟩, -⟩, -⟩ := id hx
  refine g_iload_n Z dX6_next_0 rfl ?_
  refine g_csI Z (c_X6_isNoSet F.l F.D F.cy F.nw _ _) 1 gX6_next_X6_isNoSet rfl (by decide +kernel) (by rw [hRf, hRl]; decide) rfl rfl (Nat.le_of_ble_eq_true rfl) dX6_next_1 (by rw [hRc, hRs]; omega) (fun r0 T0 hq0 => ?_)
  obtain ⟨rfl, hi⟩ := hq0
  refine g_if_eq Z 13 dX6_next_4 (by decide) (fun h4 => ?_) (fun h4 => ?_)
  · obtain ⟨j, hj, rfl⟩ := isIx_0 hi h4
    obtain ⟨s, hs, it, us, hss⟩ := hsas j hj
    have hcj : (nI j).toNatClampNeg = j := nI_clamp (by omega)
    have hsL := hss.1
    have hsK := hss.2.1
    refine g_aload_n Z dX6_next_13 rfl ?_
    refine g_getr Z 5 0 rfl (by decide) in5 lk11 dX6_next_14 (by assumption) (by assumption) (by assumption) ?_
    refine g_iload_n Z dX6_next_17 rfl ?_
    refine g_aald11 Z dX6_next_18 (by assumption) (by assumption) (by exact vin_of hsal (by omega) (by decide)) (by rw [hcj]; exact hs) ?_
    refine g_iload_n Z dX6_next_19 rfl ?_
    refine g_csI Z (c_X6_keyOf F.l F.D F.cy F.nw _ _) 1 gX6_next_X6_keyOf rfl (by decide +kernel) (by rw [hRf, hRl]; decide) rfl rfl (Nat.le_of_ble_eq_true rfl) dX6_next_20 (by rw [hRc, hRs]; omega) (fun r1 T1 hq1 => ?_)
    obtain ⟨rfl, rfl⟩ := hq1
    obtain ⟨key, hkey, ekey⟩ := key16 v
    rw [ekey]
    refine g_iload_n Z dX6_next_23 rfl ?_
    refine g_csI Z (c_X6_lowOf F.l F.D F.cy F.nw _ _) 1 gX6_next_X6_lowOf rfl (by decide +kernel) (by rw [hRf, hRl]; decide) rfl rfl (Nat.le_of_ble_eq_true rfl) dX6_next_24 (by rw [hRc, hRs]; omega) (fun r1 T1 hq1 => ?_)
    obtain ⟨rfl, rfl⟩ := hq1
    obtain ⟨low, hlow, elow⟩ := low16 v
    rw [elow]
    refine g_cvL Z (c_X2_firstFrom F.l F.D F.cy F.nw _ s it us hss _ low hlow) 2 gX6_next_X2_firstFrom rfl (by decide +kernel) (by rw [hRf, hRl]; decide) (by assumption) (κ := 2) (by assumption) rfl (by decide) rfl rfl (Nat.le_of_ble_eq_true rfl) dX6_next_27 (by rw [hRc, hRs]; omega) (fun r3 T3 hq3 => ?_)
    obtain rfl := hq3
    exact g_lret Z dX6_next_30 (by omega) (by omega) (rfl)
  · refine g_ldc2 (v := -2) Z dX6_next_7 ct115 ?_
    refine g_goto Z 30 dX6_next_10 (by decide) ?_
    exact g_lret Z dX6_next_30 (by omega) (by omega) (rfl)

set_option maxRecDepth 100000 in
set_option maxHeartbeats 2000000 in
/-- asked -/
theorem s_X6_select (l : Launch) (D : va_G) (cy : Nat → ClassId) (nw : Nat) (S : PS) (x sa pl la br h n u rd rk rt w fa : Nat) (so O : Nat → Nat) (V : Nat → Sv) (B : Nat → Nat) (hx : FX S nw x sa pl la br h n u rd rk rt w fa so O V B) (a v : Int32) : kL l yX6_select wsX6_select 4 93 D cy nw [.ref x, .int a, .int v] S (fun _ T => S = T) 0 0 := by
  refine enterL (cc := cX6_select) (nL := 3) (ret := (some .long)) (by decide +kernel) rfl (Nat.le_of_ble_eq_true rfl) ?_
  intro F Z hl hR hD hcy hnw hnm
  subst hl hD hcy hnw
  have hRf : F.R.frames = 4 := by rw [hR]
  have hRc : F.R.cells = 0 := by rw [hR]
  have hRs : F.R.slots = 0 := by rw [hR]
  have hRl : F.R.locals = 93 := by rw [hR]
  have in5 : ∀ w ∈ u_ws RX6 TX6 6, w ∈ wsX6_select := by decide +kernel
  have lk11 : Cond.fieldLink RX6 11 (TX6 0).1 (TX6 0).2.1 (TX6 0).2.2.1 ∈ wsX6_select := by decide +kernel
  have ct115 : Cond.constantLong RX6 115 (-2) ∈ wsX6_select := by decide +kernel
  have hSa0 := hx.saAt
  obtain ⟨hsaL, hsaK, hsal, hsas⟩ := id hSa0
  obtain ⟨⟨⟨hxL, hxK, -, hsa, -⟩, -⟩, -⟩ := id hx
  refine g_iload_n Z dX6_select_0 rfl ?_
  refine g_csI Z (c_X6_isNoSet F.l F.D F.cy F.nw _ _) 1 gX6_select_X6_isNoSet rfl (by decide +kernel) (by rw [hRf, hRl]; decide) rfl rfl (Nat.le_of_ble_eq_true rfl) dX6_select_1 (by rw [hRc, hRs]; omega) (fun r0 T0 hq0 => ?_)
  obtain ⟨rfl, hi⟩ := hq0
  refine g_if_ne Z 11 dX6_select_4 (by decide) (fun h4 => ?_) (fun h4 => ?_)
  · refine g_ldc2 (v := -2) Z dX6_select_11 ct115 ?_
    refine g_goto Z 27 dX6_select_14 (by decide) ?_
    exact g_lret Z dX6_select_27 (by omega) (by omega) (rfl)
  · obtain ⟨j, hj, rfl⟩ := isIx_0 hi h4
    obtain ⟨s, hs, it, us, hss⟩ := hsas j hj
    have hcj : (nI j).toNatClampNeg = j := nI_clamp (by omega)
    have hsL := hss.1
    have hsK := hss.2.1
    refine g_iload_n Z dX6_select_7 rfl ?_
    refine g_if_ge Z 17 dX6_select_8 (by decide) (fun h8 => ?_) (fun h8 => ?_)
    · refine g_aload_n Z dX6_select_17 rfl ?_
      refine g_getr Z 5 0 rfl (by decide) in5 lk11 dX6_select_18 (by assumption) (by assumption) (by assumption) ?_
      refine g_iload_n Z dX6_select_21 rfl ?_
      refine g_aald11 Z dX6_select_22 (by assumption) (by assumption) (by exact vin_of hsal (by omega) (by decide)) (by rw [hcj]; exact hs) ?_
      refine g_iload_n Z dX6_select_23 rfl ?_
      refine g_cvL Z (c_X2_numberAt F.l F.D F.cy F.nw _ s it us hss _) 1 gX6_select_X2_numberAt rfl (by decide +kernel) (by rw [hRf, hRl]; decide) (by assumption) (κ := 2) (by assumption) rfl (by decide) rfl rfl (Nat.le_of_ble_eq_true rfl) dX6_select_24 (by rw [hRc, hRs]; omega) (fun r3 T3 hq3 => ?_)
      obtain rfl := hq3
      exact g_lret Z dX6_select_27 (by omega) (by omega) (rfl)
    · refine g_ldc2 (v := -2) Z dX6_select_11 ct115 ?_
      refine g_goto Z 27 dX6_select_14 (by decide) ?_
      exact g_lret Z dX6_select_27 (by omega) (by omega) (rfl)

set_option maxRecDepth 100000 in
set_option maxHeartbeats 2000000 in
/-- asked -/
theorem s_X6_count (l : Launch) (D : va_G) (cy : Nat → ClassId) (nw : Nat) (S : PS) (x sa pl la br h n u rd rk rt w fa : Nat) (so O : Nat → Nat) (V : Nat → Sv) (B : Nat → Nat) (hx : FX S nw x sa pl la br h n u rd rk rt w fa so O V B) (a v : Int32) : kI l yX6_count wsX6_count 1 23 D cy nw [.ref x, .int a, .int v] S (fun _ T => S = T) 0 0 := by
  refine enterI (cc := cX6_count) (nL := 3) (ret := (some .int)) (by decide +kernel) rfl (Nat.le_of_ble_eq_true rfl) ?_
  intro F Z hl hR hD hcy hnw hnm
  subst hl hD hcy hnw
  have hRf : F.R.frames = 1 := by rw [hR]
  have hRc : F.R.cells = 0 := by rw [hR]
  have hRs : F.R.slots = 0 := by rw [hR]
  have hRl : F.R.locals = 23 := by rw [hR]
  have in2 : ∀ w ∈ u_ws RX2 TX2 2, w ∈ wsX6_count := by decide +kernel
  have in5 : ∀ w ∈ u_ws RX6 TX6 6, w ∈ wsX6_count := by decide +kernel
  have lk11 : Cond.fieldLink RX6 11 (TX6 0).1 (TX6 0).2.1 (TX6 0).2.2.1 ∈ wsX6_count := by decide +kernel
  have lk71 : Cond.fieldLink RX6 71 (TX2 1).1 (TX2 1).2.1 (TX2 1).2.2.1 ∈ wsX6_count := by decide +kernel
  have hSa0 := hx.saAt
  obtain ⟨hsaL, hsaK, hsal, hsas⟩ := id hSa0
  obtain ⟨⟨⟨hxL, hxK, -, hsa, -⟩, -⟩, -⟩ := id hx
  refine g_iload_n Z dX6_count_0 rfl ?_
  refine g_csI Z (c_X6_isNoSet F.l F.D F.cy F.nw _ _) 1 gX6_count_X6_isNoSet rfl (by decide +kernel) (by rw [hRf, hRl]; decide) rfl rfl (Nat.le_of_ble_eq_true rfl) dX6_count_1 (by rw [hRc, hRs]; omega) (fun r0 T0 hq0 => ?_)
  obtain ⟨rfl, hi⟩ := hq0
  refine g_if_eq Z 10 dX6_count_4 (by decide) (fun h4 => ?_) (fun h4 => ?_)
  · obtain ⟨j, hj, rfl⟩ := isIx_0 hi h4
    obtain ⟨s, hs, it, us, hss⟩ := hsas j hj
    have hcj : (nI j).toNatClampNeg = j := nI_clamp (by omega)
    have hsL := hss.1
    have hsK := hss.2.1
    refine g_iload_n Z dX6_count_10 rfl ?_
    by_cases hr : v.toInt < 0 ∨ 4 < v.toInt
    · refine g_tableOut Z 97 dX6_count_11 hr (by decide) ?_
      refine g_bipush (v := (-2)) Z dX6_count_97 (by decide) ?_
      exact g_iret Z dX6_count_99 (by omega) (by omega) (rfl)
    · have hv5 : v.toInt = 0 ∨ v.toInt = 1 ∨ v.toInt = 2 ∨ v.toInt = 3 ∨ v.toInt = 4 := by omega
      rcases hv5 with hv5 | hv5 | hv5 | hv5 | hv5
      · refine g_tableIn Z 44 dX6_count_11 (by omega) (by omega) (by rw [hv5]; rfl) (by decide) ?_
        refine g_aload_n Z dX6_count_44 rfl ?_
        refine g_getr Z 5 0 rfl (by decide) in5 lk11 dX6_count_45 (by assumption) (by assumption) (by assumption) ?_
        refine g_iload_n Z dX6_count_48 rfl ?_
        refine g_aald11 Z dX6_count_49 (by assumption) (by assumption) (by exact vin_of hsal (by omega) (by decide)) (by rw [hcj]; exact hs) ?_
        refine g_cvI Z (c_X2_total F.l F.D F.cy F.nw _ s it us hss) 0 gX6_count_X2_total rfl (by decide +kernel) (by rw [hRf, hRl]; decide) (by assumption) (κ := 2) (by assumption) rfl (by decide) rfl rfl (Nat.le_of_ble_eq_true rfl) dX6_count_50 (by rw [hRc, hRs]; omega) (fun r3 T3 hq3 => ?_)
        obtain rfl := hq3
        exact g_iret Z dX6_count_53 (by omega) (by omega) (rfl)
      · refine g_tableIn Z 54 dX6_count_11 (by omega) (by omega) (by rw [hv5]; rfl) (by decide) ?_
        refine g_aload_n Z dX6_count_54 rfl ?_
        refine g_getr Z 5 0 rfl (by decide) in5 lk11 dX6_count_55 (by assumption) (by assumption) (by assumption) ?_
        refine g_iload_n Z dX6_count_58 rfl ?_
        refine g_aald11 Z dX6_count_59 (by assumption) (by assumption) (by exact vin_of hsal (by omega) (by decide)) (by rw [hcj]; exact hs) ?_
        refine g_geti Z 2 1 rfl (by decide) in2 lk71 dX6_count_60 (by assumption) (by assumption) ?_
        exact g_iret Z dX6_count_63 (by omega) (by omega) (rfl)
      · refine g_tableIn Z 64 dX6_count_11 (by omega) (by omega) (by rw [hv5]; rfl) (by decide) ?_
        refine g_aload_n Z dX6_count_64 rfl ?_
        refine g_getr Z 5 0 rfl (by decide) in5 lk11 dX6_count_65 (by assumption) (by assumption) (by assumption) ?_
        refine g_iload_n Z dX6_count_68 rfl ?_
        refine g_aald11 Z dX6_count_69 (by assumption) (by assumption) (by exact vin_of hsal (by omega) (by decide)) (by rw [hcj]; exact hs) ?_
        refine g_iconst (v := 0) Z dX6_count_70 (by decide) ?_
        refine g_cvI Z (c_X2_totalOfKind F.l F.D F.cy F.nw _ s it us hss _) 1 gX6_count_X2_totalOfKind rfl (by decide +kernel) (by rw [hRf, hRl]; decide) (by assumption) (κ := 2) (by assumption) rfl (by decide) rfl rfl (Nat.le_of_ble_eq_true rfl) dX6_count_71 (by rw [hRc, hRs]; omega) (fun r3 T3 hq3 => ?_)
        obtain ⟨rfl, -⟩ := hq3
        exact g_iret Z dX6_count_74 (by omega) (by omega) (rfl)
      · refine g_tableIn Z 75 dX6_count_11 (by omega) (by omega) (by rw [hv5]; rfl) (by decide) ?_
        refine g_aload_n Z dX6_count_75 rfl ?_
        refine g_getr Z 5 0 rfl (by decide) in5 lk11 dX6_count_76 (by assumption) (by assumption) (by assumption) ?_
        refine g_iload_n Z dX6_count_79 rfl ?_
        refine g_aald11 Z dX6_count_80 (by assumption) (by assumption) (by exact vin_of hsal (by omega) (by decide)) (by rw [hcj]; exact hs) ?_
        refine g_iconst (v := 1) Z dX6_count_81 (by decide) ?_
        refine g_cvI Z (c_X2_totalOfKind F.l F.D F.cy F.nw _ s it us hss _) 1 gX6_count_X2_totalOfKind rfl (by decide +kernel) (by rw [hRf, hRl]; decide) (by assumption) (κ := 2) (by assumption) rfl (by decide) rfl rfl (Nat.le_of_ble_eq_true rfl) dX6_count_82 (by rw [hRc, hRs]; omega) (fun r3 T3 hq3 => ?_)
        obtain ⟨rfl, -⟩ := hq3
        exact g_iret Z dX6_count_85 (by omega) (by omega) (rfl)
      · refine g_tableIn Z 86 dX6_count_11 (by omega) (by omega) (by rw [hv5]; rfl) (by decide) ?_
        refine g_aload_n Z dX6_count_86 rfl ?_
        refine g_getr Z 5 0 rfl (by decide) in5 lk11 dX6_count_87 (by assumption) (by assumption) (by assumption) ?_
        refine g_iload_n Z dX6_count_90 rfl ?_
        refine g_aald11 Z dX6_count_91 (by assumption) (by assumption) (by exact vin_of hsal (by omega) (by decide)) (by rw [hcj]; exact hs) ?_
        refine g_iconst (v := 2) Z dX6_count_92 (by decide) ?_
        refine g_cvI Z (c_X2_totalOfKind F.l F.D F.cy F.nw _ s it us hss _) 1 gX6_count_X2_totalOfKind rfl (by decide +kernel) (by rw [hRf, hRl]; decide) (by assumption) (κ := 2) (by assumption) rfl (by decide) rfl rfl (Nat.le_of_ble_eq_true rfl) dX6_count_93 (by rw [hRc, hRs]; omega) (fun r3 T3 hq3 => ?_)
        obtain ⟨rfl, -⟩ := hq3
        exact g_iret Z dX6_count_96 (by omega) (by omega) (rfl)
  · refine g_bipush (v := (-2)) Z dX6_count_7 (by decide) ?_
    exact g_iret Z dX6_count_9 (by omega) (by omega) (rfl)

set_option maxRecDepth 100000 in
set_option maxHeartbeats 2000000 in
/-- asked -/
theorem s_X6_container (l : Launch) (D : va_G) (cy : Nat → ClassId) (nw : Nat) (S : PS) (x sa pl la br h n u rd rk rt w fa : Nat) (so O : Nat → Nat) (V : Nat → Sv) (B : Nat → Nat) (hx : FX S nw x sa pl la br h n u rd rk rt w fa so O V B) (a b v : Int32) : kI l yX6_container wsX6_container 2 47 D cy nw [.ref x, .int a, .int b, .int v] S (fun _ T => S = T) 0 0 := by
  refine enterI (cc := cX6_container) (nL := 5) (ret := (some .int)) (by decide +kernel) rfl (Nat.le_of_ble_eq_true rfl) ?_
  intro F Z hl hR hD hcy hnw hnm
  subst hl hD hcy hnw
  have hRf : F.R.frames = 2 := by rw [hR]
  have hRc : F.R.cells = 0 := by rw [hR]
  have hRs : F.R.slots = 0 := by rw [hR]
  have hRl : F.R.locals = 47 := by rw [hR]
  have in1 : ∀ w ∈ u_ws RX1 TX1 4, w ∈ wsX6_container := by decide +kernel
  have in2 : ∀ w ∈ u_ws RX2 TX2 2, w ∈ wsX6_container := by decide +kernel
  have in5 : ∀ w ∈ u_ws RX6 TX6 6, w ∈ wsX6_container := by decide +kernel
  have lk11 : Cond.fieldLink RX6 11 (TX6 0).1 (TX6 0).2.1 (TX6 0).2.2.1 ∈ wsX6_container := by decide +kernel
  have lk71 : Cond.fieldLink RX6 71 (TX2 1).1 (TX2 1).2.1 (TX2 1).2.2.1 ∈ wsX6_container := by decide +kernel
  have lk125 : Cond.fieldLink RX6 125 (TX2 0).1 (TX2 0).2.1 (TX2 0).2.2.1 ∈ wsX6_container := by decide +kernel
  have lk129 : Cond.fieldLink RX6 129 (TX1 0).1 (TX1 0).2.1 (TX1 0).2.2.1 ∈ wsX6_container := by decide +kernel
  have lk132 : Cond.fieldLink RX6 132 (TX1 1).1 (TX1 1).2.1 (TX1 1).2.2.1 ∈ wsX6_container := by decide +kernel
  have lk135 : Cond.fieldLink RX6 135 (TX1 2).1 (TX1 2).2.1 (TX1 2).2.2.1 ∈ wsX6_container := by decide +kernel
  have hSa0 := hx.saAt
  obtain ⟨hsaL, hsaK, hsal, hsas⟩ := id hSa0
  obtain ⟨⟨⟨hxL, hxK, -, hsa, -⟩, -⟩, -⟩ := id hx
  refine g_iload_n Z dX6_container_0 rfl ?_
  refine g_csI Z (c_X6_isNoSet F.l F.D F.cy F.nw _ _) 1 gX6_container_X6_isNoSet rfl (by decide +kernel) (by rw [hRf, hRl]; decide) rfl rfl (Nat.le_of_ble_eq_true rfl) dX6_container_1 (by rw [hRc, hRs]; omega) (fun r0 T0 hq0 => ?_)
  obtain ⟨rfl, hi⟩ := hq0
  refine g_if_ne Z 24 dX6_container_4 (by decide) (fun h4 => ?_) (fun h4 => ?_)
  · refine g_bipush (v := (-2)) Z dX6_container_24 (by decide) ?_
    exact g_iret Z dX6_container_26 (by omega) (by omega) (rfl)
  · obtain ⟨j, hj, rfl⟩ := isIx_0 hi h4
    obtain ⟨s, hs, it, us, hss⟩ := hsas j hj
    have hcj : (nI j).toNatClampNeg = j := nI_clamp (by omega)
    have hsL := hss.1
    have hsK := hss.2.1
    refine g_iload_n Z dX6_container_7 rfl ?_
    refine g_if_lt Z 24 dX6_container_8 (by decide) (fun h8 => ?_) (fun h8 => ?_)
    · refine g_bipush (v := (-2)) Z dX6_container_24 (by decide) ?_
      exact g_iret Z dX6_container_26 (by omega) (by omega) (rfl)
    · refine g_iload_n Z dX6_container_11 rfl ?_
      refine g_aload_n Z dX6_container_12 rfl ?_
      refine g_getr Z 5 0 rfl (by decide) in5 lk11 dX6_container_13 (by assumption) (by assumption) (by assumption) ?_
      refine g_iload_n Z dX6_container_16 rfl ?_
      refine g_aald11 Z dX6_container_17 (by assumption) (by assumption) (by exact vin_of hsal (by omega) (by decide)) (by rw [hcj]; exact hs) ?_
      refine g_geti Z 2 1 rfl (by decide) in2 lk71 dX6_container_18 (by assumption) (by assumption) ?_
      rw [show S.fi s 1 = nI us from hss.2.2.2.2.2.2.1]
      refine g_icmp_lt Z 27 dX6_container_21 (by decide) (fun h21 => ?_) (fun h21 => ?_)
      · obtain ⟨k, hk, rfl⟩ : ∃ k : Nat, k < us ∧ b = nI k := by
          have hus := hss.2.2.2.2.2.2.2.1
          rcases pk_ix b (n := us) (by omega) with h | h | h
          · exact absurd h h8
          · exact absurd h21 (fun h2 => Int32.lt_irrefl (Int32.lt_of_lt_of_le h2 h))
          · exact h
        obtain ⟨c, hc, hcr⟩ := hss.cr hk
        have hus := hss.2.2.2.2.2.2.2.1
        have hck : (nI k).toNatClampNeg = k := nI_clamp (by omega)
        have hcL := hcr.1
        have hcK := hcr.2.1
        refine g_aload_n Z dX6_container_27 rfl ?_
        refine g_getr Z 5 0 rfl (by decide) in5 lk11 dX6_container_28 (by assumption) (by assumption) (by assumption) ?_
        refine g_iload_n Z dX6_container_31 rfl ?_
        refine g_aald11 Z dX6_container_32 (by assumption) (by assumption) (by exact vin_of hsal (by omega) (by decide)) (by rw [hcj]; exact hs) ?_
        refine g_getr Z 2 0 rfl (by decide) in2 lk125 dX6_container_33 (by exact hss.1) (by exact hss.2.1) (by exact hss.2.2.1) ?_
        refine g_iload_n Z dX6_container_36 rfl ?_
        refine g_aald10 Z dX6_container_37 (by exact hss.2.2.2.1) (by exact hss.2.2.2.2.1) (by exact vin_of hss.2.2.2.2.2.1 (by omega) (by decide)) (by rw [hck]; exact hc) ?_
        refine g_astore Z dX6_container_38 (by decide) ?_
        refine g_iload_n Z dX6_container_40 rfl ?_
        by_cases hr : v.toInt < 0 ∨ 3 < v.toInt
        · refine g_tableOut Z 96 dX6_container_41 hr (by decide) ?_
          refine g_bipush (v := (-2)) Z dX6_container_96 (by decide) ?_
          exact g_iret Z dX6_container_98 (by omega) (by omega) (rfl)
        · have hv5 : v.toInt = 0 ∨ v.toInt = 1 ∨ v.toInt = 2 ∨ v.toInt = 3 := by omega
          rcases hv5 with hv5 | hv5 | hv5 | hv5
          · refine g_tableIn Z 72 dX6_container_41 (by omega) (by omega) (by rw [hv5]; rfl) (by decide) ?_
            refine g_aload Z dX6_container_72 rfl ?_
            refine g_geti Z 1 0 rfl (by decide) in1 lk129 dX6_container_74 (by assumption) (by assumption) ?_
            exact g_iret Z dX6_container_77 (by omega) (by omega) (rfl)
          · refine g_tableIn Z 78 dX6_container_41 (by omega) (by omega) (by rw [hv5]; rfl) (by decide) ?_
            refine g_aload Z dX6_container_78 rfl ?_
            refine g_geti Z 1 1 rfl (by decide) in1 lk132 dX6_container_80 (by assumption) (by assumption) ?_
            exact g_iret Z dX6_container_83 (by omega) (by omega) (rfl)
          · refine g_tableIn Z 84 dX6_container_41 (by omega) (by omega) (by rw [hv5]; rfl) (by decide) ?_
            refine g_aload Z dX6_container_84 rfl ?_
            refine g_geti Z 1 2 rfl (by decide) in1 lk135 dX6_container_86 (by assumption) (by assumption) ?_
            exact g_iret Z dX6_container_89 (by omega) (by omega) (rfl)
          · refine g_tableIn Z 90 dX6_container_41 (by omega) (by omega) (by rw [hv5]; rfl) (by decide) ?_
            refine g_aload Z dX6_container_90 rfl ?_
            refine g_cvI Z (c_X1_totalRuns F.l F.D F.cy F.nw _ c hcr) 0 gX6_container_X1_totalRuns rfl (by decide +kernel) (by rw [hRf, hRl]; decide) (by assumption) (κ := 1) (by assumption) rfl (by decide) rfl rfl (Nat.le_of_ble_eq_true rfl) dX6_container_92 (by rw [hRc, hRs]; omega) (fun r3 T3 hq3 => ?_)
            obtain ⟨rfl, -⟩ := hq3
            exact g_iret Z dX6_container_95 (by omega) (by omega) (rfl)
      · refine g_bipush (v := (-2)) Z dX6_container_24 (by decide) ?_
        exact g_iret Z dX6_container_26 (by omega) (by omega) (rfl)

set_option maxRecDepth 100000 in
set_option maxHeartbeats 2000000 in
/-- asked -/
theorem s_X6_compare (l : Launch) (D : va_G) (cy : Nat → ClassId) (nw : Nat) (S : PS) (x sa pl la br h n u rd rk rt w fa : Nat) (so O : Nat → Nat) (V : Nat → Sv) (B : Nat → Nat) (hx : FX S nw x sa pl la br h n u rd rk rt w fa so O V B) (a b : Int32) : kI l yX6_compare wsX6_compare 3 67 D cy nw [.ref x, .int a, .int b] S (fun _ T => S = T) 0 0 := by
  refine enterI (cc := cX6_compare) (nL := 5) (ret := (some .int)) (by decide +kernel) rfl (Nat.le_of_ble_eq_true rfl) ?_
  intro F Z hl hR hD hcy hnw hnm
  subst hl hD hcy hnw
  have hRf : F.R.frames = 3 := by rw [hR]
  have hRc : F.R.cells = 0 := by rw [hR]
  have hRs : F.R.slots = 0 := by rw [hR]
  have hRl : F.R.locals = 67 := by rw [hR]
  have in5 : ∀ w ∈ u_ws RX6 TX6 6, w ∈ wsX6_compare := by decide +kernel
  have lk11 : Cond.fieldLink RX6 11 (TX6 0).1 (TX6 0).2.1 (TX6 0).2.2.1 ∈ wsX6_compare := by decide +kernel
  have hSa0 := hx.saAt
  obtain ⟨hsaL, hsaK, hsal, hsas⟩ := id hSa0
  obtain ⟨⟨⟨hxL, hxK, -, hsa, -⟩, -⟩, -⟩ := id hx
  refine g_iload_n Z dX6_compare_0 rfl ?_
  refine g_csI Z (c_X6_isNoSet F.l F.D F.cy F.nw _ _) 1 gX6_compare_X6_isNoSet rfl (by decide +kernel) (by rw [hRf, hRl]; decide) rfl rfl (Nat.le_of_ble_eq_true rfl) dX6_compare_1 (by rw [hRc, hRs]; omega) (fun r0 T0 hq0 => ?_)
  obtain ⟨rfl, hi1⟩ := hq0
  refine g_if_ne Z 14 dX6_compare_4 (by decide) (fun h4 => ?_) (fun h4 => ?_)
  · refine g_bipush (v := (-2)) Z dX6_compare_14 (by decide) ?_
    exact g_iret Z dX6_compare_16 (by omega) (by omega) (rfl)
  · obtain ⟨j, hj, rfl⟩ := isIx_0 hi1 h4
    obtain ⟨s, hs, it, us, hss⟩ := hsas j hj
    have hcj : (nI j).toNatClampNeg = j := nI_clamp (by omega)
    refine g_iload_n Z dX6_compare_7 rfl ?_
    refine g_csI Z (c_X6_isNoSet F.l F.D F.cy F.nw _ _) 1 gX6_compare_X6_isNoSet rfl (by decide +kernel) (by rw [hRf, hRl]; decide) rfl rfl (Nat.le_of_ble_eq_true rfl) dX6_compare_8 (by rw [hRc, hRs]; omega) (fun r0 T0 hq0 => ?_)
    obtain ⟨rfl, hi2⟩ := hq0
    refine g_if_eq Z 17 dX6_compare_11 (by decide) (fun h11 => ?_) (fun h11 => ?_)
    · obtain ⟨k, hk, rfl⟩ := isIx_0 hi2 h11
      obtain ⟨s2, hs2, it2, us2, hss2⟩ := hsas k hk
      have hck : (nI k).toNatClampNeg = k := nI_clamp (by omega)
      refine g_aload_n Z dX6_compare_17 rfl ?_
      refine g_getr Z 5 0 rfl (by decide) in5 lk11 dX6_compare_18 (by assumption) (by assumption) (by assumption) ?_
      refine g_iload_n Z dX6_compare_21 rfl ?_
      refine g_aald11 Z dX6_compare_22 (by assumption) (by assumption) (by exact vin_of hsal (by omega) (by decide)) (by rw [hcj]; exact hs) ?_
      refine g_aload_n Z dX6_compare_23 rfl ?_
      refine g_getr Z 5 0 rfl (by decide) in5 lk11 dX6_compare_24 (by assumption) (by assumption) (by assumption) ?_
      refine g_iload_n Z dX6_compare_27 rfl ?_
      refine g_aald11 Z dX6_compare_28 (by assumption) (by assumption) (by exact vin_of hsal (by omega) (by decide)) (by rw [hck]; exact hs2) ?_
      refine g_cvI Z (c_X2_isInside F.l F.D F.cy F.nw _ s it us s2 it2 us2 hss hss2) 1 gX6_compare_X2_isInside rfl (by decide +kernel) (by rw [hRf, hRl]; decide) (by exact hss.1) (κ := 2) (by exact hss.2.1) rfl (by decide) rfl rfl (Nat.le_of_ble_eq_true rfl) dX6_compare_29 (by rw [hRc, hRs]; omega) (fun r3 T3 hq3 => ?_)
      obtain ⟨rfl, -⟩ := hq3
      refine g_istore_n Z dX6_compare_32 (by decide) ?_
      refine g_aload_n Z dX6_compare_33 rfl ?_
      refine g_getr Z 5 0 rfl (by decide) in5 lk11 dX6_compare_34 (by assumption) (by assumption) (by assumption) ?_
      refine g_iload_n Z dX6_compare_37 rfl ?_
      refine g_aald11 Z dX6_compare_38 (by assumption) (by assumption) (by exact vin_of hsal (by omega) (by decide)) (by rw [hck]; exact hs2) ?_
      refine g_aload_n Z dX6_compare_39 rfl ?_
      refine g_getr Z 5 0 rfl (by decide) in5 lk11 dX6_compare_40 (by assumption) (by assumption) (by assumption) ?_
      refine g_iload_n Z dX6_compare_43 rfl ?_
      refine g_aald11 Z dX6_compare_44 (by assumption) (by assumption) (by exact vin_of hsal (by omega) (by decide)) (by rw [hcj]; exact hs) ?_
      refine g_cvI Z (c_X2_isInside F.l F.D F.cy F.nw _ s2 it2 us2 s it us hss2 hss) 1 gX6_compare_X2_isInside rfl (by decide +kernel) (by rw [hRf, hRl]; decide) (by exact hss2.1) (κ := 2) (by exact hss2.2.1) rfl (by decide) rfl rfl (Nat.le_of_ble_eq_true rfl) dX6_compare_45 (by rw [hRc, hRs]; omega) (fun r3 T3 hq3 => ?_)
      obtain ⟨rfl, -⟩ := hq3
      refine g_istore Z dX6_compare_48 (by decide) ?_
      refine g_iload_n Z dX6_compare_50 rfl ?_
      refine g_if_eq Z 65 dX6_compare_51 (by decide) (fun h51 => ?_) (fun h51 => ?_)
      · refine g_iload Z dX6_compare_65 rfl ?_
        refine g_if_eq Z 72 dX6_compare_67 (by decide) (fun h67 => ?_) (fun h67 => ?_)
        · refine g_aload_n Z dX6_compare_72 rfl ?_
          refine g_getr Z 5 0 rfl (by decide) in5 lk11 dX6_compare_73 (by assumption) (by assumption) (by assumption) ?_
          refine g_iload_n Z dX6_compare_76 rfl ?_
          refine g_aald11 Z dX6_compare_77 (by assumption) (by assumption) (by exact vin_of hsal (by omega) (by decide)) (by rw [hcj]; exact hs) ?_
          refine g_aload_n Z dX6_compare_78 rfl ?_
          refine g_getr Z 5 0 rfl (by decide) in5 lk11 dX6_compare_79 (by assumption) (by assumption) (by assumption) ?_
          refine g_iload_n Z dX6_compare_82 rfl ?_
          refine g_aald11 Z dX6_compare_83 (by assumption) (by assumption) (by exact vin_of hsal (by omega) (by decide)) (by rw [hck]; exact hs2) ?_
          refine g_cvI Z (c_X2_meets F.l F.D F.cy F.nw _ s it us s2 it2 us2 hss hss2) 1 gX6_compare_X2_meets rfl (by decide +kernel) (by rw [hRf, hRl]; decide) (by exact hss.1) (κ := 2) (by exact hss.2.1) rfl (by decide) rfl rfl (Nat.le_of_ble_eq_true rfl) dX6_compare_84 (by rw [hRc, hRs]; omega) (fun r3 T3 hq3 => ?_)
          obtain ⟨rfl, -⟩ := hq3
          refine g_if_eq Z 94 dX6_compare_87 (by decide) (fun h87 => ?_) (fun h87 => ?_)
          · refine g_iconst (v := 0) Z dX6_compare_94 (by decide) ?_
            exact g_iret Z dX6_compare_95 (by omega) (by omega) (rfl)
          · refine g_iconst (v := 1) Z dX6_compare_90 (by decide) ?_
            refine g_goto Z 95 dX6_compare_91 (by decide) ?_
            exact g_iret Z dX6_compare_95 (by omega) (by omega) (rfl)
        · refine g_iconst (v := 4) Z dX6_compare_70 (by decide) ?_
          exact g_iret Z dX6_compare_71 (by omega) (by omega) (rfl)
      · refine g_iload Z dX6_compare_54 rfl ?_
        refine g_if_eq Z 63 dX6_compare_56 (by decide) (fun h56 => ?_) (fun h56 => ?_)
        · refine g_iconst (v := 3) Z dX6_compare_63 (by decide) ?_
          exact g_iret Z dX6_compare_64 (by omega) (by omega) (rfl)
        · refine g_iconst (v := 2) Z dX6_compare_59 (by decide) ?_
          refine g_goto Z 64 dX6_compare_60 (by decide) ?_
          exact g_iret Z dX6_compare_64 (by omega) (by omega) (rfl)
    · refine g_bipush (v := (-2)) Z dX6_compare_14 (by decide) ?_
      exact g_iret Z dX6_compare_16 (by omega) (by omega) (rfl)

