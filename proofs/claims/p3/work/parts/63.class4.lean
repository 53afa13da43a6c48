/-- fewer bytes, all else as it was -/
theorem by_cut {S : PS} {br h n u u2 : Nat} (hb : BytesAt S br h n u) (hu : u2 ≤ n) : BytesAt (S.setI br 1 (nI u2)) br h n u2 ∧ Rl Pb S (S.setI br 1 (nI u2)) := by
  obtain ⟨k1, k2, k3, k4, k5, k6, k7, k8, k9, k10⟩ := hb
  exact ⟨⟨k1, k2, k3, k4, k5, k6, k7, up2_self _ _ _ _, hu, k10⟩, Rl.rf.setI (by rw [k2]; exact Or.inl rfl)⟩
theorem by_alt {S : PS} {br h n u j : Nat} {v : Int32} (hb : BytesAt S br h n u) : BytesAt (S.rowI h (upd (S.ri h) j (vp_nar .byte v))) br h n u ∧ Rl Pb S (S.rowI h (upd (S.ri h) j (vp_nar .byte v))) := by
  obtain ⟨k1, k2, k3, k4, k5, k6, k7, k8, k9, k10⟩ := hb
  refine ⟨⟨k1, k2, k3, k4, k5, k6, k7, k8, k9, ?_⟩, Rl.rf.rowI (by rw [k5]; exact Or.inr rfl)⟩
  show sb_Fit (va_up S.ri h _ h)
  rw [va_up_self]
  exact sb_fitU k10 (bast_fit v)

set_option maxRecDepth 100000 in
set_option maxHeartbeats 2000000 in
/-- a set is written -/
theorem c_X6_write_w (l : Launch) (D : va_G) (cy : Nat → ClassId) (nw : Nat) (S : PS) (x sa sp pl la br h n u rd rk rt w : Nat) (hx : XA S nw x sa sp pl la br h n u rd rk rt w) (j : Nat) (hj : j < 8) (s it us : Nat) (hs : S.rr sa j = some s) (hss : SetAt S nw s it us) (hbo : boF S it us us ≤ 60000) : kI l yX6_write wsX6_write 7 175 D cy nw [.ref x, .int (nI j)] S (fun _ T => ∃ h2, XA T nw x sa sp pl la br h2 (bN n 0 (setK (S.setI br 1 (nI 0)) it us)) (bU 0 (setK (S.setI br 1 (nI 0)) it us)) rd rk rt w) (bG n 0 (setK (S.setI br 1 (nI 0)) it us)) (60000 * bG n 0 (setK (S.setI br 1 (nI 0)) it us)) := by
  refine enterI (cc := cX6_write) (nL := 2) (ret := (some .int)) (by decide +kernel) rfl (Nat.le_of_ble_eq_true rfl) ?_
  intro F Z hl hR hD hcy hnw hnm
  subst hl hD hcy hnw
  have hRf : F.R.frames = 7 := by rw [hR]
  have hRc : F.R.cells = (bG n 0 (setK (S.setI br 1 (nI 0)) it us)) := by rw [hR]
  have hRs : F.R.slots = (60000 * bG n 0 (setK (S.setI br 1 (nI 0)) it us)) := by rw [hR]
  have hRl : F.R.locals = 175 := by rw [hR]
  have in0 : ∀ w ∈ u_ws RX0 TX0 2, w ∈ wsX6_write := by decide +kernel
  have in5 : ∀ w ∈ u_ws RX6 TX6 6, w ∈ wsX6_write := by decide +kernel
  have lk11 : Cond.fieldLink RX6 11 (TX6 0).1 (TX6 0).2.1 (TX6 0).2.2.1 ∈ wsX6_write := by decide +kernel
  have lk30 : Cond.fieldLink RX6 30 (TX6 3).1 (TX6 3).2.1 (TX6 3).2.2.1 ∈ wsX6_write := by decide +kernel
  have lk154 : Cond.fieldLink RX6 154 (TX0 1).1 (TX0 1).2.1 (TX0 1).2.2.1 ∈ wsX6_write := by decide +kernel
  have ct153 : Cond.constant RX6 153 (60000) ∈ wsX6_write := by decide +kernel
  obtain ⟨hxL, hxK, hsa, hsp, hpl, hbr, hrd, hxw, hw3, hSa, hSp, hPl, hB, hR⟩ := id hx
  obtain ⟨hsaL, hsaK, hsal, hsas⟩ := id hSa
  obtain ⟨hbL, hbK, hbh, hhL, hhK, hhl, hn2, hbu, hun, hfit⟩ := id hB
  have hcj : (nI j).toNatClampNeg = j := nI_clamp (by omega)
  obtain ⟨hb1, hR1⟩ := by_cut hB (u2 := 0) (by omega)
  have hss1 := hR1.set nPb1 nPb2 nPb10 hss
  have hx1 := hx.byt hR1 hb1
  obtain ⟨hxL1, hxK1, hsa1, -, -, hbr1, -, -, -, -, -, -, -, -⟩ := id hx1
  refine g_iload_n Z dX6_write_0 rfl ?_
  refine g_csI Z (c_X6_isNoSet F.l F.D F.cy F.nw _ _) 1 gX6_write_X6_isNoSet rfl (by decide +kernel) (by rw [hRf, hRl]; decide) rfl rfl (Nat.le_of_ble_eq_true rfl) dX6_write_1 (by rw [hRc, hRs]; omega) (fun r0 T0 hq0 => ?_)
  obtain ⟨rfl, hi⟩ := hq0
  refine g_if_eq Z 10 dX6_write_4 (by decide) (fun h4 => ?_) (fun h4 => absurd (isIx_y (by decide) hi hj) h4)
  refine g_aload_n Z dX6_write_10 rfl ?_
  refine g_getr Z 5 0 rfl (by decide) in5 lk11 dX6_write_11 (by assumption) (by assumption) (by assumption) ?_
  refine g_iload_n Z dX6_write_14 rfl ?_
  refine g_aald11 Z dX6_write_15 (by assumption) (by assumption) (by exact vin_of hsal (by omega) (by decide)) (by rw [hcj]; exact hs) ?_
  refine g_csI Z (c_X5_bytesOf F.l F.D F.cy F.nw _ s it us hss) 1 gX6_write_X5_bytesOf rfl (by decide +kernel) (by rw [hRf, hRl]; decide) rfl rfl (Nat.le_of_ble_eq_true rfl) dX6_write_16 (by rw [hRc, hRs]; exact ⟨Nat.zero_le _, Nat.zero_le _⟩) (fun r1 T1 hq1 => ?_)
  obtain ⟨rfl, rfl⟩ := hq1
  refine g_ldc (v := 60000) Z dX6_write_19 ct153 ?_
  refine g_icmp_le Z 27 dX6_write_21 (by decide) (fun h21 => ?_) (fun h21 => absurd (hbo) h21)
  refine g_aload_n Z dX6_write_27 rfl ?_
  refine g_getr Z 5 3 rfl (by decide) in5 lk30 dX6_write_28 (by assumption) (by assumption) (by assumption) ?_
  refine g_iconst (v := 0) Z dX6_write_31 (by decide) ?_
  refine g_puti Z 0 1 rfl (by decide) tyX0 tyX0_ok nmX0 rfl in0 lk154 dX6_write_32 rfl rfl (by exact hbL) (by exact hbK) ?_
  refine g_aload_n Z dX6_write_35 rfl ?_
  refine g_getr Z 5 0 rfl (by decide) in5 lk11 dX6_write_36 (by exact hxL1) (by exact hxK1) (by exact hsa1) ?_
  refine g_iload_n Z dX6_write_39 rfl ?_
  refine g_aald11 Z dX6_write_40 (by exact (hR1 sa hsaL).1) (by exact (hR1 sa hsaL).2.1.trans hsaK) (by exact vin_of ((hR1 sa hsaL).2.2.1.trans hsal) (by omega) (by decide)) (by rw [hcj]; exact hs) ?_
  refine g_aload_n Z dX6_write_41 rfl ?_
  refine g_getr Z 5 3 rfl (by decide) in5 lk30 dX6_write_42 (by exact hxL1) (by exact hxK1) (by exact hbr1) ?_
  refine g_csV Z (c_X5_putSet F.l F.D F.cy F.nw _ s it us hss1 br h n 0 hb1) 2 gX6_write_X5_putSet rfl (by decide +kernel) (by rw [hRf, hRl]; decide) rfl rfl (Nat.le_of_ble_eq_true rfl) dX6_write_45 (by rw [hRc, hRs]; exact ⟨Nat.le_of_eq (Nat.zero_add _), Nat.le_of_eq (Nat.zero_add _)⟩) (fun T2 hp => ?_)
  obtain ⟨hR2, h2, hb2⟩ := hp
  have hx2 := hx1.byt hR2 hb2
  obtain ⟨hxL2, hxK2, -, -, -, hbr2, -, -, -, -, -, -, -, -⟩ := id hx2
  refine g_aload_n Z dX6_write_48 rfl ?_
  refine g_getr Z 5 3 rfl (by decide) in5 lk30 dX6_write_49 (by exact hxL2) (by exact hxK2) (by exact hbr2) ?_
  refine g_geti Z 0 1 rfl (by decide) in0 lk154 dX6_write_52 (by exact hb2.1) (by exact hb2.2.1) ?_
  exact g_iret Z dX6_write_55 (by exact Nat.le_of_eq (Nat.zero_add _)) (by exact Nat.le_of_eq (Nat.zero_add _)) (⟨h2, hx2⟩)

set_option maxRecDepth 100000 in
set_option maxHeartbeats 2000000 in
/-- a set that is too long, or none -/
theorem c_X6_write_n (l : Launch) (D : va_G) (cy : Nat → ClassId) (nw : Nat) (S : PS) (x sa sp pl la br h n u rd rk rt w : Nat) (hx : XA S nw x sa sp pl la br h n u rd rk rt w) (a : Int32) (hno : ∀ j s it us : Nat, a = nI j → j < 8 → S.rr sa j = some s → SetAt S nw s it us → ¬ boF S it us us ≤ 60000) : kI l yX6_write wsX6_write 5 106 D cy nw [.ref x, .int a] S (fun _ T => S = T) 0 0 := by
  refine enterI (cc := cX6_write) (nL := 2) (ret := (some .int)) (by decide +kernel) rfl (Nat.le_of_ble_eq_true rfl) ?_
  intro F Z hl hR hD hcy hnw hnm
  subst hl hD hcy hnw
  have hRf : F.R.frames = 5 := by rw [hR]
  have hRc : F.R.cells = 0 := by rw [hR]
  have hRs : F.R.slots = 0 := by rw [hR]
  have hRl : F.R.locals = 106 := by rw [hR]
  have in5 : ∀ w ∈ u_ws RX6 TX6 6, w ∈ wsX6_write := by decide +kernel
  have lk11 : Cond.fieldLink RX6 11 (TX6 0).1 (TX6 0).2.1 (TX6 0).2.2.1 ∈ wsX6_write := by decide +kernel
  have ct153 : Cond.constant RX6 153 (60000) ∈ wsX6_write := by decide +kernel
  obtain ⟨hxL, hxK, hsa, hsp, hpl, hbr, hrd, hxw, hw3, hSa, hSp, hPl, hB, hR⟩ := id hx
  obtain ⟨hsaL, hsaK, hsal, hsas⟩ := id hSa
  refine g_iload_n Z dX6_write_0 rfl ?_
  refine g_csI Z (c_X6_isNoSet F.l F.D F.cy F.nw _ _) 1 gX6_write_X6_isNoSet rfl (by decide +kernel) (by rw [hRf, hRl]; decide) rfl rfl (Nat.le_of_ble_eq_true rfl) dX6_write_1 (by rw [hRc, hRs]; omega) (fun r0 T0 hq0 => ?_)
  obtain ⟨rfl, hi⟩ := hq0
  refine g_if_eq Z 10 dX6_write_4 (by decide) (fun h4 => ?_) (fun h4 => ?_)
  · obtain ⟨j, hj, rfl⟩ := isIx_0 hi h4
    obtain ⟨s, hs, it, us, hss⟩ := hsas j hj
    have hcj : (nI j).toNatClampNeg = j := nI_clamp (by omega)
    have hsL := hss.1
    have hsK := hss.2.1
    refine g_aload_n Z dX6_write_10 rfl ?_
    refine g_getr Z 5 0 rfl (by decide) in5 lk11 dX6_write_11 (by assumption) (by assumption) (by assumption) ?_
    refine g_iload_n Z dX6_write_14 rfl ?_
    refine g_aald11 Z dX6_write_15 (by assumption) (by assumption) (by exact vin_of hsal (by omega) (by decide)) (by rw [hcj]; exact hs) ?_
    refine g_csI Z (c_X5_bytesOf F.l F.D F.cy F.nw _ s it us hss) 1 gX6_write_X5_bytesOf rfl (by decide +kernel) (by rw [hRf, hRl]; decide) rfl rfl (Nat.le_of_ble_eq_true rfl) dX6_write_16 (by rw [hRc, hRs]; omega) (fun r1 T1 hq1 => ?_)
    obtain ⟨rfl, rfl⟩ := hq1
    refine g_ldc (v := 60000) Z dX6_write_19 ct153 ?_
    refine g_icmp_le Z 27 dX6_write_21 (by decide) (fun h21 => ?_) (fun h21 => ?_)
    · exact absurd h21 (hno j s it us rfl hj hs hss)
    · refine g_bipush (v := (-4)) Z dX6_write_24 (by decide) ?_
      exact g_iret Z dX6_write_26 (by omega) (by omega) (rfl)
  · refine g_bipush (v := (-2)) Z dX6_write_7 (by decide) ?_
    exact g_iret Z dX6_write_9 (by omega) (by omega) (rfl)

set_option maxRecDepth 100000 in
set_option maxHeartbeats 2000000 in
/-- the bytes are read -/
theorem c_X6_read_w (l : Launch) (D : va_G) (cy : Nat → ClassId) (nw : Nat) (S : PS) (x sa sp pl la br h n u rd rk rt w : Nat) (hx : XA S nw x sa sp pl la br h n u rd rk rt w) (jt : Nat) (hjt : jt < 8) (hw1 : 1 ≤ w) : kI l yX6_read wsX6_read 6 145 D cy nw [.ref x, .int (nI jt)] S (fun _ T => XA T nw x sa sp pl la br h n u rd rk rt (w - 1)) 6 6144 := by
  refine enterI (cc := cX6_read) (nL := 2) (ret := (some .int)) (by decide +kernel) rfl (Nat.le_of_ble_eq_true rfl) ?_
  intro F Z hl hR hD hcy hnw hnm
  subst hl hD hcy hnw
  have hRf : F.R.frames = 6 := by rw [hR]
  have hRc : F.R.cells = 6 := by rw [hR]
  have hRs : F.R.slots = 6144 := by rw [hR]
  have hRl : F.R.locals = 145 := by rw [hR]
  have in4 : ∀ w ∈ u_ws RX4 TX4 10, w ∈ wsX6_read := by decide +kernel
  have in5 : ∀ w ∈ u_ws RX6 TX6 6, w ∈ wsX6_read := by decide +kernel
  have lk11 : Cond.fieldLink RX6 11 (TX6 0).1 (TX6 0).2.1 (TX6 0).2.2.1 ∈ wsX6_read := by decide +kernel
  have lk16 : Cond.fieldLink RX6 16 (TX6 1).1 (TX6 1).2.1 (TX6 1).2.2.1 ∈ wsX6_read := by decide +kernel
  have lk30 : Cond.fieldLink RX6 30 (TX6 3).1 (TX6 3).2.1 (TX6 3).2.2.1 ∈ wsX6_read := by decide +kernel
  have lk37 : Cond.fieldLink RX6 37 (TX6 4).1 (TX6 4).2.1 (TX6 4).2.2.1 ∈ wsX6_read := by decide +kernel
  have lk163 : Cond.fieldLink RX6 163 (TX4 1).1 (TX4 1).2.1 (TX4 1).2.2.1 ∈ wsX6_read := by decide +kernel
  obtain ⟨hxL, hxK, hsa, hsp, hpl, hbr, hrd, hxw, hw3, hSa, hSp, hPl, hB, hR⟩ := id hx
  obtain ⟨hsaL, hsaK, hsal, hsas⟩ := id hSa
  have hct : (nI jt).toNatClampNeg = jt := nI_clamp (by omega)
  refine g_iload_n Z dX6_read_0 rfl ?_
  refine g_csI Z (c_X6_isNoSet F.l F.D F.cy F.nw _ _) 1 gX6_read_X6_isNoSet rfl (by decide +kernel) (by rw [hRf, hRl]; decide) rfl rfl (Nat.le_of_ble_eq_true rfl) dX6_read_1 (by rw [hRc, hRs]; omega) (fun r0 T0 hq0 => ?_)
  obtain ⟨rfl, hi1⟩ := hq0
  refine g_if_eq Z 10 dX6_read_4 (by decide) (fun h4 => ?_) (fun h4 => absurd (isIx_y (by decide) hi1 hjt) h4)
  refine g_aload_n Z dX6_read_10 rfl ?_
  refine g_iconst (v := 1) Z dX6_read_11 (by decide) ?_
  refine g_cvI Z (c_X6_takeWork F.l F.D F.cy F.nw _ x sa sp pl la br h n u rd rk rt w hx 1 (by omega)) 1 gX6_read_X6_takeWork rfl (by decide +kernel) (by rw [hRf, hRl]; decide) (by assumption) (κ := 5) (by assumption) rfl (by decide) rfl rfl (Nat.le_of_ble_eq_true rfl) dX6_read_12 (by rw [hRc, hRs]; omega) (fun r1 T1 hq1 => ?_)
  refine g_if_ne Z 21 dX6_read_15 (by decide) (fun h15 => ?_) (fun h15 => ?_)
  · obtain rfl : T1 = S.setI x 5 (nI (w - 1)) := by
      rcases hq1 with ⟨-, -, h3⟩ | ⟨h1, -⟩
      · exact h3
      · exact absurd h1 h15
    have hx1 := hx.work (w2 := w - 1) (by omega)
    generalize S.setI x 5 (nI (w - 1)) = T1 at hx1 ⊢
    obtain ⟨hxL1, hxK1, hsa1, hsp1, hpl1, hbr1, hrd1, -, -, hSa1, hSp1, hPl1, hB1, hR1⟩ := id hx1
    obtain ⟨hsaL1, hsaK1, hsal1, hsas1⟩ := id hSa1
    obtain ⟨is1, us1, hsp2⟩ := id hSp1
    refine g_aload_n Z dX6_read_21 rfl ?_
    refine g_getr Z 5 4 rfl (by decide) in5 lk37 dX6_read_22 (by assumption) (by assumption) (by assumption) ?_
    refine g_aload_n Z dX6_read_25 rfl ?_
    refine g_getr Z 5 3 rfl (by decide) in5 lk30 dX6_read_26 (by assumption) (by assumption) (by assumption) ?_
    refine g_aload_n Z dX6_read_29 rfl ?_
    refine g_getr Z 5 1 rfl (by decide) in5 lk16 dX6_read_30 (by assumption) (by assumption) (by assumption) ?_
    refine g_cvI Z (c_X4_takeSet F.l F.D F.cy F.nw _ rd rk rt hR1 br h n u hB1 sp is1 us1 hsp2) 2 gX6_read_X4_takeSet rfl (by decide +kernel) (by rw [hRf, hRl]; decide) (by exact hR1.1) (κ := 4) (by exact hR1.2.1) rfl (by decide) rfl rfl (Nat.le_of_ble_eq_true rfl) dX6_read_33 (by rw [hRc, hRs]; omega) (fun r2 T2 hp => ?_)
    obtain ⟨-, hG2, hr2⟩ := hp
    have hx2 := hx1.read hG2 hr2
    obtain ⟨hxL2, hxK2, hsa3, hsp3, -, -, hrd3, -, -, hSa2, hSp2, -, -, hR2⟩ := id hx2
    obtain ⟨hsaL2, hsaK2, hsal2, hsas2⟩ := id hSa2
    obtain ⟨t2, ht2, it2, ut2, hst2⟩ := hsas2 jt hjt
    obtain ⟨is2, us2, hss2⟩ := id hSp2
    refine g_if_ne Z 50 dX6_read_36 (by decide) (fun h36 => ?_) (fun h36 => ?_)
    · refine g_aload_n Z dX6_read_50 rfl ?_
      refine g_getr Z 5 0 rfl (by decide) in5 lk11 dX6_read_51 (by assumption) (by assumption) (by assumption) ?_
      refine g_iload_n Z dX6_read_54 rfl ?_
      refine g_aald11 Z dX6_read_55 (by assumption) (by assumption) (by exact vin_of hsal2 (by omega) (by decide)) (by rw [hct]; exact ht2) ?_
      refine g_aload_n Z dX6_read_56 rfl ?_
      refine g_getr Z 5 1 rfl (by decide) in5 lk16 dX6_read_57 (by assumption) (by assumption) (by assumption) ?_
      refine g_cvV Z (c_X2_exchange F.l F.D F.cy F.nw _ t2 sp it2 is2 ut2 us2 hst2 hss2) 1 gX6_read_X2_exchange rfl (by decide +kernel) (by rw [hRf, hRl]; decide) (by exact hst2.1) (κ := 2) (by exact hst2.2.1) rfl (by decide) rfl rfl (Nat.le_of_ble_eq_true rfl) dX6_read_60 (by rw [hRc, hRs]; omega) (fun T3 hq3 => ?_)
      have hx3 := hx2.es hq3
      obtain ⟨hxL3, hxK3, hsa4, -, -, -, -, -, -, hSa3, -, -, -, -⟩ := id hx3
      obtain ⟨hsaL3, hsaK3, hsal3, hsas3⟩ := id hSa3
      obtain ⟨t3, ht3, it3, ut3, hst3⟩ := hsas3 jt hjt
      refine g_aload_n Z dX6_read_63 rfl ?_
      refine g_getr Z 5 0 rfl (by decide) in5 lk11 dX6_read_64 (by assumption) (by assumption) (by assumption) ?_
      refine g_iload_n Z dX6_read_67 rfl ?_
      refine g_aald11 Z dX6_read_68 (by assumption) (by assumption) (by exact vin_of hsal3 (by omega) (by decide)) (by rw [hct]; exact ht3) ?_
      refine g_cvI Z (c_X2_total F.l F.D F.cy F.nw _ t3 it3 ut3 hst3) 0 gX6_read_X2_total rfl (by decide +kernel) (by rw [hRf, hRl]; decide) (by exact hst3.1) (κ := 2) (by exact hst3.2.1) rfl (by decide) rfl rfl (Nat.le_of_ble_eq_true rfl) dX6_read_69 (by rw [hRc, hRs]; omega) (fun r4 T4 hq4 => ?_)
      obtain rfl := hq4
      exact g_iret Z dX6_read_72 (by omega) (by omega) (hx3)
    · refine g_bipush (v := (-100)) Z dX6_read_39 (by decide) ?_
      refine g_aload_n Z dX6_read_41 rfl ?_
      refine g_getr Z 5 4 rfl (by decide) in5 lk37 dX6_read_42 (by assumption) (by assumption) (by assumption) ?_
      refine g_geti Z 4 1 rfl (by decide) in4 lk163 dX6_read_45 (by exact hR2.1) (by exact hR2.2.1) ?_
      refine g_isub Z dX6_read_48 ?_
      exact g_iret Z dX6_read_49 (by omega) (by omega) (hx2)
  · rcases hq1 with ⟨h1, -⟩ | ⟨-, -, h3⟩
    · rw [h1] at h15; exact absurd h15 (by decide)
    · omega

set_option maxRecDepth 100000 in
set_option maxHeartbeats 2000000 in
/-- a reading that is refused -/
theorem c_X6_read_n (l : Launch) (D : va_G) (cy : Nat → ClassId) (nw : Nat) (S : PS) (x sa sp pl la br h n u rd rk rt w : Nat) (hx : XA S nw x sa sp pl la br h n u rd rk rt w) (a : Int32) (hno : ¬ (isS a ∧ 1 ≤ w)) : kI l yX6_read wsX6_read 1 21 D cy nw [.ref x, .int a] S (fun _ T => S = T) 0 0 := by
  refine enterI (cc := cX6_read) (nL := 2) (ret := (some .int)) (by decide +kernel) rfl (Nat.le_of_ble_eq_true rfl) ?_
  intro F Z hl hR hD hcy hnw hnm
  subst hl hD hcy hnw
  have hRf : F.R.frames = 1 := by rw [hR]
  have hRc : F.R.cells = 0 := by rw [hR]
  have hRs : F.R.slots = 0 := by rw [hR]
  have hRl : F.R.locals = 21 := by rw [hR]
  obtain ⟨hxL, hxK, hsa, hsp, hpl, hbr, hrd, hxw, hw3, hSa, hSp, hPl, hB, hR⟩ := id hx
  obtain ⟨hsaL, hsaK, hsal, hsas⟩ := id hSa
  refine g_iload_n Z dX6_read_0 rfl ?_
  refine g_csI Z (c_X6_isNoSet F.l F.D F.cy F.nw _ _) 1 gX6_read_X6_isNoSet rfl (by decide +kernel) (by rw [hRf, hRl]; decide) rfl rfl (Nat.le_of_ble_eq_true rfl) dX6_read_1 (by rw [hRc, hRs]; omega) (fun r0 T0 hq0 => ?_)
  obtain ⟨rfl, hi1⟩ := hq0
  refine g_if_eq Z 10 dX6_read_4 (by decide) (fun h4 => ?_) (fun h4 => ?_)
  · have it := isIx_0 hi1 h4
    refine g_aload_n Z dX6_read_10 rfl ?_
    refine g_iconst (v := 1) Z dX6_read_11 (by decide) ?_
    refine g_cvI Z (c_X6_takeWork F.l F.D F.cy F.nw _ x sa sp pl la br h n u rd rk rt w hx 1 (by omega)) 1 gX6_read_X6_takeWork rfl (by decide +kernel) (by rw [hRf, hRl]; decide) (by assumption) (κ := 5) (by assumption) rfl (by decide) rfl rfl (Nat.le_of_ble_eq_true rfl) dX6_read_12 (by rw [hRc, hRs]; omega) (fun r1 T1 hq1 => ?_)
    refine g_if_ne Z 21 dX6_read_15 (by decide) (fun h15 => ?_) (fun h15 => ?_)
    · rcases hq1 with ⟨-, h2, -⟩ | ⟨h1, -⟩
      · exact absurd ⟨it, h2⟩ hno
      · exact absurd h1 h15
    · obtain rfl : S = T1 := by
        rcases hq1 with ⟨h1, -⟩ | ⟨-, h2, -⟩
        · rw [h1] at h15; exact absurd h15 (by decide)
        · exact h2
      refine g_bipush (v := (-5)) Z dX6_read_18 (by decide) ?_
      exact g_iret Z dX6_read_20 (by omega) (by omega) (rfl)
  · refine g_bipush (v := (-2)) Z dX6_read_7 (by decide) ?_
    exact g_iret Z dX6_read_9 (by omega) (by omega) (rfl)

set_option maxRecDepth 100000 in
set_option maxHeartbeats 2000000 in
/-- the bytes are cut -/
theorem c_X6_cut (l : Launch) (D : va_G) (cy : Nat → ClassId) (nw : Nat) (S : PS) (x sa sp pl la br h n u rd rk rt w : Nat) (hx : XA S nw x sa sp pl la br h n u rd rk rt w) (a : Int32) : kI l yX6_cut wsX6_cut 0 0 D cy nw [.ref x, .int a] S (fun _ T => ∃ u2, XA T nw x sa sp pl la br h n u2 rd rk rt w) 0 0 := by
  refine enterI (cc := cX6_cut) (nL := 3) (ret := (some .int)) (by decide +kernel) rfl (Nat.le_of_ble_eq_true rfl) ?_
  intro F Z hl hR hD hcy hnw hnm
  subst hl hD hcy hnw
  have hRf : F.R.frames = 0 := by rw [hR]
  have hRc : F.R.cells = 0 := by rw [hR]
  have hRs : F.R.slots = 0 := by rw [hR]
  have hRl : F.R.locals = 0 := by rw [hR]
  have in0 : ∀ w ∈ u_ws RX0 TX0 2, w ∈ wsX6_cut := by decide +kernel
  have in5 : ∀ w ∈ u_ws RX6 TX6 6, w ∈ wsX6_cut := by decide +kernel
  have lk30 : Cond.fieldLink RX6 30 (TX6 3).1 (TX6 3).2.1 (TX6 3).2.2.1 ∈ wsX6_cut := by decide +kernel
  have lk154 : Cond.fieldLink RX6 154 (TX0 1).1 (TX0 1).2.1 (TX0 1).2.2.1 ∈ wsX6_cut := by decide +kernel
  obtain ⟨hxL, hxK, hsa, hsp, hpl, hbr, hrd, hxw, hw3, hSa, hSp, hPl, hB, hR⟩ := id hx
  obtain ⟨hsaL, hsaK, hsal, hsas⟩ := id hSa
  obtain ⟨hbL, hbK, hbh, hhL, hhK, hhl, hn2, hbu, hun, hfit⟩ := id hB
  refine g_iload_n Z dX6_cut_0 rfl ?_
  refine g_if_lt Z 15 dX6_cut_1 (by decide) (fun h1 => ?_) (fun h1 => ?_)
  · refine g_bipush (v := (-2)) Z dX6_cut_15 (by decide) ?_
    exact g_iret Z dX6_cut_17 (by omega) (by omega) (by first | exact ⟨k, hx.byt hR1 hb1⟩ | exact ⟨u, hx⟩)
  · refine g_iload_n Z dX6_cut_4 rfl ?_
    refine g_aload_n Z dX6_cut_5 rfl ?_
    refine g_getr Z 5 3 rfl (by decide) in5 lk30 dX6_cut_6 (by assumption) (by assumption) (by assumption) ?_
    refine g_geti Z 0 1 rfl (by decide) in0 lk154 dX6_cut_9 (by assumption) (by assumption) ?_
    rw [hbu]
    refine g_icmp_le Z 18 dX6_cut_12 (by decide) (fun h12 => ?_) (fun h12 => ?_)
    · obtain ⟨k, hk, rfl⟩ : ∃ k : Nat, k ≤ u ∧ a = nI k := nI_of2 (M := nI u) (n := u) (nI_toInt (by omega)) h1 h12
      obtain ⟨hb1, hR1⟩ := by_cut hB (u2 := k) (by omega)
      refine g_aload_n Z dX6_cut_18 rfl ?_
      refine g_getr Z 5 3 rfl (by decide) in5 lk30 dX6_cut_19 (by assumption) (by assumption) (by assumption) ?_
      refine g_geti Z 0 1 rfl (by decide) in0 lk154 dX6_cut_22 (by assumption) (by assumption) ?_
      rw [hbu]
      refine g_iload_n Z dX6_cut_25 rfl ?_
      refine g_isub Z dX6_cut_26 ?_
      refine g_istore_n Z dX6_cut_27 (by decide) ?_
      refine g_aload_n Z dX6_cut_28 rfl ?_
      refine g_getr Z 5 3 rfl (by decide) in5 lk30 dX6_cut_29 (by assumption) (by assumption) (by assumption) ?_
      refine g_iload_n Z dX6_cut_32 rfl ?_
      refine g_puti Z 0 1 rfl (by decide) tyX0 tyX0_ok nmX0 rfl in0 lk154 dX6_cut_33 rfl rfl (by assumption) (by assumption) ?_
      refine g_iload_n Z dX6_cut_36 rfl ?_
      exact g_iret Z dX6_cut_37 (by omega) (by omega) (by first | exact ⟨k, hx.byt hR1 hb1⟩ | exact ⟨u, hx⟩)
    · refine g_bipush (v := (-2)) Z dX6_cut_15 (by decide) ?_
      exact g_iret Z dX6_cut_17 (by omega) (by omega) (by first | exact ⟨k, hx.byt hR1 hb1⟩ | exact ⟨u, hx⟩)

set_option maxRecDepth 100000 in
set_option maxHeartbeats 2000000 in
/-- bytes come -/
theorem c_X6_type_w (l : Launch) (D : va_G) (cy : Nat → ClassId) (nw : Nat) (S : PS) (x sa sp pl la br h n u rd rk rt w : Nat) (hx : XA S nw x sa sp pl la br h n u rd rk rt w) (y : Int64) (k : Nat) (hk : k ≤ 8) (huk : u + k ≤ 60000) : kI l yX6_type wsX6_type 3 106 D cy nw [.ref x, .long y, .int (nI k)] S (fun _ T => ∃ h2, XA T nw x sa sp pl la br h2 (bN n u k) (bU u k) rd rk rt w) (bG n u k) (60000 * bG n u k) := by
  refine enterI (cc := cX6_type) (nL := 4) (ret := (some .int)) (by decide +kernel) rfl (Nat.le_of_ble_eq_true rfl) ?_
  intro F Z hl hR hD hcy hnw hnm
  subst hl hD hcy hnw
  have hRf : F.R.frames = 3 := by rw [hR]
  have hRc : F.R.cells = (bG n u k) := by rw [hR]
  have hRs : F.R.slots = (60000 * bG n u k) := by rw [hR]
  have hRl : F.R.locals = 106 := by rw [hR]
  have in0 : ∀ w ∈ u_ws RX0 TX0 2, w ∈ wsX6_type := by decide +kernel
  have in5 : ∀ w ∈ u_ws RX6 TX6 6, w ∈ wsX6_type := by decide +kernel
  have lk30 : Cond.fieldLink RX6 30 (TX6 3).1 (TX6 3).2.1 (TX6 3).2.2.1 ∈ wsX6_type := by decide +kernel
  have lk154 : Cond.fieldLink RX6 154 (TX0 1).1 (TX0 1).2.1 (TX0 1).2.2.1 ∈ wsX6_type := by decide +kernel
  have ct153 : Cond.constant RX6 153 (60000) ∈ wsX6_type := by decide +kernel
  obtain ⟨hxL, hxK, hsa, hsp, hpl, hbr, hrd, hxw, hw3, hSa, hSp, hPl, hB, hR⟩ := id hx
  obtain ⟨hsaL, hsaK, hsal, hsas⟩ := id hSa
  obtain ⟨hbL, hbK, hbh, hhL, hhK, hhl, hn2, hbu, hun, hfit⟩ := id hB
  refine g_iload_n Z dX6_type_0 rfl ?_
  refine g_if_lt Z 10 dX6_type_1 (by decide) (fun h1 => absurd h1 (nI_pos (by omega))) (fun h1 => ?_)
  refine g_iload_n Z dX6_type_4 rfl ?_
  refine g_bipush (v := 8) Z dX6_type_5 (by decide) ?_
  refine g_icmp_le Z 13 dX6_type_7 (by decide) (fun h7 => ?_) (fun h7 => absurd ((nI_leI (b := 8) (by omega) (by decide)).mpr hk) h7)
  refine g_aload_n Z dX6_type_13 rfl ?_
  refine g_getr Z 5 3 rfl (by decide) in5 lk30 dX6_type_14 (by assumption) (by assumption) (by assumption) ?_
  refine g_geti Z 0 1 rfl (by decide) in0 lk154 dX6_type_17 (by assumption) (by assumption) ?_
  rw [hbu]
  refine g_iload_n Z dX6_type_20 rfl ?_
  refine g_iadd Z dX6_type_21 ?_
  rw [nI_add]
  refine g_ldc (v := 60000) Z dX6_type_22 ct153 ?_
  refine g_icmp_le Z 30 dX6_type_24 (by decide) (fun h24 => ?_) (fun h24 => absurd ((nI_leI (b := 60000) (by omega) (by decide)).mpr huk) h24)
  refine g_aload_n Z dX6_type_30 rfl ?_
  refine g_getr Z 5 3 rfl (by decide) in5 lk30 dX6_type_31 (by assumption) (by assumption) (by assumption) ?_
  refine g_lload_n Z dX6_type_34 rfl ?_
  refine g_iload_n Z dX6_type_35 rfl ?_
  refine g_cvV Z (c_X0_put F.l F.D F.cy F.nw _ br h n u hB k hk y) 2 gX6_type_X0_put rfl (by decide +kernel) (by rw [hRf, hRl]; decide) (by exact hbL) (κ := 0) (by exact hbK) rfl (by decide) rfl rfl (Nat.le_of_ble_eq_true rfl) dX6_type_36 (by rw [hRc, hRs]; exact ⟨Nat.le_of_eq (Nat.zero_add _), Nat.le_of_eq (Nat.zero_add _)⟩) (fun T2 hp => ?_)
  obtain ⟨hR2, h2, hb2⟩ := hp
  have hx2 := hx.byt hR2 hb2
  obtain ⟨hxL2, hxK2, -, -, -, hbr2, -, -, -, -, -, -, -, -⟩ := id hx2
  refine g_aload_n Z dX6_type_39 rfl ?_
  refine g_getr Z 5 3 rfl (by decide) in5 lk30 dX6_type_40 (by exact hxL2) (by exact hxK2) (by exact hbr2) ?_
  refine g_geti Z 0 1 rfl (by decide) in0 lk154 dX6_type_43 (by exact hb2.1) (by exact hb2.2.1) ?_
  exact g_iret Z dX6_type_46 (by exact Nat.le_of_eq (Nat.zero_add _)) (by exact Nat.le_of_eq (Nat.zero_add _)) (⟨h2, hx2⟩)

set_option maxRecDepth 100000 in
set_option maxHeartbeats 2000000 in
/-- bytes that are refused -/
theorem c_X6_type_n (l : Launch) (D : va_G) (cy : Nat → ClassId) (nw : Nat) (S : PS) (x sa sp pl la br h n u rd rk rt w : Nat) (hx : XA S nw x sa sp pl la br h n u rd rk rt w) (y : Int64) (a : Int32) (hno : ∀ k : Nat, a = nI k → k ≤ 8 → ¬ u + k ≤ 60000) : kI l yX6_type wsX6_type 0 0 D cy nw [.ref x, .long y, .int a] S (fun _ T => S = T) 0 0 := by
  refine enterI (cc := cX6_type) (nL := 4) (ret := (some .int)) (by decide +kernel) rfl (Nat.le_of_ble_eq_true rfl) ?_
  intro F Z hl hR hD hcy hnw hnm
  subst hl hD hcy hnw
  have hRf : F.R.frames = 0 := by rw [hR]
  have hRc : F.R.cells = 0 := by rw [hR]
  have hRs : F.R.slots = 0 := by rw [hR]
  have hRl : F.R.locals = 0 := by rw [hR]
  have in0 : ∀ w ∈ u_ws RX0 TX0 2, w ∈ wsX6_type := by decide +kernel
  have in5 : ∀ w ∈ u_ws RX6 TX6 6, w ∈ wsX6_type := by decide +kernel
  have lk30 : Cond.fieldLink RX6 30 (TX6 3).1 (TX6 3).2.1 (TX6 3).2.2.1 ∈ wsX6_type := by decide +kernel
  have lk154 : Cond.fieldLink RX6 154 (TX0 1).1 (TX0 1).2.1 (TX0 1).2.2.1 ∈ wsX6_type := by decide +kernel
  have ct153 : Cond.constant RX6 153 (60000) ∈ wsX6_type := by decide +kernel
  obtain ⟨hxL, hxK, hsa, hsp, hpl, hbr, hrd, hxw, hw3, hSa, hSp, hPl, hB, hR⟩ := id hx
  obtain ⟨hsaL, hsaK, hsal, hsas⟩ := id hSa
  obtain ⟨hbL, hbK, hbh, hhL, hhK, hhl, hn2, hbu, hun, hfit⟩ := id hB
  refine g_iload_n Z dX6_type_0 rfl ?_
  refine g_if_lt Z 10 dX6_type_1 (by decide) (fun h1 => ?_) (fun h1 => ?_)
  · refine g_bipush (v := (-2)) Z dX6_type_10 (by decide) ?_
    exact g_iret Z dX6_type_12 (by omega) (by omega) (rfl)
  · refine g_iload_n Z dX6_type_4 rfl ?_
    refine g_bipush (v := 8) Z dX6_type_5 (by decide) ?_
    refine g_icmp_le Z 13 dX6_type_7 (by decide) (fun h7 => ?_) (fun h7 => ?_)
    · obtain ⟨k, hk, rfl⟩ : ∃ k : Nat, k ≤ 8 ∧ a = nI k := nI_of2 (M := 8) (n := 8) (by decide) h1 h7
      refine g_aload_n Z dX6_type_13 rfl ?_
      refine g_getr Z 5 3 rfl (by decide) in5 lk30 dX6_type_14 (by assumption) (by assumption) (by assumption) ?_
      refine g_geti Z 0 1 rfl (by decide) in0 lk154 dX6_type_17 (by assumption) (by assumption) ?_
      rw [hbu]
      refine g_iload_n Z dX6_type_20 rfl ?_
      refine g_iadd Z dX6_type_21 ?_
      rw [nI_add]
      refine g_ldc (v := 60000) Z dX6_type_22 ct153 ?_
      refine g_icmp_le Z 30 dX6_type_24 (by decide) (fun h24 => ?_) (fun h24 => ?_)
      · exact absurd (le_t (i := u + k) (N := 60000) (by omega) (by decide) h24) (hno k rfl hk)
      · refine g_bipush (v := (-4)) Z dX6_type_27 (by decide) ?_
        exact g_iret Z dX6_type_29 (by omega) (by omega) (rfl)
    · refine g_bipush (v := (-2)) Z dX6_type_10 (by decide) ?_
      exact g_iret Z dX6_type_12 (by omega) (by omega) (rfl)

set_option maxRecDepth 100000 in
set_option maxHeartbeats 2000000 in
/-- asked -/
theorem c_X6_at (l : Launch) (D : va_G) (cy : Nat → ClassId) (nw : Nat) (S : PS) (x sa sp pl la br h n u rd rk rt w : Nat) (hx : XA S nw x sa sp pl la br h n u rd rk rt w) (a : Int32) : kI l yX6_at wsX6_at 1 21 D cy nw [.ref x, .int a] S (fun _ T => S = T) 0 0 := by
  refine enterI (cc := cX6_at) (nL := 2) (ret := (some .int)) (by decide +kernel) rfl (Nat.le_of_ble_eq_true rfl) ?_
  intro F Z hl hR hD hcy hnw hnm
  subst hl hD hcy hnw
  have hRf : F.R.frames = 1 := by rw [hR]
  have hRc : F.R.cells = 0 := by rw [hR]
  have hRs : F.R.slots = 0 := by rw [hR]
  have hRl : F.R.locals = 21 := by rw [hR]
  have in5 : ∀ w ∈ u_ws RX6 TX6 6, w ∈ wsX6_at := by decide +kernel
  have lk30 : Cond.fieldLink RX6 30 (TX6 3).1 (TX6 3).2.1 (TX6 3).2.2.1 ∈ wsX6_at := by decide +kernel
  obtain ⟨hxL, hxK, hsa, hsp, hpl, hbr, hrd, hxw, hw3, hSa, hSp, hPl, hB, hR⟩ := id hx
  obtain ⟨hsaL, hsaK, hsal, hsas⟩ := id hSa
  obtain ⟨hbL, hbK, hbh, hhL, hhK, hhl, hn2, hbu, hun, hfit⟩ := id hB
  refine g_aload_n Z dX6_at_0 rfl ?_
  refine g_getr Z 5 3 rfl (by decide) in5 lk30 dX6_at_1 (by assumption) (by assumption) (by assumption) ?_
  refine g_iload_n Z dX6_at_4 rfl ?_
  refine g_cvI Z (c_X0_lacks F.l F.D F.cy F.nw _ br h n u hB _) 1 gX6_at_X0_lacks rfl (by decide +kernel) (by rw [hRf, hRl]; decide) (by exact hbL) (κ := 0) (by exact hbK) rfl (by decide) rfl rfl (Nat.le_of_ble_eq_true rfl) dX6_at_5 (by rw [hRc, hRs]; omega) (fun r1 T1 hq1 => ?_)
  obtain ⟨rfl, hi⟩ := hq1
  refine g_if_eq Z 16 dX6_at_8 (by decide) (fun h8 => ?_) (fun h8 => ?_)
  · obtain ⟨j, hj, rfl⟩ := isIx_0 hi h8
    refine g_aload_n Z dX6_at_16 rfl ?_
    refine g_getr Z 5 3 rfl (by decide) in5 lk30 dX6_at_17 (by assumption) (by assumption) (by assumption) ?_
    refine g_iload_n Z dX6_at_20 rfl ?_
    refine g_cvI Z (c_X0_byteAt F.l F.D F.cy F.nw _ br h n u hB j hj) 1 gX6_at_X0_byteAt rfl (by decide +kernel) (by rw [hRf, hRl]; decide) (by exact hbL) (κ := 0) (by exact hbK) rfl (by decide) rfl rfl (Nat.le_of_ble_eq_true rfl) dX6_at_21 (by rw [hRc, hRs]; omega) (fun r2 T2 hq2 => ?_)
    obtain ⟨rfl, -⟩ := hq2
    exact g_iret Z dX6_at_24 (by omega) (by omega) (rfl)
  · refine g_bipush (v := (-2)) Z dX6_at_11 (by decide) ?_
    refine g_goto Z 24 dX6_at_13 (by decide) ?_
    exact g_iret Z dX6_at_24 (by omega) (by omega) (rfl)

set_option maxRecDepth 100000 in
set_option maxHeartbeats 2000000 in
/-- a byte is altered -/
theorem c_X6_alter (l : Launch) (D : va_G) (cy : Nat → ClassId) (nw : Nat) (S : PS) (x sa sp pl la br h n u rd rk rt w : Nat) (hx : XA S nw x sa sp pl la br h n u rd rk rt w) (a v : Int32) : kI l yX6_alter wsX6_alter 1 21 D cy nw [.ref x, .int a, .int v] S (fun _ T => XA T nw x sa sp pl la br h n u rd rk rt w) 0 0 := by
  refine enterI (cc := cX6_alter) (nL := 4) (ret := (some .int)) (by decide +kernel) rfl (Nat.le_of_ble_eq_true rfl) ?_
  intro F Z hl hR hD hcy hnw hnm
  subst hl hD hcy hnw
  have hRf : F.R.frames = 1 := by rw [hR]
  have hRc : F.R.cells = 0 := by rw [hR]
  have hRs : F.R.slots = 0 := by rw [hR]
  have hRl : F.R.locals = 21 := by rw [hR]
  have in0 : ∀ w ∈ u_ws RX0 TX0 2, w ∈ wsX6_alter := by decide +kernel
  have in5 : ∀ w ∈ u_ws RX6 TX6 6, w ∈ wsX6_alter := by decide +kernel
  have lk30 : Cond.fieldLink RX6 30 (TX6 3).1 (TX6 3).2.1 (TX6 3).2.2.1 ∈ wsX6_alter := by decide +kernel
  have lk179 : Cond.fieldLink RX6 179 (TX0 0).1 (TX0 0).2.1 (TX0 0).2.2.1 ∈ wsX6_alter := by decide +kernel
  obtain ⟨hxL, hxK, hsa, hsp, hpl, hbr, hrd, hxw, hw3, hSa, hSp, hPl, hB, hR⟩ := id hx
  obtain ⟨hsaL, hsaK, hsal, hsas⟩ := id hSa
  obtain ⟨hbL, hbK, hbh, hhL, hhK, hhl, hn2, hbu, hun, hfit⟩ := id hB
  refine g_aload_n Z dX6_alter_0 rfl ?_
  refine g_getr Z 5 3 rfl (by decide) in5 lk30 dX6_alter_1 (by assumption) (by assumption) (by assumption) ?_
  refine g_iload_n Z dX6_alter_4 rfl ?_
  refine g_cvI Z (c_X0_lacks F.l F.D F.cy F.nw _ br h n u hB _) 1 gX6_alter_X0_lacks rfl (by decide +kernel) (by rw [hRf, hRl]; decide) (by exact hbL) (κ := 0) (by exact hbK) rfl (by decide) rfl rfl (Nat.le_of_ble_eq_true rfl) dX6_alter_5 (by rw [hRc, hRs]; omega) (fun r1 T1 hq1 => ?_)
  obtain ⟨rfl, hi⟩ := hq1
  refine g_if_ne Z 22 dX6_alter_8 (by decide) (fun h8 => ?_) (fun h8 => ?_)
  · refine g_bipush (v := (-2)) Z dX6_alter_22 (by decide) ?_
    exact g_iret Z dX6_alter_24 (by omega) (by omega) (hx)
  · obtain ⟨j, hj, rfl⟩ := isIx_0 hi h8
    refine g_iload_n Z dX6_alter_11 rfl ?_
    refine g_if_lt Z 22 dX6_alter_12 (by decide) (fun h12 => ?_) (fun h12 => ?_)
    · refine g_bipush (v := (-2)) Z dX6_alter_22 (by decide) ?_
      exact g_iret Z dX6_alter_24 (by omega) (by omega) (hx)
    · refine g_iload_n Z dX6_alter_15 rfl ?_
      refine g_sipush (v := 255) Z dX6_alter_16 (by decide) ?_
      refine g_icmp_le Z 25 dX6_alter_19 (by decide) (fun h19 => ?_) (fun h19 => ?_)
      · refine g_aload_n Z dX6_alter_25 rfl ?_
        refine g_getr Z 5 3 rfl (by decide) in5 lk30 dX6_alter_26 (by assumption) (by assumption) (by assumption) ?_
        refine g_iload_n Z dX6_alter_29 rfl ?_
        refine g_cvI Z (c_X0_byteAt F.l F.D F.cy F.nw _ br h n u hB j hj) 1 gX6_alter_X0_byteAt rfl (by decide +kernel) (by rw [hRf, hRl]; decide) (by exact hbL) (κ := 0) (by exact hbK) rfl (by decide) rfl rfl (Nat.le_of_ble_eq_true rfl) dX6_alter_30 (by rw [hRc, hRs]; omega) (fun r2 T2 hq2 => ?_)
        obtain ⟨rfl, -⟩ := hq2
        refine g_istore_n Z dX6_alter_33 (by decide) ?_
        refine g_aload_n Z dX6_alter_34 rfl ?_
        refine g_getr Z 5 3 rfl (by decide) in5 lk30 dX6_alter_35 (by assumption) (by assumption) (by assumption) ?_
        refine g_getr Z 0 0 rfl (by decide) in0 lk179 dX6_alter_38 (by assumption) (by assumption) (by assumption) ?_
        refine g_iload_n Z dX6_alter_41 rfl ?_
        refine g_iload_n Z dX6_alter_42 rfl ?_
        refine g_i2b Z dX6_alter_43 ?_
        refine g_bast Z dX6_alter_44 (by assumption) (by assumption) (by exact vin_of hhl (by omega) (by omega)) ?_
        refine g_iload_n Z dX6_alter_45 rfl ?_
        exact g_iret Z dX6_alter_46 (by omega) (by omega) (hx.byt (by_alt hB).2 (by_alt hB).1)
      · refine g_bipush (v := (-2)) Z dX6_alter_22 (by decide) ?_
        exact g_iret Z dX6_alter_24 (by omega) (by omega) (hx)
