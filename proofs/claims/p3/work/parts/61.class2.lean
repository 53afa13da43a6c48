set_option maxRecDepth 100000 in
set_option maxHeartbeats 2000000 in
/-- numbers of a key from one to another -/
theorem c_X6_range (l : Launch) (D : va_G) (cy : Nat → ClassId) (nw : Nat) (S : PS) (x sa sp pl la br h n u rd rk rt w : Nat) (hx : XA S nw x sa sp pl la br h n u rd rk rt w) (a b c d e : Int32) : kI l yX6_range wsX6_range 4 94 D cy nw [.ref x, .int a, .int b, .int c, .int d, .int e] S (fun _ T => XA T nw x sa sp pl la br h n u rd rk rt w) 1 1024 := by
  refine enterI (cc := cX6_range) (nL := 7) (ret := (some .int)) (by decide +kernel) rfl (Nat.le_of_ble_eq_true rfl) ?_
  intro F Z hl hR hD hcy hnw hnm
  subst hl hD hcy hnw
  have hRf : F.R.frames = 4 := by rw [hR]
  have hRc : F.R.cells = 1 := by rw [hR]
  have hRs : F.R.slots = 1024 := by rw [hR]
  have hRl : F.R.locals = 94 := by rw [hR]
  have in5 : ∀ w ∈ u_ws RX6 TX6 6, w ∈ wsX6_range := by decide +kernel
  have lk11 : Cond.fieldLink RX6 11 (TX6 0).1 (TX6 0).2.1 (TX6 0).2.2.1 ∈ wsX6_range := by decide +kernel
  obtain ⟨hxL, hxK, hsa, hsp, hpl, hbr, hrd, hxw, hw3, hSa, hSp, hPl, hB, hR⟩ := id hx
  obtain ⟨hsaL, hsaK, hsal, hsas⟩ := id hSa
  refine g_iload_n Z dX6_range_0 rfl ?_
  refine g_csI Z (c_X6_isNoSet F.l F.D F.cy F.nw _ _) 1 gX6_range_X6_isNoSet rfl (by decide +kernel) (by rw [hRf, hRl]; decide) rfl rfl (Nat.le_of_ble_eq_true rfl) dX6_range_1 (by rw [hRc, hRs]; omega) (fun r0 T0 hq0 => ?_)
  obtain ⟨rfl, hi1⟩ := hq0
  refine g_if_ne Z 35 dX6_range_4 (by decide) (fun h4 => ?_) (fun h4 => ?_)
  · refine g_bipush (v := (-2)) Z dX6_range_35 (by decide) ?_
    exact g_iret Z dX6_range_37 (by omega) (by omega) (by first | exact hx2 | exact hx)
  · obtain ⟨j, hj, rfl⟩ := isIx_0 hi1 h4
    refine g_iload_n Z dX6_range_7 rfl ?_
    refine g_csI Z (c_X6_isNoHalf F.l F.D F.cy F.nw _ _) 1 gX6_range_X6_isNoHalf rfl (by decide +kernel) (by rw [hRf, hRl]; decide) rfl rfl (Nat.le_of_ble_eq_true rfl) dX6_range_8 (by rw [hRc, hRs]; omega) (fun r0 T0 hq0 => ?_)
    obtain ⟨rfl, hi2⟩ := hq0
    refine g_if_ne Z 35 dX6_range_11 (by decide) (fun h11 => ?_) (fun h11 => ?_)
    · refine g_bipush (v := (-2)) Z dX6_range_35 (by decide) ?_
      exact g_iret Z dX6_range_37 (by omega) (by omega) (by first | exact hx2 | exact hx)
    · obtain ⟨key, hkey, rfl⟩ := isIx_0 hi2 h11
      refine g_iload_n Z dX6_range_14 rfl ?_
      refine g_csI Z (c_X6_isNoHalf F.l F.D F.cy F.nw _ _) 1 gX6_range_X6_isNoHalf rfl (by decide +kernel) (by rw [hRf, hRl]; decide) rfl rfl (Nat.le_of_ble_eq_true rfl) dX6_range_15 (by rw [hRc, hRs]; omega) (fun r0 T0 hq0 => ?_)
      obtain ⟨rfl, hi3⟩ := hq0
      refine g_if_ne Z 35 dX6_range_18 (by decide) (fun h18 => ?_) (fun h18 => ?_)
      · refine g_bipush (v := (-2)) Z dX6_range_35 (by decide) ?_
        exact g_iret Z dX6_range_37 (by omega) (by omega) (by first | exact hx2 | exact hx)
      · obtain ⟨f, hf, rfl⟩ := isIx_0 hi3 h18
        refine g_iload Z dX6_range_21 rfl ?_
        refine g_csI Z (c_X6_isNoHalf F.l F.D F.cy F.nw _ _) 1 gX6_range_X6_isNoHalf rfl (by decide +kernel) (by rw [hRf, hRl]; decide) rfl rfl (Nat.le_of_ble_eq_true rfl) dX6_range_23 (by rw [hRc, hRs]; omega) (fun r0 T0 hq0 => ?_)
        obtain ⟨rfl, hi4⟩ := hq0
        refine g_if_ne Z 35 dX6_range_26 (by decide) (fun h26 => ?_) (fun h26 => ?_)
        · refine g_bipush (v := (-2)) Z dX6_range_35 (by decide) ?_
          exact g_iret Z dX6_range_37 (by omega) (by omega) (by first | exact hx2 | exact hx)
        · obtain ⟨t, ht, rfl⟩ := isIx_0 hi4 h26
          refine g_iload_n Z dX6_range_29 rfl ?_
          refine g_iload Z dX6_range_30 rfl ?_
          refine g_icmp_le Z 38 dX6_range_32 (by decide) (fun h32 => ?_) (fun h32 => ?_)
          · refine g_iload Z dX6_range_38 rfl ?_
            refine g_if_lt Z 49 dX6_range_40 (by decide) (fun h40 => ?_) (fun h40 => ?_)
            · refine g_bipush (v := (-2)) Z dX6_range_49 (by decide) ?_
              exact g_iret Z dX6_range_51 (by omega) (by omega) (by first | exact hx2 | exact hx)
            · refine g_iload Z dX6_range_43 rfl ?_
              refine g_iconst (v := 2) Z dX6_range_45 (by decide) ?_
              refine g_icmp_le Z 52 dX6_range_46 (by decide) (fun h46 => ?_) (fun h46 => ?_)
              · obtain ⟨s, hs, it, us, hss⟩ := hsas j hj
                have hcj : (nI j).toNatClampNeg = j := nI_clamp (by omega)
                have hsL := hss.1
                have hsK := hss.2.1
                refine g_aload_n Z dX6_range_52 rfl ?_
                refine g_getr Z 5 0 rfl (by decide) in5 lk11 dX6_range_53 (by assumption) (by assumption) (by assumption) ?_
                refine g_iload_n Z dX6_range_56 rfl ?_
                refine g_aald11 Z dX6_range_57 (by assumption) (by assumption) (by exact vin_of hsal (by omega) (by decide)) (by rw [hcj]; exact hs) ?_
                refine g_iload_n Z dX6_range_58 rfl ?_
                refine g_iload_n Z dX6_range_59 rfl ?_
                refine g_iload Z dX6_range_60 rfl ?_
                refine g_iload Z dX6_range_62 rfl ?_
                refine g_cvI Z (c_X2_changeSpan F.l F.D F.cy F.nw _ s it us hss key f t hkey hf ht _) 4 gX6_range_X2_changeSpan rfl (by decide +kernel) (by rw [hRf, hRl]; decide) (by assumption) (κ := 2) (by assumption) rfl (by decide) rfl rfl (Nat.le_of_ble_eq_true rfl) dX6_range_64 (by rw [hRc, hRs]; omega) (fun r2 T2 hp => ?_)
                have hx2 := hx.es hp
                obtain ⟨hxL2, hxK2, hsa2, -, -, -, -, -, -, hSa2, -, -, -, -⟩ := id hx2
                obtain ⟨hsaL2, hsaK2, hsal2, hsas2⟩ := id hSa2
                obtain ⟨s2, hs2, it2, us2, hss2⟩ := hsas2 j hj
                refine g_istore Z dX6_range_67 (by decide) ?_
                refine g_iload Z dX6_range_69 rfl ?_
                refine g_bipush (v := (-3)) Z dX6_range_71 (by decide) ?_
                refine g_icmp_ne Z 81 dX6_range_73 (by decide) (fun h73 => ?_) (fun h73 => ?_)
                · refine g_aload_n Z dX6_range_81 rfl ?_
                  refine g_getr Z 5 0 rfl (by decide) in5 lk11 dX6_range_82 (by assumption) (by assumption) (by assumption) ?_
                  refine g_iload_n Z dX6_range_85 rfl ?_
                  refine g_aald11 Z dX6_range_86 (by assumption) (by assumption) (by exact vin_of hsal2 (by omega) (by decide)) (by rw [hcj]; exact hs2) ?_
                  refine g_cvI Z (c_X2_total F.l F.D F.cy F.nw _ s2 it2 us2 hss2) 0 gX6_range_X2_total rfl (by decide +kernel) (by rw [hRf, hRl]; decide) (by exact hss2.1) (κ := 2) (by exact hss2.2.1) rfl (by decide) rfl rfl (Nat.le_of_ble_eq_true rfl) dX6_range_87 (by rw [hRc, hRs]; omega) (fun r3 T3 hq3 => ?_)
                  obtain rfl := hq3
                  exact g_iret Z dX6_range_90 (by omega) (by omega) (by first | exact hx2 | exact hx)
                · refine g_bipush (v := (-3)) Z dX6_range_76 (by decide) ?_
                  refine g_goto Z 90 dX6_range_78 (by decide) ?_
                  exact g_iret Z dX6_range_90 (by omega) (by omega) (by first | exact hx2 | exact hx)
              · refine g_bipush (v := (-2)) Z dX6_range_49 (by decide) ?_
                exact g_iret Z dX6_range_51 (by omega) (by omega) (by first | exact hx2 | exact hx)
          · refine g_bipush (v := (-2)) Z dX6_range_35 (by decide) ?_
            exact g_iret Z dX6_range_37 (by omega) (by omega) (by first | exact hx2 | exact hx)

set_option maxRecDepth 100000 in
set_option maxHeartbeats 2000000 in
/-- numbers of a key by steps -/
theorem c_X6_steps (l : Launch) (D : va_G) (cy : Nat → ClassId) (nw : Nat) (S : PS) (x sa sp pl la br h n u rd rk rt w : Nat) (hx : XA S nw x sa sp pl la br h n u rd rk rt w) (a b c d : Int32) : kI l yX6_steps wsX6_steps 4 93 D cy nw [.ref x, .int a, .int b, .int c, .int d] S (fun _ T => XA T nw x sa sp pl la br h n u rd rk rt w) 1 1024 := by
  refine enterI (cc := cX6_steps) (nL := 6) (ret := (some .int)) (by decide +kernel) rfl (Nat.le_of_ble_eq_true rfl) ?_
  intro F Z hl hR hD hcy hnw hnm
  subst hl hD hcy hnw
  have hRf : F.R.frames = 4 := by rw [hR]
  have hRc : F.R.cells = 1 := by rw [hR]
  have hRs : F.R.slots = 1024 := by rw [hR]
  have hRl : F.R.locals = 93 := by rw [hR]
  have in5 : ∀ w ∈ u_ws RX6 TX6 6, w ∈ wsX6_steps := by decide +kernel
  have lk11 : Cond.fieldLink RX6 11 (TX6 0).1 (TX6 0).2.1 (TX6 0).2.2.1 ∈ wsX6_steps := by decide +kernel
  obtain ⟨hxL, hxK, hsa, hsp, hpl, hbr, hrd, hxw, hw3, hSa, hSp, hPl, hB, hR⟩ := id hx
  obtain ⟨hsaL, hsaK, hsal, hsas⟩ := id hSa
  refine g_iload_n Z dX6_steps_0 rfl ?_
  refine g_csI Z (c_X6_isNoSet F.l F.D F.cy F.nw _ _) 1 gX6_steps_X6_isNoSet rfl (by decide +kernel) (by rw [hRf, hRl]; decide) rfl rfl (Nat.le_of_ble_eq_true rfl) dX6_steps_1 (by rw [hRc, hRs]; omega) (fun r0 T0 hq0 => ?_)
  obtain ⟨rfl, hi1⟩ := hq0
  refine g_if_ne Z 35 dX6_steps_4 (by decide) (fun h4 => ?_) (fun h4 => ?_)
  · refine g_bipush (v := (-2)) Z dX6_steps_35 (by decide) ?_
    exact g_iret Z dX6_steps_37 (by omega) (by omega) (by first | exact hx2 | exact hx)
  · obtain ⟨j, hj, rfl⟩ := isIx_0 hi1 h4
    refine g_iload_n Z dX6_steps_7 rfl ?_
    refine g_csI Z (c_X6_isNoHalf F.l F.D F.cy F.nw _ _) 1 gX6_steps_X6_isNoHalf rfl (by decide +kernel) (by rw [hRf, hRl]; decide) rfl rfl (Nat.le_of_ble_eq_true rfl) dX6_steps_8 (by rw [hRc, hRs]; omega) (fun r0 T0 hq0 => ?_)
    obtain ⟨rfl, hi2⟩ := hq0
    refine g_if_ne Z 35 dX6_steps_11 (by decide) (fun h11 => ?_) (fun h11 => ?_)
    · refine g_bipush (v := (-2)) Z dX6_steps_35 (by decide) ?_
      exact g_iret Z dX6_steps_37 (by omega) (by omega) (by first | exact hx2 | exact hx)
    · obtain ⟨key, hkey, rfl⟩ := isIx_0 hi2 h11
      refine g_iload_n Z dX6_steps_14 rfl ?_
      refine g_csI Z (c_X6_isNoHalf F.l F.D F.cy F.nw _ _) 1 gX6_steps_X6_isNoHalf rfl (by decide +kernel) (by rw [hRf, hRl]; decide) rfl rfl (Nat.le_of_ble_eq_true rfl) dX6_steps_15 (by rw [hRc, hRs]; omega) (fun r0 T0 hq0 => ?_)
      obtain ⟨rfl, hi3⟩ := hq0
      refine g_if_ne Z 35 dX6_steps_18 (by decide) (fun h18 => ?_) (fun h18 => ?_)
      · refine g_bipush (v := (-2)) Z dX6_steps_35 (by decide) ?_
        exact g_iret Z dX6_steps_37 (by omega) (by omega) (by first | exact hx2 | exact hx)
      · obtain ⟨f, hf, rfl⟩ := isIx_0 hi3 h18
        refine g_iload Z dX6_steps_21 rfl ?_
        refine g_csI Z (c_X6_isNoHalf F.l F.D F.cy F.nw _ _) 1 gX6_steps_X6_isNoHalf rfl (by decide +kernel) (by rw [hRf, hRl]; decide) rfl rfl (Nat.le_of_ble_eq_true rfl) dX6_steps_23 (by rw [hRc, hRs]; omega) (fun r0 T0 hq0 => ?_)
        obtain ⟨rfl, hi4⟩ := hq0
        refine g_if_ne Z 35 dX6_steps_26 (by decide) (fun h26 => ?_) (fun h26 => ?_)
        · refine g_bipush (v := (-2)) Z dX6_steps_35 (by decide) ?_
          exact g_iret Z dX6_steps_37 (by omega) (by omega) (by first | exact hx2 | exact hx)
        · obtain ⟨t, ht, rfl⟩ := isIx_0 hi4 h26
          refine g_iload Z dX6_steps_29 rfl ?_
          refine g_iconst (v := 1) Z dX6_steps_31 (by decide) ?_
          refine g_icmp_ge Z 38 dX6_steps_32 (by decide) (fun h32 => ?_) (fun h32 => ?_)
          · obtain ⟨s, hs, it, us, hss⟩ := hsas j hj
            have hcj : (nI j).toNatClampNeg = j := nI_clamp (by omega)
            have hsL := hss.1
            have hsK := hss.2.1
            have ht1 : 1 ≤ t := ge_t (i := t) (N := 1) (by omega) (by decide) h32
            refine g_aload_n Z dX6_steps_38 rfl ?_
            refine g_getr Z 5 0 rfl (by decide) in5 lk11 dX6_steps_39 (by assumption) (by assumption) (by assumption) ?_
            refine g_iload_n Z dX6_steps_42 rfl ?_
            refine g_aald11 Z dX6_steps_43 (by assumption) (by assumption) (by exact vin_of hsal (by omega) (by decide)) (by rw [hcj]; exact hs) ?_
            refine g_iload_n Z dX6_steps_44 rfl ?_
            refine g_iload_n Z dX6_steps_45 rfl ?_
            refine g_iload Z dX6_steps_46 rfl ?_
            refine g_cvI Z (c_X2_putSteps F.l F.D F.cy F.nw _ s it us hss key f t hkey hf ht1 ht) 3 gX6_steps_X2_putSteps rfl (by decide +kernel) (by rw [hRf, hRl]; decide) (by assumption) (κ := 2) (by assumption) rfl (by decide) rfl rfl (Nat.le_of_ble_eq_true rfl) dX6_steps_48 (by rw [hRc, hRs]; omega) (fun r2 T2 hp => ?_)
            have hx2 := hx.es hp
            obtain ⟨hxL2, hxK2, hsa2, -, -, -, -, -, -, hSa2, -, -, -, -⟩ := id hx2
            obtain ⟨hsaL2, hsaK2, hsal2, hsas2⟩ := id hSa2
            obtain ⟨s2, hs2, it2, us2, hss2⟩ := hsas2 j hj
            refine g_istore Z dX6_steps_51 (by decide) ?_
            refine g_iload Z dX6_steps_53 rfl ?_
            refine g_bipush (v := (-3)) Z dX6_steps_55 (by decide) ?_
            refine g_icmp_ne Z 65 dX6_steps_57 (by decide) (fun h57 => ?_) (fun h57 => ?_)
            · refine g_aload_n Z dX6_steps_65 rfl ?_
              refine g_getr Z 5 0 rfl (by decide) in5 lk11 dX6_steps_66 (by assumption) (by assumption) (by assumption) ?_
              refine g_iload_n Z dX6_steps_69 rfl ?_
              refine g_aald11 Z dX6_steps_70 (by assumption) (by assumption) (by exact vin_of hsal2 (by omega) (by decide)) (by rw [hcj]; exact hs2) ?_
              refine g_cvI Z (c_X2_total F.l F.D F.cy F.nw _ s2 it2 us2 hss2) 0 gX6_steps_X2_total rfl (by decide +kernel) (by rw [hRf, hRl]; decide) (by exact hss2.1) (κ := 2) (by exact hss2.2.1) rfl (by decide) rfl rfl (Nat.le_of_ble_eq_true rfl) dX6_steps_71 (by rw [hRc, hRs]; omega) (fun r3 T3 hq3 => ?_)
              obtain rfl := hq3
              exact g_iret Z dX6_steps_74 (by omega) (by omega) (by first | exact hx2 | exact hx)
            · refine g_bipush (v := (-3)) Z dX6_steps_60 (by decide) ?_
              refine g_goto Z 74 dX6_steps_62 (by decide) ?_
              exact g_iret Z dX6_steps_74 (by omega) (by omega) (by first | exact hx2 | exact hx)
          · refine g_bipush (v := (-2)) Z dX6_steps_35 (by decide) ?_
            exact g_iret Z dX6_steps_37 (by omega) (by omega) (by first | exact hx2 | exact hx)

set_option maxRecDepth 100000 in
set_option maxHeartbeats 2000000 in
/-- a set is empty -/
theorem c_X6_clear (l : Launch) (D : va_G) (cy : Nat → ClassId) (nw : Nat) (S : PS) (x sa sp pl la br h n u rd rk rt w : Nat) (hx : XA S nw x sa sp pl la br h n u rd rk rt w) (a : Int32) : kI l yX6_clear wsX6_clear 1 22 D cy nw [.ref x, .int a] S (fun _ T => XA T nw x sa sp pl la br h n u rd rk rt w) 0 0 := by
  refine enterI (cc := cX6_clear) (nL := 3) (ret := (some .int)) (by decide +kernel) rfl (Nat.le_of_ble_eq_true rfl) ?_
  intro F Z hl hR hD hcy hnw hnm
  subst hl hD hcy hnw
  have hRf : F.R.frames = 1 := by rw [hR]
  have hRc : F.R.cells = 0 := by rw [hR]
  have hRs : F.R.slots = 0 := by rw [hR]
  have hRl : F.R.locals = 22 := by rw [hR]
  have in2 : ∀ w ∈ u_ws RX2 TX2 2, w ∈ wsX6_clear := by decide +kernel
  have in5 : ∀ w ∈ u_ws RX6 TX6 6, w ∈ wsX6_clear := by decide +kernel
  have lk11 : Cond.fieldLink RX6 11 (TX6 0).1 (TX6 0).2.1 (TX6 0).2.2.1 ∈ wsX6_clear := by decide +kernel
  have lk71 : Cond.fieldLink RX6 71 (TX2 1).1 (TX2 1).2.1 (TX2 1).2.2.1 ∈ wsX6_clear := by decide +kernel
  obtain ⟨hxL, hxK, hsa, hsp, hpl, hbr, hrd, hxw, hw3, hSa, hSp, hPl, hB, hR⟩ := id hx
  obtain ⟨hsaL, hsaK, hsal, hsas⟩ := id hSa
  refine g_iload_n Z dX6_clear_0 rfl ?_
  refine g_csI Z (c_X6_isNoSet F.l F.D F.cy F.nw _ _) 1 gX6_clear_X6_isNoSet rfl (by decide +kernel) (by rw [hRf, hRl]; decide) rfl rfl (Nat.le_of_ble_eq_true rfl) dX6_clear_1 (by rw [hRc, hRs]; omega) (fun r0 T0 hq0 => ?_)
  obtain ⟨rfl, hi⟩ := hq0
  refine g_if_eq Z 10 dX6_clear_4 (by decide) (fun h4 => ?_) (fun h4 => ?_)
  · obtain ⟨j, hj, rfl⟩ := isIx_0 hi h4
    obtain ⟨s, hs, it, us, hss⟩ := hsas j hj
    have hcj : (nI j).toNatClampNeg = j := nI_clamp (by omega)
    have hsL := hss.1
    have hsK := hss.2.1
    refine g_aload_n Z dX6_clear_10 rfl ?_
    refine g_getr Z 5 0 rfl (by decide) in5 lk11 dX6_clear_11 (by assumption) (by assumption) (by assumption) ?_
    refine g_iload_n Z dX6_clear_14 rfl ?_
    refine g_aald11 Z dX6_clear_15 (by assumption) (by assumption) (by exact vin_of hsal (by omega) (by decide)) (by rw [hcj]; exact hs) ?_
    refine g_cvI Z (c_X2_total F.l F.D F.cy F.nw _ s it us hss) 0 gX6_clear_X2_total rfl (by decide +kernel) (by rw [hRf, hRl]; decide) (by assumption) (κ := 2) (by assumption) rfl (by decide) rfl rfl (Nat.le_of_ble_eq_true rfl) dX6_clear_16 (by rw [hRc, hRs]; omega) (fun r3 T3 hq3 => ?_)
    obtain rfl := hq3
    obtain ⟨-, hE⟩ := used_set hss (v := 0) (by omega) (fun i hi => by omega)
    refine g_istore_n Z dX6_clear_19 (by decide) ?_
    refine g_aload_n Z dX6_clear_20 rfl ?_
    refine g_getr Z 5 0 rfl (by decide) in5 lk11 dX6_clear_21 (by assumption) (by assumption) (by assumption) ?_
    refine g_iload_n Z dX6_clear_24 rfl ?_
    refine g_aald11 Z dX6_clear_25 (by assumption) (by assumption) (by exact vin_of hsal (by omega) (by decide)) (by rw [hcj]; exact hs) ?_
    refine g_iconst (v := 0) Z dX6_clear_26 (by decide) ?_
    refine g_puti Z 2 1 rfl (by decide) tyX2 tyX2_ok nmX2 rfl in2 lk71 dX6_clear_27 rfl rfl (by assumption) (by assumption) ?_
    refine g_iload_n Z dX6_clear_30 rfl ?_
    exact g_iret Z dX6_clear_31 (by omega) (by omega) (by first | exact hx.es hE | exact hx)
  · refine g_bipush (v := (-2)) Z dX6_clear_7 (by decide) ?_
    exact g_iret Z dX6_clear_9 (by omega) (by omega) (by first | exact hx.es hE | exact hx)

set_option maxRecDepth 100000 in
set_option maxHeartbeats 2000000 in
/-- each container as told -/
theorem c_X6_shrink (l : Launch) (D : va_G) (cy : Nat → ClassId) (nw : Nat) (S : PS) (x sa sp pl la br h n u rd rk rt w : Nat) (hx : XA S nw x sa sp pl la br h n u rd rk rt w) (a : Int32) : kI l yX6_shrink wsX6_shrink 4 89 D cy nw [.ref x, .int a] S (fun _ T => ∃ w2, WK (isS a) 1 w w2 ∧ XA T nw x sa sp pl la br h n u rd rk rt w2) 0 0 := by
  refine enterI (cc := cX6_shrink) (nL := 2) (ret := (some .int)) (by decide +kernel) rfl (Nat.le_of_ble_eq_true rfl) ?_
  intro F Z hl hR hD hcy hnw hnm
  subst hl hD hcy hnw
  have hRf : F.R.frames = 4 := by rw [hR]
  have hRc : F.R.cells = 0 := by rw [hR]
  have hRs : F.R.slots = 0 := by rw [hR]
  have hRl : F.R.locals = 89 := by rw [hR]
  have in5 : ∀ w ∈ u_ws RX6 TX6 6, w ∈ wsX6_shrink := by decide +kernel
  have lk11 : Cond.fieldLink RX6 11 (TX6 0).1 (TX6 0).2.1 (TX6 0).2.2.1 ∈ wsX6_shrink := by decide +kernel
  obtain ⟨hxL, hxK, hsa, hsp, hpl, hbr, hrd, hxw, hw3, hSa, hSp, hPl, hB, hR⟩ := id hx
  obtain ⟨hsaL, hsaK, hsal, hsas⟩ := id hSa
  refine g_iload_n Z dX6_shrink_0 rfl ?_
  refine g_csI Z (c_X6_isNoSet F.l F.D F.cy F.nw _ _) 1 gX6_shrink_X6_isNoSet rfl (by decide +kernel) (by rw [hRf, hRl]; decide) rfl rfl (Nat.le_of_ble_eq_true rfl) dX6_shrink_1 (by rw [hRc, hRs]; omega) (fun r0 T0 hq0 => ?_)
  obtain ⟨rfl, hi⟩ := hq0
  refine g_if_eq Z 10 dX6_shrink_4 (by decide) (fun h4 => ?_) (fun h4 => ?_)
  · obtain ⟨j, hj, rfl⟩ := isIx_0 hi h4
    obtain ⟨s, hs, it, us, hss⟩ := hsas j hj
    have hcj : (nI j).toNatClampNeg = j := nI_clamp (by omega)
    have hsL := hss.1
    have hsK := hss.2.1
    refine g_aload_n Z dX6_shrink_10 rfl ?_
    refine g_iconst (v := 1) Z dX6_shrink_11 (by decide) ?_
    refine g_cvI Z (c_X6_takeWork F.l F.D F.cy F.nw _ x sa sp pl la br h n u rd rk rt w hx 1 (by decide)) 1 gX6_shrink_X6_takeWork rfl (by decide +kernel) (by rw [hRf, hRl]; decide) (by assumption) (κ := 5) (by assumption) rfl (by decide) rfl rfl (Nat.le_of_ble_eq_true rfl) dX6_shrink_12 (by rw [hRc, hRs]; omega) (fun r1 T1 hq1 => ?_)
    refine g_if_ne Z 21 dX6_shrink_15 (by decide) (fun h15 => ?_) (fun h15 => ?_)
    · obtain ⟨hle, rfl⟩ : 1 ≤ w ∧ T1 = S.setI x 5 (nI (w - 1)) := by
        rcases hq1 with ⟨-, h2, h3⟩ | ⟨h1, -⟩
        · exact ⟨h2, h3⟩
        · exact absurd h1 h15
      have hx1 := hx.work (w2 := w - 1) (by omega)
      generalize S.setI x 5 (nI (w - 1)) = T1 at hx1 ⊢
      obtain ⟨hxL1, hxK1, hsa1, -, -, -, -, -, -, hSa1, -, -, -, -⟩ := id hx1
      obtain ⟨hsaL1, hsaK1, hsal1, hsas1⟩ := id hSa1
      obtain ⟨s1, hs1, it1, us1, hss1⟩ := hsas1 j hj
      refine g_aload_n Z dX6_shrink_21 rfl ?_
      refine g_getr Z 5 0 rfl (by decide) in5 lk11 dX6_shrink_22 (by assumption) (by assumption) (by assumption) ?_
      refine g_iload_n Z dX6_shrink_25 rfl ?_
      refine g_aald11 Z dX6_shrink_26 (by assumption) (by assumption) (by exact vin_of hsal1 (by omega) (by decide)) (by rw [hcj]; exact hs1) ?_
      refine g_cvV Z (c_X2_shrinkAll F.l F.D F.cy F.nw _ s1 it1 us1 hss1) 0 gX6_shrink_X2_shrinkAll rfl (by decide +kernel) (by rw [hRf, hRl]; decide) (by exact hss1.1) (κ := 2) (by exact hss1.2.1) rfl (by decide) rfl rfl (Nat.le_of_ble_eq_true rfl) dX6_shrink_27 (by rw [hRc, hRs]; omega) (fun T2 hp => ?_)
      have hx2 := hx1.es hp
      obtain ⟨hxL2, hxK2, hsa2, -, -, -, -, -, -, hSa2, -, -, -, -⟩ := id hx2
      obtain ⟨hsaL2, hsaK2, hsal2, hsas2⟩ := id hSa2
      obtain ⟨s2, hs2, it2, us2, hss2⟩ := hsas2 j hj
      refine g_aload_n Z dX6_shrink_30 rfl ?_
      refine g_getr Z 5 0 rfl (by decide) in5 lk11 dX6_shrink_31 (by assumption) (by assumption) (by assumption) ?_
      refine g_iload_n Z dX6_shrink_34 rfl ?_
      refine g_aald11 Z dX6_shrink_35 (by assumption) (by assumption) (by exact vin_of hsal2 (by omega) (by decide)) (by rw [hcj]; exact hs2) ?_
      refine g_iconst (v := 2) Z dX6_shrink_36 (by decide) ?_
      refine g_cvI Z (c_X2_totalOfKind F.l F.D F.cy F.nw _ s2 it2 us2 hss2 _) 1 gX6_shrink_X2_totalOfKind rfl (by decide +kernel) (by rw [hRf, hRl]; decide) (by exact hss2.1) (κ := 2) (by exact hss2.2.1) rfl (by decide) rfl rfl (Nat.le_of_ble_eq_true rfl) dX6_shrink_37 (by rw [hRc, hRs]; omega) (fun r3 T3 hq3 => ?_)
      obtain ⟨rfl, -⟩ := hq3
      exact g_iret Z dX6_shrink_40 (by omega) (by omega) (⟨w - 1, Or.inl ⟨⟨j, hj, rfl⟩, hle, by omega⟩, hx2⟩)
    · obtain ⟨rfl, hlt⟩ : S = T1 ∧ w < 1 := by
        rcases hq1 with ⟨h1, -⟩ | ⟨-, h2, h3⟩
        · rw [h1] at h15; exact absurd h15 (by decide)
        · exact ⟨h2, h3⟩
      refine g_bipush (v := (-5)) Z dX6_shrink_18 (by decide) ?_
      exact g_iret Z dX6_shrink_20 (by omega) (by omega) (⟨w, Or.inr ⟨fun h => by have := h.2; omega, rfl⟩, hx⟩)
  · have hno := isIx_1 (by decide) hi h4
    refine g_bipush (v := (-2)) Z dX6_shrink_7 (by decide) ?_
    exact g_iret Z dX6_shrink_9 (by omega) (by omega) (⟨w, Or.inr ⟨fun h => hno h.1, rfl⟩, hx⟩)

theorem isIx_y {n j : Nat} (hn : n < 2 ^ 31) {r : Int32} (h : isIx n (nI j) r) (hj : j < n) : r = 0 := by
  rcases h with ⟨h, -⟩ | ⟨-, h⟩
  · exact h
  · rcases h with h | h
    · exact absurd h (nI_pos (by omega))
    · have := (nI_leI hn (by omega)).mp h; omega

set_option maxRecDepth 100000 in
set_option maxHeartbeats 2000000 in
/-- two sets are joined -/
theorem c_X6_join_w (l : Launch) (D : va_G) (cy : Nat → ClassId) (nw : Nat) (S : PS) (x sa sp pl la br h n u rd rk rt w : Nat) (hx : XA S nw x sa sp pl la br h n u rd rk rt w) (jt ja jb : Nat) (hjt : jt < 8) (hja : ja < 8) (hjb : jb < 8) (c : Int32) (hc0 : ¬ c < 0) (hc3 : c ≤ 3) (hw1 : 1 ≤ w) : kI l yX6_join wsX6_join 4 109 D cy nw [.ref x, .int (nI jt), .int c, .int (nI ja), .int (nI jb)] S (fun _ T => XA T nw x sa sp pl la br h n u rd rk rt (w - 1)) 12 12288 := by
  refine enterI (cc := cX6_join) (nL := 5) (ret := (some .int)) (by decide +kernel) rfl (Nat.le_of_ble_eq_true rfl) ?_
  intro F Z hl hR hD hcy hnw hnm
  subst hl hD hcy hnw
  have hRf : F.R.frames = 4 := by rw [hR]
  have hRc : F.R.cells = 12 := by rw [hR]
  have hRs : F.R.slots = 12288 := by rw [hR]
  have hRl : F.R.locals = 109 := by rw [hR]
  have in5 : ∀ w ∈ u_ws RX6 TX6 6, w ∈ wsX6_join := by decide +kernel
  have lk11 : Cond.fieldLink RX6 11 (TX6 0).1 (TX6 0).2.1 (TX6 0).2.2.1 ∈ wsX6_join := by decide +kernel
  have lk16 : Cond.fieldLink RX6 16 (TX6 1).1 (TX6 1).2.1 (TX6 1).2.2.1 ∈ wsX6_join := by decide +kernel
  obtain ⟨hxL, hxK, hsa, hsp, hpl, hbr, hrd, hxw, hw3, hSa, hSp, hPl, hB, hR⟩ := id hx
  obtain ⟨hsaL, hsaK, hsal, hsas⟩ := id hSa
  have hct : (nI jt).toNatClampNeg = jt := nI_clamp (by omega)
  have hca : (nI ja).toNatClampNeg = ja := nI_clamp (by omega)
  have hcb : (nI jb).toNatClampNeg = jb := nI_clamp (by omega)
  refine g_iload_n Z dX6_join_0 rfl ?_
  refine g_csI Z (c_X6_isNoSet F.l F.D F.cy F.nw _ _) 1 gX6_join_X6_isNoSet rfl (by decide +kernel) (by rw [hRf, hRl]; decide) rfl rfl (Nat.le_of_ble_eq_true rfl) dX6_join_1 (by rw [hRc, hRs]; omega) (fun r0 T0 hq0 => ?_)
  obtain ⟨rfl, hi1⟩ := hq0
  refine g_if_ne Z 31 dX6_join_4 (by decide) (fun h4 => absurd (isIx_y (by decide) hi1 hjt) h4) (fun h4 => ?_)
  refine g_iload_n Z dX6_join_7 rfl ?_
  refine g_csI Z (c_X6_isNoSet F.l F.D F.cy F.nw _ _) 1 gX6_join_X6_isNoSet rfl (by decide +kernel) (by rw [hRf, hRl]; decide) rfl rfl (Nat.le_of_ble_eq_true rfl) dX6_join_8 (by rw [hRc, hRs]; omega) (fun r0 T0 hq0 => ?_)
  obtain ⟨rfl, hi2⟩ := hq0
  refine g_if_ne Z 31 dX6_join_11 (by decide) (fun h11 => absurd (isIx_y (by decide) hi2 hja) h11) (fun h11 => ?_)
  refine g_iload Z dX6_join_14 rfl ?_
  refine g_csI Z (c_X6_isNoSet F.l F.D F.cy F.nw _ _) 1 gX6_join_X6_isNoSet rfl (by decide +kernel) (by rw [hRf, hRl]; decide) rfl rfl (Nat.le_of_ble_eq_true rfl) dX6_join_16 (by rw [hRc, hRs]; omega) (fun r0 T0 hq0 => ?_)
  obtain ⟨rfl, hi3⟩ := hq0
  refine g_if_ne Z 31 dX6_join_19 (by decide) (fun h19 => absurd (isIx_y (by decide) hi3 hjb) h19) (fun h19 => ?_)
  refine g_iload_n Z dX6_join_22 rfl ?_
  refine g_if_lt Z 31 dX6_join_23 (by decide) (fun h23 => absurd h23 (hc0)) (fun h23 => ?_)
  refine g_iload_n Z dX6_join_26 rfl ?_
  refine g_iconst (v := 3) Z dX6_join_27 (by decide) ?_
  refine g_icmp_le Z 34 dX6_join_28 (by decide) (fun h28 => ?_) (fun h28 => absurd (hc3) h28)
  refine g_aload_n Z dX6_join_34 rfl ?_
  refine g_iconst (v := 1) Z dX6_join_35 (by decide) ?_
  refine g_cvI Z (c_X6_takeWork F.l F.D F.cy F.nw _ x sa sp pl la br h n u rd rk rt w hx 1 (by omega)) 1 gX6_join_X6_takeWork rfl (by decide +kernel) (by rw [hRf, hRl]; decide) (by assumption) (κ := 5) (by assumption) rfl (by decide) rfl rfl (Nat.le_of_ble_eq_true rfl) dX6_join_36 (by rw [hRc, hRs]; omega) (fun r1 T1 hq1 => ?_)
  refine g_if_ne Z 45 dX6_join_39 (by decide) (fun h39 => ?_) (fun h39 => ?_)
  · obtain rfl : T1 = S.setI x 5 (nI (w - 1)) := by
      rcases hq1 with ⟨-, -, h3⟩ | ⟨h1, -⟩
      · exact h3
      · exact absurd h1 h39
    have hx1 := hx.work (w2 := w - 1) (by omega)
    generalize S.setI x 5 (nI (w - 1)) = T1 at hx1 ⊢
    obtain ⟨hxL1, hxK1, hsa1, hsp1, hpl1, hbr1, hrd1, -, -, hSa1, hSp1, hPl1, hB1, hR1⟩ := id hx1
    obtain ⟨hsaL1, hsaK1, hsal1, hsas1⟩ := id hSa1
    obtain ⟨is1, us1, hsp2⟩ := id hSp1
    obtain ⟨a1, ha1, ia1, ua1, hsa2⟩ := hsas1 ja hja
    obtain ⟨b1, hb1, ib1, ub1, hsb2⟩ := hsas1 jb hjb
    refine g_aload_n Z dX6_join_45 rfl ?_
    refine g_getr Z 5 1 rfl (by decide) in5 lk16 dX6_join_46 (by assumption) (by assumption) (by assumption) ?_
    refine g_iload_n Z dX6_join_49 rfl ?_
    refine g_aload_n Z dX6_join_50 rfl ?_
    refine g_getr Z 5 0 rfl (by decide) in5 lk11 dX6_join_51 (by assumption) (by assumption) (by assumption) ?_
    refine g_iload_n Z dX6_join_54 rfl ?_
    refine g_aald11 Z dX6_join_55 (by assumption) (by assumption) (by exact vin_of hsal1 (by omega) (by decide)) (by rw [hca]; exact ha1) ?_
    refine g_aload_n Z dX6_join_56 rfl ?_
    refine g_getr Z 5 0 rfl (by decide) in5 lk11 dX6_join_57 (by assumption) (by assumption) (by assumption) ?_
    refine g_iload Z dX6_join_60 rfl ?_
    refine g_aald11 Z dX6_join_62 (by assumption) (by assumption) (by exact vin_of hsal1 (by omega) (by decide)) (by rw [hcb]; exact hb1) ?_
    refine g_cvI Z (c_X2_becomeJoin F.l F.D F.cy F.nw _ sp is1 us1 a1 ia1 ua1 b1 ib1 ub1 hsp2 hsa2 hsb2 _) 3 gX6_join_X2_becomeJoin rfl (by decide +kernel) (by rw [hRf, hRl]; decide) (by exact hsp2.1) (κ := 2) (by exact hsp2.2.1) rfl (by decide) rfl rfl (Nat.le_of_ble_eq_true rfl) dX6_join_63 (by rw [hRc, hRs]; omega) (fun r2 T2 hp => ?_)
    obtain ⟨-, hE2⟩ := hp
    have hx2 := hx1.es hE2
    obtain ⟨hxL2, hxK2, hsa3, hsp3, -, -, -, -, -, hSa2, hSp2, -, -, -⟩ := id hx2
    obtain ⟨hsaL2, hsaK2, hsal2, hsas2⟩ := id hSa2
    obtain ⟨t2, ht2, it2, ut2, hst2⟩ := hsas2 jt hjt
    obtain ⟨is2, us2, hss2⟩ := id hSp2
    refine g_if_ne Z 72 dX6_join_66 (by decide) (fun h66 => ?_) (fun h66 => ?_)
    · refine g_aload_n Z dX6_join_72 rfl ?_
      refine g_getr Z 5 0 rfl (by decide) in5 lk11 dX6_join_73 (by assumption) (by assumption) (by assumption) ?_
      refine g_iload_n Z dX6_join_76 rfl ?_
      refine g_aald11 Z dX6_join_77 (by assumption) (by assumption) (by exact vin_of hsal2 (by omega) (by decide)) (by rw [hct]; exact ht2) ?_
      refine g_aload_n Z dX6_join_78 rfl ?_
      refine g_getr Z 5 1 rfl (by decide) in5 lk16 dX6_join_79 (by assumption) (by assumption) (by assumption) ?_
      refine g_cvV Z (c_X2_exchange F.l F.D F.cy F.nw _ t2 sp it2 is2 ut2 us2 hst2 hss2) 1 gX6_join_X2_exchange rfl (by decide +kernel) (by rw [hRf, hRl]; decide) (by exact hst2.1) (κ := 2) (by exact hst2.2.1) rfl (by decide) rfl rfl (Nat.le_of_ble_eq_true rfl) dX6_join_82 (by rw [hRc, hRs]; omega) (fun T3 hq3 => ?_)
      have hx3 := hx2.es hq3
      obtain ⟨hxL3, hxK3, hsa4, -, -, -, -, -, -, hSa3, -, -, -, -⟩ := id hx3
      obtain ⟨hsaL3, hsaK3, hsal3, hsas3⟩ := id hSa3
      obtain ⟨t3, ht3, it3, ut3, hst3⟩ := hsas3 jt hjt
      refine g_aload_n Z dX6_join_85 rfl ?_
      refine g_getr Z 5 0 rfl (by decide) in5 lk11 dX6_join_86 (by assumption) (by assumption) (by assumption) ?_
      refine g_iload_n Z dX6_join_89 rfl ?_
      refine g_aald11 Z dX6_join_90 (by assumption) (by assumption) (by exact vin_of hsal3 (by omega) (by decide)) (by rw [hct]; exact ht3) ?_
      refine g_cvI Z (c_X2_total F.l F.D F.cy F.nw _ t3 it3 ut3 hst3) 0 gX6_join_X2_total rfl (by decide +kernel) (by rw [hRf, hRl]; decide) (by exact hst3.1) (κ := 2) (by exact hst3.2.1) rfl (by decide) rfl rfl (Nat.le_of_ble_eq_true rfl) dX6_join_91 (by rw [hRc, hRs]; omega) (fun r4 T4 hq4 => ?_)
      obtain rfl := hq4
      exact g_iret Z dX6_join_94 (by omega) (by omega) (hx3)
    · refine g_bipush (v := (-3)) Z dX6_join_69 (by decide) ?_
      exact g_iret Z dX6_join_71 (by omega) (by omega) (hx2)
  · rcases hq1 with ⟨h1, -⟩ | ⟨-, -, h3⟩
    · rw [h1] at h39; exact absurd h39 (by decide)
    · omega

set_option maxRecDepth 100000 in
set_option maxHeartbeats 2000000 in
/-- a join that is refused -/
theorem c_X6_join_n (l : Launch) (D : va_G) (cy : Nat → ClassId) (nw : Nat) (S : PS) (x sa sp pl la br h n u rd rk rt w : Nat) (hx : XA S nw x sa sp pl la br h n u rd rk rt w) (t c a b : Int32) (hno : ¬ (isS t ∧ isS a ∧ isS b ∧ ¬ c < 0 ∧ c ≤ 3 ∧ 1 ≤ w)) : kI l yX6_join wsX6_join 1 21 D cy nw [.ref x, .int t, .int c, .int a, .int b] S (fun _ T => S = T) 0 0 := by
  refine enterI (cc := cX6_join) (nL := 5) (ret := (some .int)) (by decide +kernel) rfl (Nat.le_of_ble_eq_true rfl) ?_
  intro F Z hl hR hD hcy hnw hnm
  subst hl hD hcy hnw
  have hRf : F.R.frames = 1 := by rw [hR]
  have hRc : F.R.cells = 0 := by rw [hR]
  have hRs : F.R.slots = 0 := by rw [hR]
  have hRl : F.R.locals = 21 := by rw [hR]
  obtain ⟨hxL, hxK, hsa, hsp, hpl, hbr, hrd, hxw, hw3, hSa, hSp, hPl, hB, hR⟩ := id hx
  obtain ⟨hsaL, hsaK, hsal, hsas⟩ := id hSa
  refine g_iload_n Z dX6_join_0 rfl ?_
  refine g_csI Z (c_X6_isNoSet F.l F.D F.cy F.nw _ _) 1 gX6_join_X6_isNoSet rfl (by decide +kernel) (by rw [hRf, hRl]; decide) rfl rfl (Nat.le_of_ble_eq_true rfl) dX6_join_1 (by rw [hRc, hRs]; omega) (fun r0 T0 hq0 => ?_)
  obtain ⟨rfl, hi1⟩ := hq0
  refine g_if_ne Z 31 dX6_join_4 (by decide) (fun h4 => ?_) (fun h4 => ?_)
  · refine g_bipush (v := (-2)) Z dX6_join_31 (by decide) ?_
    exact g_iret Z dX6_join_33 (by omega) (by omega) (rfl)
  · have it := isIx_0 hi1 h4
    refine g_iload_n Z dX6_join_7 rfl ?_
    refine g_csI Z (c_X6_isNoSet F.l F.D F.cy F.nw _ _) 1 gX6_join_X6_isNoSet rfl (by decide +kernel) (by rw [hRf, hRl]; decide) rfl rfl (Nat.le_of_ble_eq_true rfl) dX6_join_8 (by rw [hRc, hRs]; omega) (fun r0 T0 hq0 => ?_)
    obtain ⟨rfl, hi2⟩ := hq0
    refine g_if_ne Z 31 dX6_join_11 (by decide) (fun h11 => ?_) (fun h11 => ?_)
    · refine g_bipush (v := (-2)) Z dX6_join_31 (by decide) ?_
      exact g_iret Z dX6_join_33 (by omega) (by omega) (rfl)
    · have ia := isIx_0 hi2 h11
      refine g_iload Z dX6_join_14 rfl ?_
      refine g_csI Z (c_X6_isNoSet F.l F.D F.cy F.nw _ _) 1 gX6_join_X6_isNoSet rfl (by decide +kernel) (by rw [hRf, hRl]; decide) rfl rfl (Nat.le_of_ble_eq_true rfl) dX6_join_16 (by rw [hRc, hRs]; omega) (fun r0 T0 hq0 => ?_)
      obtain ⟨rfl, hi3⟩ := hq0
      refine g_if_ne Z 31 dX6_join_19 (by decide) (fun h19 => ?_) (fun h19 => ?_)
      · refine g_bipush (v := (-2)) Z dX6_join_31 (by decide) ?_
        exact g_iret Z dX6_join_33 (by omega) (by omega) (rfl)
      · have ib := isIx_0 hi3 h19
        refine g_iload_n Z dX6_join_22 rfl ?_
        refine g_if_lt Z 31 dX6_join_23 (by decide) (fun h23 => ?_) (fun h23 => ?_)
        · refine g_bipush (v := (-2)) Z dX6_join_31 (by decide) ?_
          exact g_iret Z dX6_join_33 (by omega) (by omega) (rfl)
        · refine g_iload_n Z dX6_join_26 rfl ?_
          refine g_iconst (v := 3) Z dX6_join_27 (by decide) ?_
          refine g_icmp_le Z 34 dX6_join_28 (by decide) (fun h28 => ?_) (fun h28 => ?_)
          · refine g_aload_n Z dX6_join_34 rfl ?_
            refine g_iconst (v := 1) Z dX6_join_35 (by decide) ?_
            refine g_cvI Z (c_X6_takeWork F.l F.D F.cy F.nw _ x sa sp pl la br h n u rd rk rt w hx 1 (by omega)) 1 gX6_join_X6_takeWork rfl (by decide +kernel) (by rw [hRf, hRl]; decide) (by assumption) (κ := 5) (by assumption) rfl (by decide) rfl rfl (Nat.le_of_ble_eq_true rfl) dX6_join_36 (by rw [hRc, hRs]; omega) (fun r1 T1 hq1 => ?_)
            refine g_if_ne Z 45 dX6_join_39 (by decide) (fun h39 => ?_) (fun h39 => ?_)
            · rcases hq1 with ⟨-, h2, -⟩ | ⟨h1, -⟩
              · exact absurd ⟨it, ia, ib, h23, h28, h2⟩ hno
              · exact absurd h1 h39
            · obtain rfl : S = T1 := by
                rcases hq1 with ⟨h1, -⟩ | ⟨-, h2, -⟩
                · rw [h1] at h39; exact absurd h39 (by decide)
                · exact h2
              refine g_bipush (v := (-5)) Z dX6_join_42 (by decide) ?_
              exact g_iret Z dX6_join_44 (by omega) (by omega) (rfl)
          · refine g_bipush (v := (-2)) Z dX6_join_31 (by decide) ?_
            exact g_iret Z dX6_join_33 (by omega) (by omega) (rfl)
