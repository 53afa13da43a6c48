theorem lN_2 {v : Nat} (h : v < 2 ^ (8 * 2)) : (lN v).toInt32 = nI v ∧ v < 65536 := ⟨lN_i v, h⟩

set_option maxRecDepth 100000 in
set_option maxHeartbeats 2000000 in
/-- an array is read -/
theorem c_X4_takeArray (l : Launch) (D : va_G) (cy : Nat → ClassId) (nw : Nat) (S : PS) (rd rk rt p e : Nat) (hr : RdAt S rd rk rt p e) (br h n u : Nat) (hb : BytesAt S br h n u) (heu : e ≤ u) (c : Nat) (hc : Cr S c) (x : Int32) : kI l yX4_takeArray wsX4_takeArray 3 70 D cy nw [.ref rd, .ref br, .ref c, .int x] S (fun r T => (r = 0 ∨ r = 1) ∧ Ei nw rd S T ∧ ∃ p2 : Nat, p2 ≤ e ∧ T.fi rd 2 = nI p2) 0 0 := by
  refine enterI (cc := cX4_takeArray) (nL := 7) (ret := (some .boolean)) (by decide +kernel) rfl (Nat.le_of_ble_eq_true rfl) ?_
  intro F Z hl hR hD hcy hnw hnm
  subst hl hD hcy hnw
  have hRf : F.R.frames = 3 := by rw [hR]
  have hRc : F.R.cells = 0 := by rw [hR]
  have hRs : F.R.slots = 0 := by rw [hR]
  have hRl : F.R.locals = 70 := by rw [hR]
  have in4 : ∀ w ∈ u_ws RX4 TX4 10, w ∈ wsX4_takeArray := by decide +kernel
  have lk25 : Cond.fieldLink RX4 25 (TX4 2).1 (TX4 2).2.1 (TX4 2).2.2.1 ∈ wsX4_takeArray := by decide +kernel
  have loop : ∀ (m k : Nat) (a : Int32) (q p : Nat) (T : PS), x.toNatClampNeg - k < m → (Ei F.nw rd S T ∧ RdAt T rd rk rt p e ∧ k < 2 ^ 31) → lvsub [(6, .int (nI q))] [] → G F 7 T 0 0 (QI F (fun r T => (r = 0 ∨ r = 1) ∧ Ei F.nw rd S T ∧ ∃ p2 : Nat, p2 ≤ e ∧ T.fi rd 2 = nI p2) 0 0) 6 [(0, .ref rd), (1, .ref br), (2, .ref c), (3, .int x), (4, .int a), (5, .int (nI k))] [] := by
    intro m
    induction m with
    | zero => intros; omega
    | succ m ih =>
      intro k a q p T hm ⟨hE, hr2, hk⟩ hz
      have hb2 := hE.bytes hr.2.1 hb
      have hc2 := hE.2.2.2.2 c hc
      obtain ⟨hrL, hrK, hrk, hkL, hkK, hkl, hrt, htL, htK, htl, hkt, hrp, hre, hpe, he6, hkeys⟩ := id hr2
      refine g_iload Z dX4_takeArray_6 rfl ?_
      refine g_iload_n Z dX4_takeArray_8 rfl ?_
      refine g_icmp_ge Z 71 dX4_takeArray_9 (by decide) (fun h9 => ?_) (fun h9 => ?_)
      · refine g_iconst (v := 1) Z dX4_takeArray_71 (by decide) ?_
        exact g_zret Z dX4_takeArray_72 (by rfl) (by omega) (by omega) (⟨Or.inr rfl, hE, p, hpe, hrp⟩)
      · have hlt : k < x.toNatClampNeg := lt_clamp hk h9
        have hxb := clamp_lt x
        refine g_aload_n Z dX4_takeArray_12 rfl ?_
        refine g_iconst (v := 2) Z dX4_takeArray_13 (by decide) ?_
        refine g_cvI Z (c_X4_isThere F.l F.D F.cy F.nw _ rd rk rt p e hr2 2 (by decide)) 1 gX4_takeArray_X4_isThere rfl (by decide +kernel) (by rw [hRf, hRl]; decide) (by assumption) (κ := 4) (by assumption) rfl (by decide) rfl rfl (Nat.le_of_ble_eq_true rfl) dX4_takeArray_14 (by rw [hRc, hRs]; omega) (fun r T1 hp => ?_)
        obtain ⟨hE1, hp1, hcase⟩ := hp
        have hr3 := hE1.rd hr2 hp1 hpe
        have hb3 := hE1.bytes hrK hb2
        have hrL3 := hr3.1
        have hrK3 := hr3.2.1
        refine g_if_ne Z 22 dX4_takeArray_17 (by decide) (fun h17 => ?_) (fun h17 => ?_)
        · have hp2 : p + 2 ≤ e := by
            rcases hcase with ⟨-, h⟩ | h
            · exact h
            · exact absurd h h17
          refine g_aload_n Z dX4_takeArray_22 rfl ?_
          refine g_aload_n Z dX4_takeArray_23 rfl ?_
          refine g_iconst (v := 2) Z dX4_takeArray_24 (by decide) ?_
          refine g_cvL Z (c_X4_take F.l F.D F.cy F.nw _ rd rk rt p e hr3 br h n u hb3 heu 2 (by decide) hp2) 2 gX4_takeArray_X4_take rfl (by decide +kernel) (by rw [hRf, hRl]; decide) (by assumption) (κ := 4) (by assumption) rfl (by decide) rfl rfl (Nat.le_of_ble_eq_true rfl) dX4_takeArray_25 (by rw [hRc, hRs]; omega) (fun r2 T2 hq => ?_)
          obtain ⟨hE2, hp3, v, hv, rfl⟩ := hq
          have hr4 := hE2.rd hr3 hp3 hp2
          have hE02 := (hE.tr hE1).tr hE2
          have hc4 := hE02.2.2.2.2 c hc
          have hrL4 := hr4.1
          have hrK4 := hr4.2.1
          obtain ⟨hcL4, hcK4, -, -⟩ := id hc4
          refine g_l2i Z dX4_takeArray_28 ?_
          rw [(lN_2 hv).1]
          refine g_istore Z dX4_takeArray_29 (by decide) ?_
          refine g_iload Z dX4_takeArray_31 rfl ?_
          refine g_iload Z dX4_takeArray_33 rfl ?_
          refine g_icmp_gt Z 51 dX4_takeArray_35 (by decide) (fun h35 => ?_) (fun h35 => ?_)
          · refine g_aload_n Z dX4_takeArray_51 rfl ?_
            refine g_iload Z dX4_takeArray_52 rfl ?_
            refine g_iload Z dX4_takeArray_54 rfl ?_
            refine g_iconst (v := 0) Z dX4_takeArray_56 (by decide) ?_
            refine g_cvI Z (c_X1_changeLows F.l F.D F.cy F.nw _ c hc4 v v (lN_2 hv).2 (lN_2 hv).2 _) 3 gX4_takeArray_X1_changeLows rfl (by decide +kernel) (by rw [hRf, hRl]; decide) (by assumption) (κ := 1) (by assumption) rfl (by decide) rfl rfl (Nat.le_of_ble_eq_true rfl) dX4_takeArray_57 (by rw [hRc, hRs]; omega) (fun r3 T3 hq2 => ?_)
            obtain ⟨hC, -⟩ := hq2
            have hEx : Ex F.nw T2 T3 := hC.ex hcK4
            have hE3 := Ei.of hEx hrL4 hrK4
            have hp4 : T3.fi rd 2 = nI (p + 2) := by
              rw [((hEx.1 rd hrL4).2.2.2.1 (by rw [hrK4]; decide)).1]; exact hp3
            have hr5 := hE3.rd hr4 hp4 hp2
            refine g_pop Z dX4_takeArray_60 rfl ?_
            refine g_iload Z dX4_takeArray_61 rfl ?_
            refine g_istore Z dX4_takeArray_63 (by decide) ?_
            refine g_iinc (c := 1) Z dX4_takeArray_65 rfl (by decide) (by decide) ?_
            rw [nI_1]
            refine g_goto Z 6 dX4_takeArray_68 (by decide) ?_
            exact g_lv (by (repeat (first | exact trivial | refine And.intro rfl ?_)); done) (ih (k + 1) _ 0 (p + 2) T3 (by omega) ⟨hE02.tr hE3, hr5, by omega⟩ trivial)
          · refine g_aload_n Z dX4_takeArray_38 rfl ?_
            refine g_bipush (v := 7) Z dX4_takeArray_39 (by decide) ?_
            refine g_aload_n Z dX4_takeArray_41 rfl ?_
            refine g_geti Z 4 2 rfl (by decide) in4 lk25 dX4_takeArray_42 (by assumption) (by assumption) ?_
            refine g_iconst (v := 2) Z dX4_takeArray_45 (by decide) ?_
            refine g_isub Z dX4_takeArray_46 ?_
            refine g_cvI Z (c_X4_tellFault F.l F.D F.cy F.nw _ rd rk rt (p + 2) e hr4 _ _) 2 gX4_takeArray_X4_tellFault rfl (by decide +kernel) (by rw [hRf, hRl]; decide) (by assumption) (κ := 4) (by assumption) rfl (by decide) rfl rfl (Nat.le_of_ble_eq_true rfl) dX4_takeArray_47 (by rw [hRc, hRs]; omega) (fun r3 T3 hq2 => ?_)
            obtain ⟨rfl, hE3, hp4⟩ := hq2
            exact g_zret Z dX4_takeArray_50 (by rfl) (by omega) (by omega) (⟨Or.inl rfl, hE02.tr hE3, p + 2, hp2, hp4⟩)
        · refine g_iconst (v := 0) Z dX4_takeArray_20 (by decide) ?_
          exact g_zret Z dX4_takeArray_21 (by rfl) (by omega) (by omega) (⟨Or.inl rfl, hE.tr hE1, p, hpe, hp1⟩)
  refine g_iconst (v := (-1)) Z dX4_takeArray_0 (by decide) ?_
  refine g_istore Z dX4_takeArray_1 (by decide) ?_
  refine g_iconst (v := 0) Z dX4_takeArray_3 (by decide) ?_
  refine g_istore Z dX4_takeArray_4 (by decide) ?_
  exact g_lv (by (repeat (first | exact trivial | refine And.intro rfl ?_)); done) (loop (2 ^ 31) 0 _ 0 p S (by have := clamp_lt x; omega) ⟨Ei.rf, hr, by decide⟩ trivial)

set_option maxRecDepth 100000 in
set_option maxHeartbeats 2000000 in
/-- a bitmap is read -/
theorem c_X4_takeBitmap (l : Launch) (D : va_G) (cy : Nat → ClassId) (nw : Nat) (S : PS) (rd rk rt p e : Nat) (hr : RdAt S rd rk rt p e) (br h n u : Nat) (hb : BytesAt S br h n u) (heu : e ≤ u) (c : Nat) (hc : Cr S c) (x : Int32) : kI l yX4_takeBitmap wsX4_takeBitmap 3 70 D cy nw [.ref rd, .ref br, .ref c, .int x] S (fun r T => (r = 0 ∨ r = 1) ∧ Ei nw rd S T ∧ ∃ p2 : Nat, p2 ≤ e ∧ T.fi rd 2 = nI p2) 0 0 := by
  refine enterI (cc := cX4_takeBitmap) (nL := 5) (ret := (some .boolean)) (by decide +kernel) rfl (Nat.le_of_ble_eq_true rfl) ?_
  intro F Z hl hR hD hcy hnw hnm
  subst hl hD hcy hnw
  have hRf : F.R.frames = 3 := by rw [hR]
  have hRc : F.R.cells = 0 := by rw [hR]
  have hRs : F.R.slots = 0 := by rw [hR]
  have hRl : F.R.locals = 70 := by rw [hR]
  have in1 : ∀ w ∈ u_ws RX1 TX1 4, w ∈ wsX4_takeBitmap := by decide +kernel
  have in4 : ∀ w ∈ u_ws RX4 TX4 10, w ∈ wsX4_takeBitmap := by decide +kernel
  have lk25 : Cond.fieldLink RX4 25 (TX4 2).1 (TX4 2).2.1 (TX4 2).2.2.1 ∈ wsX4_takeBitmap := by decide +kernel
  have lk125 : Cond.fieldLink RX4 125 (TX1 3).1 (TX1 3).2.1 (TX1 3).2.2.1 ∈ wsX4_takeBitmap := by decide +kernel
  have lk129 : Cond.fieldLink RX4 129 (TX1 2).1 (TX1 2).2.1 (TX1 2).2.2.1 ∈ wsX4_takeBitmap := by decide +kernel
  have loop : ∀ (m k : Nat) (p : Nat) (T : PS), 1024 - k < m → (Ei F.nw rd S T ∧ RdAt T rd rk rt p e ∧ k ≤ 1024 ∧ p + 8 * (1024 - k) ≤ e) → G F 5 T 0 0 (QI F (fun r T => (r = 0 ∨ r = 1) ∧ Ei F.nw rd S T ∧ ∃ p2 : Nat, p2 ≤ e ∧ T.fi rd 2 = nI p2) 0 0) 15 [(0, .ref rd), (1, .ref br), (2, .ref c), (3, .int x), (4, .int (nI k))] [] := by
    intro m
    induction m with
    | zero => intros; omega
    | succ m ih =>
      intro k p T hm ⟨hE, hr2, hk, hpk⟩
      have hb2 := hE.bytes hr.2.1 hb
      have hc2 := hE.2.2.2.2 c hc
      obtain ⟨hcL2, hcK2, -, w, hww, hwL, hwK, hwl⟩ := id hc2
      obtain ⟨hrL, hrK, hrk, hkL, hkK, hkl, hrt, htL, htK, htl, hkt, hrp, hre, hpe, he6, hkeys⟩ := id hr2
      refine g_iload Z dX4_takeBitmap_15 rfl ?_
      refine g_sipush (v := 1024) Z dX4_takeBitmap_17 (by decide) ?_
      refine g_icmp_ge Z 62 dX4_takeBitmap_20 (by decide) (fun h20 => ?_) (fun h20 => ?_)
      · refine g_aload_n Z dX4_takeBitmap_62 rfl ?_
        refine g_geti Z 1 2 rfl (by decide) in1 lk129 dX4_takeBitmap_63 (by assumption) (by assumption) ?_
        refine g_iload_n Z dX4_takeBitmap_66 rfl ?_
        refine g_icmp_eq Z 83 dX4_takeBitmap_67 (by decide) (fun h67 => ?_) (fun h67 => ?_)
        · refine g_iconst (v := 1) Z dX4_takeBitmap_83 (by decide) ?_
          refine g_goto Z 88 dX4_takeBitmap_84 (by decide) ?_
          exact g_zret Z dX4_takeBitmap_88 (by rfl) (by omega) (by omega) (by first | exact ⟨Or.inr rfl, hE, p, hpe, hrp⟩ | exact ⟨Or.inl rfl, hE.tr hE3, p, hpe, hp4⟩)
        · refine g_aload_n Z dX4_takeBitmap_70 rfl ?_
          refine g_bipush (v := 8) Z dX4_takeBitmap_71 (by decide) ?_
          refine g_aload_n Z dX4_takeBitmap_73 rfl ?_
          refine g_geti Z 4 2 rfl (by decide) in4 lk25 dX4_takeBitmap_74 (by assumption) (by assumption) ?_
          refine g_cvI Z (c_X4_tellFault F.l F.D F.cy F.nw _ rd rk rt p e hr2 _ _) 2 gX4_takeBitmap_X4_tellFault rfl (by decide +kernel) (by rw [hRf, hRl]; decide) (by assumption) (κ := 4) (by assumption) rfl (by decide) rfl rfl (Nat.le_of_ble_eq_true rfl) dX4_takeBitmap_77 (by rw [hRc, hRs]; omega) (fun r3 T3 hq2 => ?_)
          obtain ⟨rfl, hE3, hp4⟩ := hq2
          refine g_if_eq Z 87 dX4_takeBitmap_80 (by decide) (fun h80 => ?_) (fun h80 => absurd (rfl) h80)
          refine g_iconst (v := 0) Z dX4_takeBitmap_87 (by decide) ?_
          exact g_zret Z dX4_takeBitmap_88 (by rfl) (by omega) (by omega) (by first | exact ⟨Or.inr rfl, hE, p, hpe, hrp⟩ | exact ⟨Or.inl rfl, hE.tr hE3, p, hpe, hp4⟩)
      · have hlt : k < 1024 := ge_f (by omega) (by decide) h20
        refine g_aload_n Z dX4_takeBitmap_23 rfl ?_
        refine g_getr Z 1 3 rfl (by decide) in1 lk125 dX4_takeBitmap_24 (by assumption) (by assumption) (by assumption) ?_
        refine g_iload Z dX4_takeBitmap_27 rfl ?_
        refine g_aload_n Z dX4_takeBitmap_29 rfl ?_
        refine g_aload_n Z dX4_takeBitmap_30 rfl ?_
        refine g_bipush (v := 8) Z dX4_takeBitmap_31 (by decide) ?_
        refine g_cvL Z (c_X4_take F.l F.D F.cy F.nw _ rd rk rt p e hr2 br h n u hb2 heu 8 (by decide) (by omega)) 2 gX4_takeBitmap_X4_take rfl (by decide +kernel) (by rw [hRf, hRl]; decide) (by assumption) (κ := 4) (by assumption) rfl (by decide) rfl rfl (Nat.le_of_ble_eq_true rfl) dX4_takeBitmap_33 (by rw [hRc, hRs]; omega) (fun r T2 hp => ?_)
        obtain ⟨hE2, hp3, v, hv, rfl⟩ := hp
        have hr4 := hE2.rd hr2 hp3 (by omega)
        have hc4 := hE2.2.2.2.2 c hc2
        have hrL4 := hr4.1
        have hrK4 := hr4.2.1
        obtain ⟨hcL4, hcK4, -, w4, hww4, hwL4, hwK4, hwl4⟩ := id hc4
        have hwL5 : w ∈ T2.L := (hE2.1 w hwL).1
        have hwK5 : T2.K w = 9 := (hE2.1 w hwL).2.1.trans hwK
        have hwl5 : T2.ln w = 1024 := (hE2.1 w hwL).2.2.1.trans hwl
        refine g_last Z dX4_takeBitmap_36 (by assumption) (by assumption) (by exact vin_of hwl5 hlt (by decide)) ?_
        refine g_aload_n Z dX4_takeBitmap_37 rfl ?_
        refine g_dup Z dX4_takeBitmap_38 rfl ?_
        refine g_geti Z 1 2 rfl (by decide) in1 lk129 dX4_takeBitmap_39 (by assumption) (by assumption) ?_
        refine g_aload_n Z dX4_takeBitmap_42 rfl ?_
        refine g_getr Z 1 3 rfl (by decide) in1 lk125 dX4_takeBitmap_43 (by assumption) (by assumption) (by assumption) ?_
        refine g_iload Z dX4_takeBitmap_46 rfl ?_
        refine g_lald Z dX4_takeBitmap_48 (by assumption) (by assumption) (by exact vin_of hwl4 hlt (by decide)) ?_
        refine g_csI Z (c_J13_bitCount_95d88 F.l F.D F.cy F.nw _ _) 1 gX4_takeBitmap_J13_bitCount_95d88 rfl (by decide +kernel) (by rw [hRf, hRl]; decide) rfl rfl (Nat.le_of_ble_eq_true rfl) dX4_takeBitmap_49 (by rw [hRc, hRs]; omega) (fun r3 T3 hq => ?_)
        obtain ⟨rfl, -⟩ := hq
        refine g_iadd Z dX4_takeBitmap_52 ?_
        have hCs : ∀ f v2, Cs c T2 ((T2.rowJ w f).setI c 2 v2) := fun f v2 => Cs.rf.rowJ.setI (by decide)
        have hr5 : ∀ f v2, RdAt ((T2.rowJ w f).setI c 2 v2) rd rk rt (p + 8) e := fun f v2 => (Ei.of ((hCs f v2).ex (nw := F.nw) hcK4) hrL4 hrK4).rd hr4 ((up2_ne _ _ (Or.inl (fun e2 => by rw [e2, hcK4] at hrK4; cases hrK4))).trans hp3) (by omega)
        refine g_puti Z 1 2 rfl (by decide) tyX1 tyX1_ok nmX1 rfl in1 lk129 dX4_takeBitmap_53 rfl rfl (by assumption) (by assumption) ?_
        refine g_iinc (c := 1) Z dX4_takeBitmap_56 rfl (by decide) (by decide) ?_
        rw [nI_1]
        refine g_goto Z 15 dX4_takeBitmap_59 (by decide) ?_
        exact g_lv (by (repeat (first | exact trivial | refine And.intro rfl ?_)); done) (ih (k + 1) (p + 8) _ (by omega) ⟨(hE.tr hE2).tr (Ei.of ((hCs _ _).ex hcK4) hrL4 hrK4), hr5 _ _, by omega, by omega⟩)
  obtain ⟨hrL, hrK, hrk, hkL, hkK, hkl, hrt, htL, htK, htl, hkt, hrp, hre, hpe, he6, hkeys⟩ := id hr
  refine g_aload_n Z dX4_takeBitmap_0 rfl ?_
  refine g_sipush (v := 8192) Z dX4_takeBitmap_1 (by decide) ?_
  refine g_cvI Z (c_X4_isThere F.l F.D F.cy F.nw _ rd rk rt p e hr 8192 (by decide)) 1 gX4_takeBitmap_X4_isThere rfl (by decide +kernel) (by rw [hRf, hRl]; decide) (by assumption) (κ := 4) (by assumption) rfl (by decide) rfl rfl (Nat.le_of_ble_eq_true rfl) dX4_takeBitmap_4 (by rw [hRc, hRs]; omega) (fun r T1 hp => ?_)
  obtain ⟨hE1, hp1, hcase⟩ := hp
  have hr3 := hE1.rd hr hp1 hpe
  refine g_if_ne Z 12 dX4_takeBitmap_7 (by decide) (fun h7 => ?_) (fun h7 => ?_)
  · have hp2 : p + 8192 ≤ e := by
      rcases hcase with ⟨-, h⟩ | h
      · exact h
      · exact absurd h h7
    refine g_iconst (v := 0) Z dX4_takeBitmap_12 (by decide) ?_
    refine g_istore Z dX4_takeBitmap_13 (by decide) ?_
    exact g_lv (by (repeat (first | exact trivial | refine And.intro rfl ?_)); done) (loop 1025 0 p T1 (by omega) ⟨hE1, hr3, by omega, by omega⟩)
  · refine g_iconst (v := 0) Z dX4_takeBitmap_10 (by decide) ?_
    exact g_zret Z dX4_takeBitmap_11 (by rfl) (by omega) (by omega) (⟨Or.inl rfl, hE1, p, hpe, hp1⟩)

set_option maxRecDepth 100000 in
set_option maxHeartbeats 2000000 in
/-- runs are read -/
theorem c_X4_takeRuns (l : Launch) (D : va_G) (cy : Nat → ClassId) (nw : Nat) (S : PS) (rd rk rt p e : Nat) (hr : RdAt S rd rk rt p e) (br h n u : Nat) (hb : BytesAt S br h n u) (heu : e ≤ u) (c : Nat) (hc : Cr S c) (x : Int32) : kI l yX4_takeRuns wsX4_takeRuns 3 70 D cy nw [.ref rd, .ref br, .ref c, .int x] S (fun r T => (r = 0 ∨ r = 1) ∧ Ei nw rd S T ∧ ∃ p2 : Nat, p2 ≤ e ∧ T.fi rd 2 = nI p2) 0 0 := by
  refine enterI (cc := cX4_takeRuns) (nL := 9) (ret := (some .boolean)) (by decide +kernel) rfl (Nat.le_of_ble_eq_true rfl) ?_
  intro F Z hl hR hD hcy hnw hnm
  subst hl hD hcy hnw
  have hRf : F.R.frames = 3 := by rw [hR]
  have hRc : F.R.cells = 0 := by rw [hR]
  have hRs : F.R.slots = 0 := by rw [hR]
  have hRl : F.R.locals = 70 := by rw [hR]
  have in1 : ∀ w ∈ u_ws RX1 TX1 4, w ∈ wsX4_takeRuns := by decide +kernel
  have in4 : ∀ w ∈ u_ws RX4 TX4 10, w ∈ wsX4_takeRuns := by decide +kernel
  have lk25 : Cond.fieldLink RX4 25 (TX4 2).1 (TX4 2).2.1 (TX4 2).2.2.1 ∈ wsX4_takeRuns := by decide +kernel
  have lk129 : Cond.fieldLink RX4 129 (TX1 2).1 (TX1 2).2.1 (TX1 2).2.2.1 ∈ wsX4_takeRuns := by decide +kernel
  have ct138 : Cond.constant RX4 138 (65535) ∈ wsX4_takeRuns := by decide +kernel
  have loop : ∀ (m k : Nat) (g p q : Nat) (T : PS), g - k < m → (Ei F.nw rd S T ∧ RdAt T rd rk rt p e ∧ k ≤ g ∧ g < 65536 ∧ q ≤ 65537) → G F 9 T 0 0 (QI F (fun r T => (r = 0 ∨ r = 1) ∧ Ei F.nw rd S T ∧ ∃ p2 : Nat, p2 ≤ e ∧ T.fi rd 2 = nI p2) 0 0) 25 [(0, .ref rd), (1, .ref br), (2, .ref c), (3, .int x), (4, .int (nI g)), (5, .int (nI q)), (6, .int (nI k))] [] := by
    intro m
    induction m with
    | zero => intros; omega
    | succ m ih =>
      intro k g p q T hm ⟨hE, hr2, hk, hg, hq⟩
      have hb2 := hE.bytes hr.2.1 hb
      have hc2 := hE.2.2.2.2 c hc
      obtain ⟨hcL2, hcK2, -, -⟩ := id hc2
      obtain ⟨hrL, hrK, hrk, hkL, hkK, hkl, hrt, htL, htK, htl, hkt, hrp, hre, hpe, he6, hkeys⟩ := id hr2
      refine g_iload Z dX4_takeRuns_25 rfl ?_
      refine g_iload Z dX4_takeRuns_27 rfl ?_
      refine g_icmp_ge Z 112 dX4_takeRuns_29 (by decide) (fun h29 => ?_) (fun h29 => ?_)
      · refine g_aload_n Z dX4_takeRuns_112 rfl ?_
        refine g_geti Z 1 2 rfl (by decide) in1 lk129 dX4_takeRuns_113 (by assumption) (by assumption) ?_
        refine g_iload_n Z dX4_takeRuns_116 rfl ?_
        refine g_icmp_eq Z 133 dX4_takeRuns_117 (by decide) (fun h117 => ?_) (fun h117 => ?_)
        · refine g_iconst (v := 1) Z dX4_takeRuns_133 (by decide) ?_
          refine g_goto Z 138 dX4_takeRuns_134 (by decide) ?_
          exact g_zret Z dX4_takeRuns_138 (by rfl) (by omega) (by omega) (by first | exact ⟨Or.inr rfl, hE, p, hpe, hrp⟩ | exact ⟨Or.inl rfl, hE.tr hE3, p, hpe, hp4⟩)
        · refine g_aload_n Z dX4_takeRuns_120 rfl ?_
          refine g_bipush (v := 8) Z dX4_takeRuns_121 (by decide) ?_
          refine g_aload_n Z dX4_takeRuns_123 rfl ?_
          refine g_geti Z 4 2 rfl (by decide) in4 lk25 dX4_takeRuns_124 (by assumption) (by assumption) ?_
          refine g_cvI Z (c_X4_tellFault F.l F.D F.cy F.nw _ rd rk rt p e hr2 _ _) 2 gX4_takeRuns_X4_tellFault rfl (by decide +kernel) (by rw [hRf, hRl]; decide) (by assumption) (κ := 4) (by assumption) rfl (by decide) rfl rfl (Nat.le_of_ble_eq_true rfl) dX4_takeRuns_127 (by rw [hRc, hRs]; omega) (fun r3 T3 hq2 => ?_)
          obtain ⟨rfl, hE3, hp4⟩ := hq2
          refine g_if_eq Z 137 dX4_takeRuns_130 (by decide) (fun h130 => ?_) (fun h130 => absurd (rfl) h130)
          refine g_iconst (v := 0) Z dX4_takeRuns_137 (by decide) ?_
          exact g_zret Z dX4_takeRuns_138 (by rfl) (by omega) (by omega) (by first | exact ⟨Or.inr rfl, hE, p, hpe, hrp⟩ | exact ⟨Or.inl rfl, hE.tr hE3, p, hpe, hp4⟩)
      · have hlt : k < g := ge_f (by omega) (by omega) h29
        refine g_aload_n Z dX4_takeRuns_32 rfl ?_
        refine g_iconst (v := 4) Z dX4_takeRuns_33 (by decide) ?_
        refine g_cvI Z (c_X4_isThere F.l F.D F.cy F.nw _ rd rk rt p e hr2 4 (by decide)) 1 gX4_takeRuns_X4_isThere rfl (by decide +kernel) (by rw [hRf, hRl]; decide) (by assumption) (κ := 4) (by assumption) rfl (by decide) rfl rfl (Nat.le_of_ble_eq_true rfl) dX4_takeRuns_34 (by rw [hRc, hRs]; omega) (fun r T1 hp => ?_)
        obtain ⟨hE1, hp1, hcase⟩ := hp
        have hr3 := hE1.rd hr2 hp1 hpe
        have hb3 := hE1.bytes hrK hb2
        have hrL3 := hr3.1
        have hrK3 := hr3.2.1
        refine g_if_ne Z 42 dX4_takeRuns_37 (by decide) (fun h37 => ?_) (fun h37 => ?_)
        · have hp2 : p + 4 ≤ e := by
            rcases hcase with ⟨-, h⟩ | h
            · exact h
            · exact absurd h h37
          refine g_aload_n Z dX4_takeRuns_42 rfl ?_
          refine g_aload_n Z dX4_takeRuns_43 rfl ?_
          refine g_iconst (v := 2) Z dX4_takeRuns_44 (by decide) ?_
          refine g_cvL Z (c_X4_take F.l F.D F.cy F.nw _ rd rk rt p e hr3 br h n u hb3 heu 2 (by decide) (by omega)) 2 gX4_takeRuns_X4_take rfl (by decide +kernel) (by rw [hRf, hRl]; decide) (by assumption) (κ := 4) (by assumption) rfl (by decide) rfl rfl (Nat.le_of_ble_eq_true rfl) dX4_takeRuns_45 (by rw [hRc, hRs]; omega) (fun r2 T2 hq2 => ?_)
          obtain ⟨hE2, hp3, v, hv, rfl⟩ := hq2
          have hr4 := hE2.rd hr3 hp3 (by omega)
          have hb4 := hE2.bytes hrK3 hb3
          have hrL4 := hr4.1
          have hrK4 := hr4.2.1
          refine g_l2i Z dX4_takeRuns_48 ?_
          rw [(lN_2 hv).1]
          refine g_istore Z dX4_takeRuns_49 (by decide) ?_
          refine g_iload Z dX4_takeRuns_51 rfl ?_
          refine g_aload_n Z dX4_takeRuns_53 rfl ?_
          refine g_aload_n Z dX4_takeRuns_54 rfl ?_
          refine g_iconst (v := 2) Z dX4_takeRuns_55 (by decide) ?_
          refine g_cvL Z (c_X4_take F.l F.D F.cy F.nw _ rd rk rt (p + 2) e hr4 br h n u hb4 heu 2 (by decide) (by omega)) 2 gX4_takeRuns_X4_take rfl (by decide +kernel) (by rw [hRf, hRl]; decide) (by assumption) (κ := 4) (by assumption) rfl (by decide) rfl rfl (Nat.le_of_ble_eq_true rfl) dX4_takeRuns_56 (by rw [hRc, hRs]; omega) (fun r2 T3 hq2 => ?_)
          obtain ⟨hE3, hp4, v2, hv2, rfl⟩ := hq2
          have hr5 := hE3.rd hr4 hp4 (by omega)
          have hE03 := ((hE.tr hE1).tr hE2).tr hE3
          have hc5 := hE03.2.2.2.2 c hc
          have hrL5 := hr5.1
          have hrK5 := hr5.2.1
          obtain ⟨hcL5, hcK5, -, -⟩ := id hc5
          have hv65 := (lN_2 hv).2
          have hv265 := (lN_2 hv2).2
          refine g_l2i Z dX4_takeRuns_59 ?_
          rw [(lN_2 hv2).1]
          refine g_iadd Z dX4_takeRuns_60 ?_
          rw [nI_add]
          refine g_istore Z dX4_takeRuns_61 (by decide) ?_
          refine g_iload Z dX4_takeRuns_63 rfl ?_
          refine g_iload Z dX4_takeRuns_65 rfl ?_
          refine g_icmp_lt Z 77 dX4_takeRuns_67 (by decide) (fun h67 => ?_) (fun h67 => ?_)
          · refine g_aload_n Z dX4_takeRuns_77 rfl ?_
            refine g_bipush (v := 7) Z dX4_takeRuns_78 (by decide) ?_
            refine g_aload_n Z dX4_takeRuns_80 rfl ?_
            refine g_geti Z 4 2 rfl (by decide) in4 lk25 dX4_takeRuns_81 (by assumption) (by assumption) ?_
            refine g_iconst (v := 4) Z dX4_takeRuns_84 (by decide) ?_
            refine g_isub Z dX4_takeRuns_85 ?_
            refine g_cvI Z (c_X4_tellFault F.l F.D F.cy F.nw _ rd rk rt (p + 2 + 2) e hr5 _ _) 2 gX4_takeRuns_X4_tellFault rfl (by decide +kernel) (by rw [hRf, hRl]; decide) (by assumption) (κ := 4) (by assumption) rfl (by decide) rfl rfl (Nat.le_of_ble_eq_true rfl) dX4_takeRuns_86 (by rw [hRc, hRs]; omega) (fun r3 T4 hq3 => ?_)
            obtain ⟨rfl, hE4, hp5⟩ := hq3
            exact g_zret Z dX4_takeRuns_89 (by rfl) (by omega) (by omega) (⟨Or.inl rfl, hE03.tr hE4, p + 2 + 2, by omega, hp5⟩)
          · refine g_iload Z dX4_takeRuns_70 rfl ?_
            refine g_ldc (v := 65535) Z dX4_takeRuns_72 ct138 ?_
            refine g_icmp_le Z 90 dX4_takeRuns_74 (by decide) (fun h74 => ?_) (fun h74 => ?_)
            · have hle : v + v2 ≤ 65535 := le_t (by omega) (by decide) h74
              refine g_aload_n Z dX4_takeRuns_90 rfl ?_
              refine g_iload Z dX4_takeRuns_91 rfl ?_
              refine g_iload Z dX4_takeRuns_93 rfl ?_
              refine g_iconst (v := 0) Z dX4_takeRuns_95 (by decide) ?_
              refine g_cvI Z (c_X1_changeLows F.l F.D F.cy F.nw _ c hc5 v (v + v2) hv65 (by omega) _) 3 gX4_takeRuns_X1_changeLows rfl (by decide +kernel) (by rw [hRf, hRl]; decide) (by assumption) (κ := 1) (by assumption) rfl (by decide) rfl rfl (Nat.le_of_ble_eq_true rfl) dX4_takeRuns_96 (by rw [hRc, hRs]; omega) (fun r3 T4 hq3 => ?_)
              obtain ⟨hC, -⟩ := hq3
              have hEx : Ex F.nw T3 T4 := hC.ex hcK5
              have hE4 := Ei.of hEx hrL5 hrK5
              have hp5 : T4.fi rd 2 = nI (p + 2 + 2) := by
                rw [((hEx.1 rd hrL5).2.2.2.1 (by rw [hrK5]; decide)).1]; exact hp4
              have hr6 := hE4.rd hr5 hp5 (by omega)
              refine g_pop Z dX4_takeRuns_99 rfl ?_
              refine g_iload Z dX4_takeRuns_100 rfl ?_
              refine g_iconst (v := 2) Z dX4_takeRuns_102 (by decide) ?_
              refine g_iadd Z dX4_takeRuns_103 ?_
              rw [show nI (v + v2) + 2 = nI (v + v2 + 2) from nI_add (v + v2) 2]
              refine g_istore Z dX4_takeRuns_104 (by decide) ?_
              refine g_iinc (c := 1) Z dX4_takeRuns_106 rfl (by decide) (by decide) ?_
              rw [nI_1]
              refine g_goto Z 25 dX4_takeRuns_109 (by decide) ?_
              exact g_lv (by (repeat (first | exact trivial | refine And.intro rfl ?_)); done) (ih (k + 1) g (p + 2 + 2) (v + v2 + 2) T4 (by omega) ⟨hE03.tr hE4, hr6, by omega, by omega, by omega⟩)
            · refine g_aload_n Z dX4_takeRuns_77 rfl ?_
              refine g_bipush (v := 7) Z dX4_takeRuns_78 (by decide) ?_
              refine g_aload_n Z dX4_takeRuns_80 rfl ?_
              refine g_geti Z 4 2 rfl (by decide) in4 lk25 dX4_takeRuns_81 (by assumption) (by assumption) ?_
              refine g_iconst (v := 4) Z dX4_takeRuns_84 (by decide) ?_
              refine g_isub Z dX4_takeRuns_85 ?_
              refine g_cvI Z (c_X4_tellFault F.l F.D F.cy F.nw _ rd rk rt (p + 2 + 2) e hr5 _ _) 2 gX4_takeRuns_X4_tellFault rfl (by decide +kernel) (by rw [hRf, hRl]; decide) (by assumption) (κ := 4) (by assumption) rfl (by decide) rfl rfl (Nat.le_of_ble_eq_true rfl) dX4_takeRuns_86 (by rw [hRc, hRs]; omega) (fun r3 T4 hq3 => ?_)
              obtain ⟨rfl, hE4, hp5⟩ := hq3
              exact g_zret Z dX4_takeRuns_89 (by rfl) (by omega) (by omega) (⟨Or.inl rfl, hE03.tr hE4, p + 2 + 2, by omega, hp5⟩)
        · refine g_iconst (v := 0) Z dX4_takeRuns_40 (by decide) ?_
          exact g_zret Z dX4_takeRuns_41 (by rfl) (by omega) (by omega) (⟨Or.inl rfl, hE.tr hE1, p, hpe, hp1⟩)
  obtain ⟨hrL, hrK, hrk, hkL, hkK, hkl, hrt, htL, htK, htl, hkt, hrp, hre, hpe, he6, hkeys⟩ := id hr
  refine g_aload_n Z dX4_takeRuns_0 rfl ?_
  refine g_iconst (v := 2) Z dX4_takeRuns_1 (by decide) ?_
  refine g_cvI Z (c_X4_isThere F.l F.D F.cy F.nw _ rd rk rt p e hr 2 (by decide)) 1 gX4_takeRuns_X4_isThere rfl (by decide +kernel) (by rw [hRf, hRl]; decide) (by assumption) (κ := 4) (by assumption) rfl (by decide) rfl rfl (Nat.le_of_ble_eq_true rfl) dX4_takeRuns_2 (by rw [hRc, hRs]; omega) (fun r T1 hp => ?_)
  obtain ⟨hE1, hp1, hcase⟩ := hp
  have hr3 := hE1.rd hr hp1 hpe
  have hb3 := hE1.bytes hrK hb
  have hrL3 := hr3.1
  have hrK3 := hr3.2.1
  refine g_if_ne Z 10 dX4_takeRuns_5 (by decide) (fun h5 => ?_) (fun h5 => ?_)
  · have hp2 : p + 2 ≤ e := by
      rcases hcase with ⟨-, h⟩ | h
      · exact h
      · exact absurd h h5
    refine g_aload_n Z dX4_takeRuns_10 rfl ?_
    refine g_aload_n Z dX4_takeRuns_11 rfl ?_
    refine g_iconst (v := 2) Z dX4_takeRuns_12 (by decide) ?_
    refine g_cvL Z (c_X4_take F.l F.D F.cy F.nw _ rd rk rt p e hr3 br h n u hb3 heu 2 (by decide) hp2) 2 gX4_takeRuns_X4_take rfl (by decide +kernel) (by rw [hRf, hRl]; decide) (by assumption) (κ := 4) (by assumption) rfl (by decide) rfl rfl (Nat.le_of_ble_eq_true rfl) dX4_takeRuns_13 (by rw [hRc, hRs]; omega) (fun r2 T2 hq => ?_)
    obtain ⟨hE2, hp3, v, hv, rfl⟩ := hq
    have hr4 := hE2.rd hr3 hp3 hp2
    refine g_l2i Z dX4_takeRuns_16 ?_
    rw [(lN_2 hv).1]
    refine g_istore Z dX4_takeRuns_17 (by decide) ?_
    refine g_iconst (v := 0) Z dX4_takeRuns_19 (by decide) ?_
    refine g_istore Z dX4_takeRuns_20 (by decide) ?_
    refine g_iconst (v := 0) Z dX4_takeRuns_22 (by decide) ?_
    refine g_istore Z dX4_takeRuns_23 (by decide) ?_
    exact g_lv (by (repeat (first | exact trivial | refine And.intro rfl ?_)); done) (loop 65536 0 v (p + 2) 0 T2 (by have := (lN_2 hv).2; omega) ⟨hE1.tr hE2, hr4, by omega, (lN_2 hv).2, by omega⟩)
  · refine g_iconst (v := 0) Z dX4_takeRuns_8 (by decide) ?_
    exact g_zret Z dX4_takeRuns_9 (by rfl) (by omega) (by omega) (⟨Or.inl rfl, hE1, p, hpe, hp1⟩)
