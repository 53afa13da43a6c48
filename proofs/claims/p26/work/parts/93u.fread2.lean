/-! READING A BITMAP, RUNS -/
def bmU (B : Nat → Nat) (p : Nat) (R : Nat → Int64) (k : Nat) : Nat → Int64 := fun j => if j < k then lN (nuB B (p + 8 * j) 8) else R j
theorem bmU_0 (B : Nat → Nat) (p : Nat) (R : Nat → Int64) : bmU B p R 0 = R := by
  funext j
  unfold bmU
  rw [if_neg (Nat.not_lt_zero _)]
theorem bmU_s (B : Nat → Nat) (p : Nat) (R : Nat → Int64) (k : Nat) : vp_updL (bmU B p R k) k (lN (nuB B (p + 8 * k) 8)) = bmU B p R (k + 1) := by
  funext j
  by_cases e : j = k
  · subst e
    rw [pk_uLs]
    unfold bmU
    rw [if_pos (Nat.lt_succ_self _)]
  · rw [pk_uLn e]
    unfold bmU
    by_cases h : j < k
    · rw [if_pos h, if_pos (by omega)]
    · rw [if_neg h, if_neg (by omega)]
noncomputable def rdBm (B : Nat → Nat) (e tt p : Nat) (R : Nat → Int64) : Rw := if p + 8192 ≤ e then (if tot (bmU B p R 1024) = tt then .inr (p + 8192, bmU B p R 1024) else .inl (8, p + 8192)) else .inl (1, e)
theorem tot_new {R : Nat → Int64} {i : Nat} (hi : i < 1024) (h0 : R i = 0) (x : Int64) : nI (tot R) + bcF x = nI (tot (vp_updL R i x)) := by
  have h := tot_upd R hi x
  rw [h0, show pc (0 : Int64) = 0 from pc_0] at h
  rw [bcF_pc, nI_add]
  exact congrArg nI (by omega)
def rdRl (B : Nat → Nat) (e : Nat) : Nat → Nat → Nat → (Nat → Int64) → Rw
  | 0, p, _, W => .inr (p, W)
  | m + 1, p, a, W => if p + 4 ≤ e then (if nuB B p 2 < a ∨ 65535 < nuB B p 2 + nuB B (p + 2) 2 then .inl (7, p) else rdRl B e m (p + 4) (nuB B p 2 + nuB B (p + 2) 2 + 2) (rg 0 (nuB B p 2) (nuB B p 2 + nuB B (p + 2) 2) W)) else .inl (1, e)
noncomputable def rdFi (tt : Nat) (o : Rw) : Rw := match o with
  | .inl f => .inl f
  | .inr (q, W) => if tot W = tt then .inr (q, W) else .inl (8, q)
noncomputable def rdRn (B : Nat → Nat) (e tt p : Nat) (R : Nat → Int64) : Rw := if p + 2 ≤ e then rdFi tt (rdRl B e (nuB B p 2) (p + 2) 0 R) else .inl (1, e)
theorem rdRl_n {B : Nat → Nat} {e m p a : Nat} {W : Nat → Int64} (h : ¬ p + 4 ≤ e) : rdRl B e (m + 1) p a W = .inl (1, e) := if_neg h
theorem rdRl_b {B : Nat → Nat} {e m p a : Nat} {W : Nat → Int64} (h : p + 4 ≤ e) (g : nuB B p 2 < a ∨ 65535 < nuB B p 2 + nuB B (p + 2) 2) : rdRl B e (m + 1) p a W = .inl (7, p) := (if_pos h).trans (if_pos g)
theorem rdRl_y {B : Nat → Nat} {e m p a : Nat} {W : Nat → Int64} (h : p + 4 ≤ e) (g : ¬ (nuB B p 2 < a ∨ 65535 < nuB B p 2 + nuB B (p + 2) 2)) : rdRl B e (m + 1) p a W = rdRl B e m (p + 4) (nuB B p 2 + nuB B (p + 2) 2 + 2) (rg 0 (nuB B p 2) (nuB B p 2 + nuB B (p + 2) 2) W) := (if_pos h).trans (if_neg g)

set_option maxRecDepth 100000 in
set_option maxHeartbeats 2000000 in
/-- a bitmap is read -/
theorem f_X4_takeBitmap (l : Launch) (D : va_G) (cy : Nat → ClassId) (nw : Nat) (S : PS) (rd e : Nat) (hrL : rd ∈ S.L) (hrK : S.K rd = 4) (hre : S.fi rd 3 = nI e) (he6 : e ≤ 60000) (br h n u : Nat) (B : Nat → Nat) (hb : ByV S br h n u B) (heu : e ≤ u) (c w : Nat) (hc : Cq S c w) (x y k d : Int32) (R : Nat → Int64) (p : Nat) (hpe : p ≤ e) (tt : Nat) (htt : tt ≤ 65536) (hz : ∀ j, j < 1024 → R j = 0) : kI l yX4_takeBitmap wsX4_takeBitmap 3 70 D cy nw [.ref rd, .ref br, .ref c, .int (nI tt)] (RX S rd c w x y (nI p) k d (nI (tot R)) R) (fun r T => RdP S rd c w x y k d (rdBm B e tt p R) r T) 0 0 := by
  refine enterI (cc := cX4_takeBitmap) (nL := 5) (ret := (some .boolean)) (by decide +kernel) rfl (Nat.le_of_ble_eq_true rfl) ?_
  intro F Z hl hR hD hcy hnw hnm
  subst hl hD hcy hnw
  have hRf : F.R.frames = 3 := by rw [hR]
  have hRc : F.R.cells = 0 := by rw [hR]
  have hRs : F.R.slots = 0 := by rw [hR]
  have hRl : F.R.locals = 70 := by rw [hR]
  have in1 : ∀ w ∈ u_ws RX1 TX1 4, w ∈ wsX4_takeBitmap := by decide +kernel
  have in4 : ∀ w ∈ u_ws RX4 TX4 10, w ∈ wsX4_takeBitmap := by decide +kernel
  have lk25 : Cond.fieldLink RX4 25 (TX4 2).1 (TX4 2).2.1 (TX4 2).2.2.1 ∈ wsX4_takeBitmap := by decide +kernel
  have lk125 : Cond.fieldLink RX4 125 (TX1 3).1 (TX1 3).2.1 (TX1 3).2.2.1 ∈ wsX4_takeBitmap := by decide +kernel
  have lk129 : Cond.fieldLink RX4 129 (TX1 2).1 (TX1 2).2.1 (TX1 2).2.2.1 ∈ wsX4_takeBitmap := by decide +kernel
  have hne : rd ≠ c := fun q => by have := hc.2.1; rw [← q, hrK] at this; exact absurd this (by decide)
  have hbr : br ≠ rd := fun q => by have := hb.1.2.1; rw [q, hrK] at this; exact absurd this (by decide)
  have hbc : br ≠ c := fun q => by have := hb.1.2.1; rw [q, hc.2.1] at this; exact absurd this (by decide)
  have fp : ∀ (p : Nat) (v : Int32) (R : Nat → Int64), (RX S rd c w x y (nI p) k d v R).fi rd 2 = nI p := fun p v R => by rw [RX_rd hne]; rfl
  have fe : ∀ (p : Nat) (v : Int32) (R : Nat → Int64), (RX S rd c w x y (nI p) k d v R).fi rd 3 = nI e := fun p v R => by rw [RX_rd hne]; exact hre
  have fb : ∀ (p : Nat) (v : Int32) (R : Nat → Int64), ByV (RX S rd c w x y (nI p) k d v R) br h n u B := fun p v R => RX_by hbr hbc hb
  have hB2 : ∀ q, q + 2 ≤ e → nuB B q 2 < 65536 := fun q hq => nu2 (fun i hi => (hb.2 (q + i) (by omega)).1)
  have htl := tot_le (bmU B p R 1024)
  have loop : p + 8192 ≤ e → ∀ (m q : Nat), 1024 - q < m → q ≤ 1024 → G F 5 (RX S rd c w x y (nI (p + 8 * q)) k d (nI (tot (bmU B p R q))) (bmU B p R q)) 0 0 (QI F (fun r T => RdP S rd c w x y k d (rdBm B e tt p R) r T) 0 0) 15 [(0, .ref rd), (1, .ref br), (2, .ref c), (3, .int (nI tt)), (4, .int (nI q))] [] := by
    intro hp2 m
    induction m with
    | zero => intros; omega
    | succ m ih =>
      intro q hm hq
      refine g_iload Z dX4_takeBitmap_15 rfl ?_
      refine g_sipush (v := 1024) Z dX4_takeBitmap_17 (by decide) ?_
      refine g_icmp_ge Z 62 dX4_takeBitmap_20 (by decide) (fun h20 => ?_) (fun h20 => ?_)
      · have he : q = 1024 := by have := ge_t (i := q) (N := 1024) (by omega) (by decide) h20; omega
        subst he
        refine g_aload_n Z dX4_takeBitmap_62 rfl ?_
        refine g_geti Z 1 2 rfl (by decide) in1 lk129 dX4_takeBitmap_63 (by exact hc.1) (by exact hc.2.1) ?_
        rw [show PS.fi (RX S rd c w x y (nI (p + 8 * 1024)) k d (nI (tot (bmU B p R 1024))) (bmU B p R 1024)) c 2 = nI (tot (bmU B p R 1024)) by rw [RX_c hne]; rfl]
        refine g_iload_n Z dX4_takeBitmap_66 rfl ?_
        refine g_icmp_eq Z 83 dX4_takeBitmap_67 (by decide) (fun h67 => ?_) (fun h67 => ?_)
        · have hte : tot (bmU B p R 1024) = tt := (nI_eq (by omega) (by omega)).mp h67
          refine g_iconst (v := 1) Z dX4_takeBitmap_83 (by decide) ?_
          refine g_goto Z 88 dX4_takeBitmap_84 (by decide) ?_
          exact g_zret Z dX4_takeBitmap_88 (by rfl) (by omega) (by omega) (by first | (unfold rdBm; rw [if_pos hp2, if_pos hte]; exact ⟨rfl, rfl⟩) | (unfold rdBm; rw [if_pos hp2, if_neg hte]; exact ⟨rfl, _, _, rfl⟩))
        · have hte : ¬ tot (bmU B p R 1024) = tt := fun q => h67 (by rw [q])
          refine g_aload_n Z dX4_takeBitmap_70 rfl ?_
          refine g_bipush (v := 8) Z dX4_takeBitmap_71 (by decide) ?_
          refine g_aload_n Z dX4_takeBitmap_73 rfl ?_
          refine g_geti Z 4 2 rfl (by decide) in4 lk25 dX4_takeBitmap_74 (by assumption) (by assumption) ?_
          rw [fp]
          refine g_cvI Z (f_X4_tellFault F.l F.D F.cy F.nw (RX S rd c w x y (nI (p + 8 * 1024)) k d (nI (tot (bmU B p R 1024))) (bmU B p R 1024)) rd hrL hrK _ _) 2 gX4_takeBitmap_X4_tellFault rfl (by decide +kernel) (by rw [hRf, hRl]; decide) (by assumption) (κ := 4) (by assumption) rfl (by decide) rfl rfl (Nat.le_of_ble_eq_true rfl) dX4_takeBitmap_77 (by rw [hRc, hRs]; omega) (fun r3 T3 hq3 => ?_)
          obtain ⟨rfl, rfl⟩ := hq3
          rw [RX_0 hne, RX_1 hne]
          refine g_if_eq Z 87 dX4_takeBitmap_80 (by decide) (fun h80 => ?_) (fun h80 => absurd (rfl) h80)
          refine g_iconst (v := 0) Z dX4_takeBitmap_87 (by decide) ?_
          exact g_zret Z dX4_takeBitmap_88 (by rfl) (by omega) (by omega) (by first | (unfold rdBm; rw [if_pos hp2, if_pos hte]; exact ⟨rfl, rfl⟩) | (unfold rdBm; rw [if_pos hp2, if_neg hte]; exact ⟨rfl, _, _, rfl⟩))
      · have hlt : q < 1024 := ge_f (by omega) (by decide) h20
        have hq0 : bmU B p R q q = 0 := by unfold bmU; rw [if_neg (Nat.lt_irrefl _)]; exact hz q hlt
        refine g_aload_n Z dX4_takeBitmap_23 rfl ?_
        refine g_getr Z 1 3 rfl (by decide) in1 lk125 dX4_takeBitmap_24 (by exact hc.1) (by exact hc.2.1) (by exact hc.2.2.1) ?_
        refine g_iload Z dX4_takeBitmap_27 rfl ?_
        refine g_aload_n Z dX4_takeBitmap_29 rfl ?_
        refine g_aload_n Z dX4_takeBitmap_30 rfl ?_
        refine g_bipush (v := 8) Z dX4_takeBitmap_31 (by decide) ?_
        refine g_cvL Z (f_X4_take F.l F.D F.cy F.nw (RX S rd c w x y (nI (p + 8 * q)) k d (nI (tot (bmU B p R q))) (bmU B p R q)) rd (p + 8 * q) hrL hrK (fp (p + 8 * q) _ (bmU B p R q)) br h n u B (fb (p + 8 * q) _ (bmU B p R q)) 8 (by decide) (by omega)) 2 gX4_takeBitmap_X4_take rfl (by decide +kernel) (by rw [hRf, hRl]; decide) (by assumption) (κ := 4) (by assumption) rfl (by decide) rfl rfl (Nat.le_of_ble_eq_true rfl) dX4_takeBitmap_33 (by rw [hRc, hRs]; omega) (fun r2 T2 hq2 => ?_)
        obtain ⟨rfl, rfl⟩ := hq2
        rw [RX_2 hne]
        refine g_last Z dX4_takeBitmap_36 (by exact hc.2.2.2.1) (by exact hc.2.2.2.2.1) (by exact vin_of hc.2.2.2.2.2 hlt (by decide)) ?_
        rw [show PS.rj (RX S rd c w x y (nI (p + 8 * q + 8)) k d (nI (tot (bmU B p R q))) (bmU B p R q)) w = (bmU B p R q) from va_up_self _ _ _, nI_clamp (by omega), CS_R]
        refine g_aload_n Z dX4_takeBitmap_37 rfl ?_
        refine g_dup Z dX4_takeBitmap_38 rfl ?_
        refine g_geti Z 1 2 rfl (by decide) in1 lk129 dX4_takeBitmap_39 (by exact hc.1) (by exact hc.2.1) ?_
        rw [show PS.fi (RX S rd c w x y (nI (p + 8 * q + 8)) k d (nI (tot (bmU B p R q))) (vp_updL (bmU B p R q) q (lN (nuB B (p + 8 * q) 8)))) c 2 = nI (tot (bmU B p R q)) by rw [RX_c hne]; rfl]
        refine g_aload_n Z dX4_takeBitmap_42 rfl ?_
        refine g_getr Z 1 3 rfl (by decide) in1 lk125 dX4_takeBitmap_43 (by exact hc.1) (by exact hc.2.1) (by exact hc.2.2.1) ?_
        refine g_iload Z dX4_takeBitmap_46 rfl ?_
        refine g_lald Z dX4_takeBitmap_48 (by exact hc.2.2.2.1) (by exact hc.2.2.2.2.1) (by exact vin_of hc.2.2.2.2.2 hlt (by decide)) ?_
        rw [show PS.rj (RX S rd c w x y (nI (p + 8 * q + 8)) k d (nI (tot (bmU B p R q))) (vp_updL (bmU B p R q) q (lN (nuB B (p + 8 * q) 8)))) w = (vp_updL (bmU B p R q) q (lN (nuB B (p + 8 * q) 8))) from va_up_self _ _ _, nI_clamp (by omega), pk_uLs]
        refine g_csI Z (c_J13_bitCount_95d88 F.l F.D F.cy F.nw _ _) 1 gX4_takeBitmap_J13_bitCount_95d88 rfl (by decide +kernel) (by rw [hRf, hRl]; decide) rfl rfl (Nat.le_of_ble_eq_true rfl) dX4_takeBitmap_49 (by rw [hRc, hRs]; omega) (fun r3 T3 hq3 => ?_)
        obtain ⟨rfl, rfl⟩ := hq3
        refine g_iadd Z dX4_takeBitmap_52 ?_
        rw [tot_new hlt hq0]
        refine g_puti Z 1 2 rfl (by decide) tyX1 tyX1_ok nmX1 rfl in1 lk129 dX4_takeBitmap_53 rfl rfl (by exact hc.1) (by exact hc.2.1) ?_
        rw [CS_v, bmU_s]
        refine g_iinc (c := 1) Z dX4_takeBitmap_56 rfl (by decide) (by decide) ?_
        rw [nI_1]
        refine g_goto Z 15 dX4_takeBitmap_59 (by decide) ?_
        rw [show p + 8 * q + 8 = p + 8 * (q + 1) by omega]
        exact g_lv (by (repeat (first | exact trivial | refine And.intro rfl ?_)); done) (ih (q + 1) (by omega) (by omega))
  refine g_aload_n Z dX4_takeBitmap_0 rfl ?_
  refine g_sipush (v := 8192) Z dX4_takeBitmap_1 (by decide) ?_
  refine g_cvI Z (f_X4_isThere F.l F.D F.cy F.nw (RX S rd c w x y (nI p) k d (nI (tot R)) R) rd p e hrL hrK (fp p _ R) (fe p _ R) hpe he6 8192 (by decide)) 1 gX4_takeBitmap_X4_isThere rfl (by decide +kernel) (by rw [hRf, hRl]; decide) (by assumption) (κ := 4) (by assumption) rfl (by decide) rfl rfl (Nat.le_of_ble_eq_true rfl) dX4_takeBitmap_4 (by rw [hRc, hRs]; omega) (fun r1 T1 hp => ?_)
  have hpT := hp
  refine g_if_ne Z 12 dX4_takeBitmap_7 (by decide) (fun h7 => ?_) (fun h7 => ?_)
  · obtain ⟨hp2, -, rfl⟩ : p + 8192 ≤ e ∧ r1 = 1 ∧ T1 = (RX S rd c w x y (nI p) k d (nI (tot R)) R) := by
      rcases hpT with hh | hh
      · exact hh
      · exact absurd hh.2.1 h7
    refine g_iconst (v := 0) Z dX4_takeBitmap_12 (by decide) ?_
    refine g_istore Z dX4_takeBitmap_13 (by decide) ?_
    have hl := loop hp2 1025 0 (by omega) (by omega)
    rw [bmU_0] at hl
    exact g_lv (by (repeat (first | exact trivial | refine And.intro rfl ?_)); done) hl
  · obtain ⟨hp2, -, rfl⟩ : ¬ p + 8192 ≤ e ∧ r1 = 0 ∧ T1 = (((RX S rd c w x y (nI p) k d (nI (tot R)) R)).setI rd 0 1).setI rd 1 (nI e) := by
      rcases hpT with hh | hh
      · rw [hh.2.1] at h7; exact absurd h7 (by decide)
      · exact hh
    refine g_iconst (v := 0) Z dX4_takeBitmap_10 (by decide) ?_
    exact g_zret Z dX4_takeBitmap_11 (by rfl) (by omega) (by omega) (by unfold rdBm; rw [if_neg hp2]; exact ⟨rfl, nI p, R, by rw [RX_0 hne, RX_1 hne]; rfl⟩)

set_option maxRecDepth 100000 in
set_option maxHeartbeats 2000000 in
/-- runs are read -/
theorem f_X4_takeRuns (l : Launch) (D : va_G) (cy : Nat → ClassId) (nw : Nat) (S : PS) (rd e : Nat) (hrL : rd ∈ S.L) (hrK : S.K rd = 4) (hre : S.fi rd 3 = nI e) (he6 : e ≤ 60000) (br h n u : Nat) (B : Nat → Nat) (hb : ByV S br h n u B) (heu : e ≤ u) (c w : Nat) (hc : Cq S c w) (x y k d : Int32) (R : Nat → Int64) (p : Nat) (hpe : p ≤ e) (tt : Nat) (htt : tt ≤ 65536) : kI l yX4_takeRuns wsX4_takeRuns 3 70 D cy nw [.ref rd, .ref br, .ref c, .int (nI tt)] (RX S rd c w x y (nI p) k d (nI (tot R)) R) (fun r T => RdP S rd c w x y k d (rdRn B e tt p R) r T) 0 0 := by
  refine enterI (cc := cX4_takeRuns) (nL := 9) (ret := (some .boolean)) (by decide +kernel) rfl (Nat.le_of_ble_eq_true rfl) ?_
  intro F Z hl hR hD hcy hnw hnm
  subst hl hD hcy hnw
  have hRf : F.R.frames = 3 := by rw [hR]
  have hRc : F.R.cells = 0 := by rw [hR]
  have hRs : F.R.slots = 0 := by rw [hR]
  have hRl : F.R.locals = 70 := by rw [hR]
  have in1 : ∀ w ∈ u_ws RX1 TX1 4, w ∈ wsX4_takeRuns := by decide +kernel
  have in4 : ∀ w ∈ u_ws RX4 TX4 10, w ∈ wsX4_takeRuns := by decide +kernel
  have lk25 : Cond.fieldLink RX4 25 (TX4 2).1 (TX4 2).2.1 (TX4 2).2.2.1 ∈ wsX4_takeRuns := by decide +kernel
  have lk129 : Cond.fieldLink RX4 129 (TX1 2).1 (TX1 2).2.1 (TX1 2).2.2.1 ∈ wsX4_takeRuns := by decide +kernel
  have ct138 : Cond.constant RX4 138 (65535) ∈ wsX4_takeRuns := by decide +kernel
  have hne : rd ≠ c := fun q => by have := hc.2.1; rw [← q, hrK] at this; exact absurd this (by decide)
  have hbr : br ≠ rd := fun q => by have := hb.1.2.1; rw [q, hrK] at this; exact absurd this (by decide)
  have hbc : br ≠ c := fun q => by have := hb.1.2.1; rw [q, hc.2.1] at this; exact absurd this (by decide)
  have fp : ∀ (p : Nat) (v : Int32) (R : Nat → Int64), (RX S rd c w x y (nI p) k d v R).fi rd 2 = nI p := fun p v R => by rw [RX_rd hne]; rfl
  have fe : ∀ (p : Nat) (v : Int32) (R : Nat → Int64), (RX S rd c w x y (nI p) k d v R).fi rd 3 = nI e := fun p v R => by rw [RX_rd hne]; exact hre
  have fb : ∀ (p : Nat) (v : Int32) (R : Nat → Int64), ByV (RX S rd c w x y (nI p) k d v R) br h n u B := fun p v R => RX_by hbr hbc hb
  have hB2 : ∀ q, q + 2 ≤ e → nuB B q 2 < 65536 := fun q hq => nu2 (fun i hi => (hb.2 (q + i) (by omega)).1)
  have loop : ∀ (m g q p a : Nat) (R : Nat → Int64), g - q < m → (q ≤ g ∧ g < 65536 ∧ p ≤ e ∧ a ≤ 65537) → G F 9 (RX S rd c w x y (nI p) k d (nI (tot R)) R) 0 0 (QI F (fun r T => RdP S rd c w x y k d (rdFi tt (rdRl B e (g - q) p a R)) r T) 0 0) 25 [(0, .ref rd), (1, .ref br), (2, .ref c), (3, .int (nI tt)), (4, .int (nI g)), (5, .int (nI a)), (6, .int (nI q))] [] := by
    intro m
    induction m with
    | zero => intros; omega
    | succ m ih =>
      intro g q p a R hm ⟨hq, hg, hpe, ha⟩
      have htl := tot_le R
      refine g_iload Z dX4_takeRuns_25 rfl ?_
      refine g_iload Z dX4_takeRuns_27 rfl ?_
      refine g_icmp_ge Z 112 dX4_takeRuns_29 (by decide) (fun h29 => ?_) (fun h29 => ?_)
      · have hz : g - q = 0 := by have := ge_t (i := q) (N := g) (by omega) (by omega) h29; omega
        rw [hz]
        refine g_aload_n Z dX4_takeRuns_112 rfl ?_
        refine g_geti Z 1 2 rfl (by decide) in1 lk129 dX4_takeRuns_113 (by exact hc.1) (by exact hc.2.1) ?_
        rw [show PS.fi (RX S rd c w x y (nI p) k d (nI (tot R)) R) c 2 = nI (tot R) by rw [RX_c hne]; rfl]
        refine g_iload_n Z dX4_takeRuns_116 rfl ?_
        refine g_icmp_eq Z 133 dX4_takeRuns_117 (by decide) (fun h117 => ?_) (fun h117 => ?_)
        · have hte : tot R = tt := (nI_eq (by omega) (by omega)).mp h117
          refine g_iconst (v := 1) Z dX4_takeRuns_133 (by decide) ?_
          refine g_goto Z 138 dX4_takeRuns_134 (by decide) ?_
          exact g_zret Z dX4_takeRuns_138 (by rfl) (by omega) (by omega) (by first | (show RdP S rd c w x y k d (if tot R = tt then Sum.inr (p, R) else Sum.inl (8, p)) _ _; rw [if_pos hte]; exact ⟨rfl, rfl⟩) | (show RdP S rd c w x y k d (if tot R = tt then Sum.inr (p, R) else Sum.inl (8, p)) _ _; rw [if_neg hte]; exact ⟨rfl, _, _, rfl⟩))
        · have hte : ¬ tot R = tt := fun q => h117 (by rw [q])
          refine g_aload_n Z dX4_takeRuns_120 rfl ?_
          refine g_bipush (v := 8) Z dX4_takeRuns_121 (by decide) ?_
          refine g_aload_n Z dX4_takeRuns_123 rfl ?_
          refine g_geti Z 4 2 rfl (by decide) in4 lk25 dX4_takeRuns_124 (by assumption) (by assumption) ?_
          rw [fp]
          refine g_cvI Z (f_X4_tellFault F.l F.D F.cy F.nw (RX S rd c w x y (nI p) k d (nI (tot R)) R) rd hrL hrK _ _) 2 gX4_takeRuns_X4_tellFault rfl (by decide +kernel) (by rw [hRf, hRl]; decide) (by assumption) (κ := 4) (by assumption) rfl (by decide) rfl rfl (Nat.le_of_ble_eq_true rfl) dX4_takeRuns_127 (by rw [hRc, hRs]; omega) (fun r3 T3 hq3 => ?_)
          obtain ⟨rfl, rfl⟩ := hq3
          rw [RX_0 hne, RX_1 hne]
          refine g_if_eq Z 137 dX4_takeRuns_130 (by decide) (fun h130 => ?_) (fun h130 => absurd (rfl) h130)
          refine g_iconst (v := 0) Z dX4_takeRuns_137 (by decide) ?_
          exact g_zret Z dX4_takeRuns_138 (by rfl) (by omega) (by omega) (by first | (show RdP S rd c w x y k d (if tot R = tt then Sum.inr (p, R) else Sum.inl (8, p)) _ _; rw [if_pos hte]; exact ⟨rfl, rfl⟩) | (show RdP S rd c w x y k d (if tot R = tt then Sum.inr (p, R) else Sum.inl (8, p)) _ _; rw [if_neg hte]; exact ⟨rfl, _, _, rfl⟩))
      · have hlt : q < g := ge_f (by omega) (by omega) h29
        obtain ⟨m2, hm2⟩ : ∃ m2, g - q = m2 + 1 := ⟨g - q - 1, by omega⟩
        have hm3 : g - (q + 1) = m2 := by omega
        rw [hm2]
        refine g_aload_n Z dX4_takeRuns_32 rfl ?_
        refine g_iconst (v := 4) Z dX4_takeRuns_33 (by decide) ?_
        refine g_cvI Z (f_X4_isThere F.l F.D F.cy F.nw (RX S rd c w x y (nI p) k d (nI (tot R)) R) rd p e hrL hrK (fp p _ R) (fe p _ R) hpe he6 4 (by decide)) 1 gX4_takeRuns_X4_isThere rfl (by decide +kernel) (by rw [hRf, hRl]; decide) (by assumption) (κ := 4) (by assumption) rfl (by decide) rfl rfl (Nat.le_of_ble_eq_true rfl) dX4_takeRuns_34 (by rw [hRc, hRs]; omega) (fun r1 T1 hp => ?_)
        have hpT := hp
        refine g_if_ne Z 42 dX4_takeRuns_37 (by decide) (fun h37 => ?_) (fun h37 => ?_)
        · obtain ⟨hp2, -, rfl⟩ : p + 4 ≤ e ∧ r1 = 1 ∧ T1 = (RX S rd c w x y (nI p) k d (nI (tot R)) R) := by
            rcases hpT with hh | hh
            · exact hh
            · exact absurd hh.2.1 h37
          have hlow := hB2 p (by omega)
          have hlow2 := hB2 (p + 2) (by omega)
          refine g_aload_n Z dX4_takeRuns_42 rfl ?_
          refine g_aload_n Z dX4_takeRuns_43 rfl ?_
          refine g_iconst (v := 2) Z dX4_takeRuns_44 (by decide) ?_
          refine g_cvL Z (f_X4_take F.l F.D F.cy F.nw (RX S rd c w x y (nI p) k d (nI (tot R)) R) rd p hrL hrK (fp p _ R) br h n u B (fb p _ R) 2 (by decide) (by omega)) 2 gX4_takeRuns_X4_take rfl (by decide +kernel) (by rw [hRf, hRl]; decide) (by assumption) (κ := 4) (by assumption) rfl (by decide) rfl rfl (Nat.le_of_ble_eq_true rfl) dX4_takeRuns_45 (by rw [hRc, hRs]; omega) (fun r2 T2 hq2 => ?_)
          obtain ⟨rfl, rfl⟩ := hq2
          rw [RX_2 hne]
          refine g_l2i Z dX4_takeRuns_48 ?_
          rw [lN_i]
          refine g_istore Z dX4_takeRuns_49 (by decide) ?_
          refine g_iload Z dX4_takeRuns_51 rfl ?_
          refine g_aload_n Z dX4_takeRuns_53 rfl ?_
          refine g_aload_n Z dX4_takeRuns_54 rfl ?_
          refine g_iconst (v := 2) Z dX4_takeRuns_55 (by decide) ?_
          refine g_cvL Z (f_X4_take F.l F.D F.cy F.nw (RX S rd c w x y (nI (p + 2)) k d (nI (tot R)) R) rd (p + 2) hrL hrK (fp (p + 2) _ R) br h n u B (fb (p + 2) _ R) 2 (by decide) (by omega)) 2 gX4_takeRuns_X4_take rfl (by decide +kernel) (by rw [hRf, hRl]; decide) (by assumption) (κ := 4) (by assumption) rfl (by decide) rfl rfl (Nat.le_of_ble_eq_true rfl) dX4_takeRuns_56 (by rw [hRc, hRs]; omega) (fun r2 T2 hq2 => ?_)
          obtain ⟨rfl, rfl⟩ := hq2
          rw [RX_2 hne, show p + 2 + 2 = p + 4 by omega]
          refine g_l2i Z dX4_takeRuns_59 ?_
          rw [lN_i]
          refine g_iadd Z dX4_takeRuns_60 ?_
          rw [nI_add]
          refine g_istore Z dX4_takeRuns_61 (by decide) ?_
          refine g_iload Z dX4_takeRuns_63 rfl ?_
          refine g_iload Z dX4_takeRuns_65 rfl ?_
          refine g_icmp_lt Z 77 dX4_takeRuns_67 (by decide) (fun h67 => ?_) (fun h67 => ?_)
          · have hbad : nuB B p 2 < a ∨ 65535 < nuB B p 2 + nuB B (p + 2) 2 := Or.inl (lt_t (i := nuB B p 2) (N := a) (by omega) (by omega) h67)
            refine g_aload_n Z dX4_takeRuns_77 rfl ?_
            refine g_bipush (v := 7) Z dX4_takeRuns_78 (by decide) ?_
            refine g_aload_n Z dX4_takeRuns_80 rfl ?_
            refine g_geti Z 4 2 rfl (by decide) in4 lk25 dX4_takeRuns_81 (by assumption) (by assumption) ?_
            rw [fp]
            refine g_iconst (v := 4) Z dX4_takeRuns_84 (by decide) ?_
            refine g_isub Z dX4_takeRuns_85 ?_
            rw [show nI (p + 4) - 4 = nI p from (nI_sb (b := 4) (by omega)).trans (congrArg nI (by omega))]
            refine g_cvI Z (f_X4_tellFault F.l F.D F.cy F.nw (RX S rd c w x y (nI (p + 4)) k d (nI (tot R)) R) rd hrL hrK _ _) 2 gX4_takeRuns_X4_tellFault rfl (by decide +kernel) (by rw [hRf, hRl]; decide) (by assumption) (κ := 4) (by assumption) rfl (by decide) rfl rfl (Nat.le_of_ble_eq_true rfl) dX4_takeRuns_86 (by rw [hRc, hRs]; omega) (fun r3 T3 hq3 => ?_)
            obtain ⟨rfl, rfl⟩ := hq3
            rw [RX_0 hne, RX_1 hne]
            exact g_zret Z dX4_takeRuns_89 (by rfl) (by omega) (by omega) (by rw [rdRl_b hp2 hbad]; exact ⟨rfl, _, _, rfl⟩)
          · have hn1 : a ≤ nuB B p 2 := lt_f (i := nuB B p 2) (N := a) (by omega) (by omega) h67
            refine g_iload Z dX4_takeRuns_70 rfl ?_
            refine g_ldc (v := 65535) Z dX4_takeRuns_72 ct138 ?_
            refine g_icmp_le Z 90 dX4_takeRuns_74 (by decide) (fun h74 => ?_) (fun h74 => ?_)
            · have hle : nuB B p 2 + nuB B (p + 2) 2 ≤ 65535 := le_t (i := nuB B p 2 + nuB B (p + 2) 2) (N := 65535) (by omega) (by decide) h74
              have hgood : ¬ (nuB B p 2 < a ∨ 65535 < nuB B p 2 + nuB B (p + 2) 2) := by omega
              refine g_aload_n Z dX4_takeRuns_90 rfl ?_
              refine g_iload Z dX4_takeRuns_91 rfl ?_
              refine g_iload Z dX4_takeRuns_93 rfl ?_
              refine g_iconst (v := 0) Z dX4_takeRuns_95 (by decide) ?_
              refine g_cvI Z (f_X1_changeLows F.l F.D F.cy F.nw (RX S rd c w x y (nI (p + 4)) k d (nI (tot R)) R) c w hc (by show PS.fi (RX S rd c w x y (nI (p + 4)) k d (nI (tot R)) R) c 2 = nI (tot (va_up S.rj w R w)); rw [RX_c hne, va_up_self]; rfl) (nuB B p 2) (nuB B p 2 + nuB B (p + 2) 2) (by omega) (by omega) (Nat.le_add_right _ _) 0) 3 gX4_takeRuns_X1_changeLows rfl (by decide +kernel) (by rw [hRf, hRl]; decide) (by exact hc.1) (κ := 1) (by exact hc.2.1) rfl (by decide) rfl rfl (Nat.le_of_ble_eq_true rfl) dX4_takeRuns_96 (by rw [hRc, hRs]; omega) (fun r3 T3 hq3 => ?_)
              obtain ⟨rfl, -⟩ := hq3
              rw [show PS.rj (RX S rd c w x y (nI (p + 4)) k d (nI (tot R)) R) w = R from va_up_self _ _ _, show PS.fi (RX S rd c w x y (nI (p + 4)) k d (nI (tot R)) R) c 0 = k by rw [RX_c hne]; rfl, show PS.fi (RX S rd c w x y (nI (p + 4)) k d (nI (tot R)) R) c 1 = d by rw [RX_c hne]; rfl, CS_CS]
              refine g_pop Z dX4_takeRuns_99 rfl ?_
              refine g_iload Z dX4_takeRuns_100 rfl ?_
              refine g_iconst (v := 2) Z dX4_takeRuns_102 (by decide) ?_
              refine g_iadd Z dX4_takeRuns_103 ?_
              rw [show nI (nuB B p 2 + nuB B (p + 2) 2) + 2 = nI (nuB B p 2 + nuB B (p + 2) 2 + 2) from nI_add _ 2]
              refine g_istore Z dX4_takeRuns_104 (by decide) ?_
              refine g_iinc (c := 1) Z dX4_takeRuns_106 rfl (by decide) (by decide) ?_
              rw [nI_1]
              refine g_goto Z 25 dX4_takeRuns_109 (by decide) ?_
              rw [rdRl_y hp2 hgood]
              have hih := ih g (q + 1) (p + 4) (nuB B p 2 + nuB B (p + 2) 2 + 2) (rg 0 (nuB B p 2) (nuB B p 2 + nuB B (p + 2) 2) R) (by omega) ⟨by omega, hg, by omega, by omega⟩
              rw [hm3] at hih
              exact g_lv (by (repeat (first | exact trivial | refine And.intro rfl ?_)); done) hih
            · have hbad : nuB B p 2 < a ∨ 65535 < nuB B p 2 + nuB B (p + 2) 2 := Or.inr (le_f (i := nuB B p 2 + nuB B (p + 2) 2) (N := 65535) (by omega) (by decide) h74)
              refine g_aload_n Z dX4_takeRuns_77 rfl ?_
              refine g_bipush (v := 7) Z dX4_takeRuns_78 (by decide) ?_
              refine g_aload_n Z dX4_takeRuns_80 rfl ?_
              refine g_geti Z 4 2 rfl (by decide) in4 lk25 dX4_takeRuns_81 (by assumption) (by assumption) ?_
              rw [fp]
              refine g_iconst (v := 4) Z dX4_takeRuns_84 (by decide) ?_
              refine g_isub Z dX4_takeRuns_85 ?_
              rw [show nI (p + 4) - 4 = nI p from (nI_sb (b := 4) (by omega)).trans (congrArg nI (by omega))]
              refine g_cvI Z (f_X4_tellFault F.l F.D F.cy F.nw (RX S rd c w x y (nI (p + 4)) k d (nI (tot R)) R) rd hrL hrK _ _) 2 gX4_takeRuns_X4_tellFault rfl (by decide +kernel) (by rw [hRf, hRl]; decide) (by assumption) (κ := 4) (by assumption) rfl (by decide) rfl rfl (Nat.le_of_ble_eq_true rfl) dX4_takeRuns_86 (by rw [hRc, hRs]; omega) (fun r3 T3 hq3 => ?_)
              obtain ⟨rfl, rfl⟩ := hq3
              rw [RX_0 hne, RX_1 hne]
              exact g_zret Z dX4_takeRuns_89 (by rfl) (by omega) (by omega) (by rw [rdRl_b hp2 hbad]; exact ⟨rfl, _, _, rfl⟩)
        · obtain ⟨hp2, -, rfl⟩ : ¬ p + 4 ≤ e ∧ r1 = 0 ∧ T1 = (((RX S rd c w x y (nI p) k d (nI (tot R)) R)).setI rd 0 1).setI rd 1 (nI e) := by
            rcases hpT with hh | hh
            · rw [hh.2.1] at h37; exact absurd h37 (by decide)
            · exact hh
          refine g_iconst (v := 0) Z dX4_takeRuns_40 (by decide) ?_
          exact g_zret Z dX4_takeRuns_41 (by rfl) (by omega) (by omega) (by rw [rdRl_n hp2]; exact ⟨rfl, nI p, R, by rw [RX_0 hne, RX_1 hne]; rfl⟩)
  refine g_aload_n Z dX4_takeRuns_0 rfl ?_
  refine g_iconst (v := 2) Z dX4_takeRuns_1 (by decide) ?_
  refine g_cvI Z (f_X4_isThere F.l F.D F.cy F.nw (RX S rd c w x y (nI p) k d (nI (tot R)) R) rd p e hrL hrK (fp p _ R) (fe p _ R) hpe he6 2 (by decide)) 1 gX4_takeRuns_X4_isThere rfl (by decide +kernel) (by rw [hRf, hRl]; decide) (by assumption) (κ := 4) (by assumption) rfl (by decide) rfl rfl (Nat.le_of_ble_eq_true rfl) dX4_takeRuns_2 (by rw [hRc, hRs]; omega) (fun r1 T1 hp => ?_)
  have hpT := hp
  refine g_if_ne Z 10 dX4_takeRuns_5 (by decide) (fun h5 => ?_) (fun h5 => ?_)
  · obtain ⟨hp2, -, rfl⟩ : p + 2 ≤ e ∧ r1 = 1 ∧ T1 = (RX S rd c w x y (nI p) k d (nI (tot R)) R) := by
      rcases hpT with hh | hh
      · exact hh
      · exact absurd hh.2.1 h5
    have hlow := hB2 p hp2
    have hres : rdRn B e tt p R = rdFi tt (rdRl B e (nuB B p 2) (p + 2) 0 R) := if_pos hp2
    refine g_aload_n Z dX4_takeRuns_10 rfl ?_
    refine g_aload_n Z dX4_takeRuns_11 rfl ?_
    refine g_iconst (v := 2) Z dX4_takeRuns_12 (by decide) ?_
    refine g_cvL Z (f_X4_take F.l F.D F.cy F.nw (RX S rd c w x y (nI p) k d (nI (tot R)) R) rd p hrL hrK (fp p _ R) br h n u B (fb p _ R) 2 (by decide) (by omega)) 2 gX4_takeRuns_X4_take rfl (by decide +kernel) (by rw [hRf, hRl]; decide) (by assumption) (κ := 4) (by assumption) rfl (by decide) rfl rfl (Nat.le_of_ble_eq_true rfl) dX4_takeRuns_13 (by rw [hRc, hRs]; omega) (fun r2 T2 hq2 => ?_)
    obtain ⟨rfl, rfl⟩ := hq2
    rw [RX_2 hne]
    refine g_l2i Z dX4_takeRuns_16 ?_
    rw [lN_i]
    refine g_istore Z dX4_takeRuns_17 (by decide) ?_
    refine g_iconst (v := 0) Z dX4_takeRuns_19 (by decide) ?_
    refine g_istore Z dX4_takeRuns_20 (by decide) ?_
    refine g_iconst (v := 0) Z dX4_takeRuns_22 (by decide) ?_
    refine g_istore Z dX4_takeRuns_23 (by decide) ?_
    rw [hres]
    exact g_lv (by (repeat (first | exact trivial | refine And.intro rfl ?_)); done) (loop (nuB B p 2 + 1) (nuB B p 2) 0 (p + 2) 0 R (by omega) ⟨by omega, hlow, by omega, by omega⟩)
  · obtain ⟨hp2, -, rfl⟩ : ¬ p + 2 ≤ e ∧ r1 = 0 ∧ T1 = (((RX S rd c w x y (nI p) k d (nI (tot R)) R)).setI rd 0 1).setI rd 1 (nI e) := by
      rcases hpT with hh | hh
      · rw [hh.2.1] at h5; exact absurd h5 (by decide)
      · exact hh
    refine g_iconst (v := 0) Z dX4_takeRuns_8 (by decide) ?_
    exact g_zret Z dX4_takeRuns_9 (by rfl) (by omega) (by omega) (by rw [show rdRn B e tt p R = Sum.inl (1, e) from if_neg hp2]; exact ⟨rfl, nI p, R, by rw [RX_0 hne, RX_1 hne]; rfl⟩)
