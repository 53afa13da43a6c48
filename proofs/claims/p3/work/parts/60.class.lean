/-! THE WHOLE OBJECT -/
def XA (S : PS) (nw x sa sp pl la br h n u rd rk rt w : Nat) : Prop := x ∈ S.L ∧ S.K x = 5 ∧ S.fr x 0 = some sa ∧ S.fr x 1 = some sp ∧ S.fr x 2 = some pl ∧ S.fr x 3 = some br ∧ S.fr x 4 = some rd ∧ S.fi x 5 = nI w ∧ w ≤ 300 ∧ SaAt S nw sa ∧ SetOK S nw sp ∧ (∃ d, PlAt S nw pl la d) ∧ BytesAt S br h n u ∧ RdW S rd rk rt
theorem PlAt.eg {nw pl la d : Nat} {Q : Nat → Prop} {S T : PS} (h : Eg nw Q S T) (h3 : ¬ Q 3) (h11 : ¬ Q 11) (k : PlAt S nw pl la d) : PlAt T nw pl la d := by
  obtain ⟨k1, k2, k3, k4, k5, k6⟩ := k
  obtain ⟨a1, a2, -, a4, -⟩ := h.1 pl k1
  obtain ⟨e1, e2⟩ := a4 (by rw [k2]; exact h3) (by rw [k2]; decide) (by rw [k2]; decide)
  exact ⟨a1, a2.trans k2, by rw [e2]; exact k3, k4.eg h h11, by rw [e1]; exact k5, k6⟩
theorem RdW.eg {nw rd rk rt : Nat} {Q : Nat → Prop} {S T : PS} (h : Eg nw Q S T) (h4 : ¬ Q 4) (h8 : ¬ Q 8) (k : RdW S rd rk rt) : RdW T rd rk rt := by
  obtain ⟨k1, k2, k3, k4, k5, k6, k7, k8, k9, k10, k11, k16⟩ := k
  obtain ⟨a1, a2, -, a4, -⟩ := h.1 rd k1
  obtain ⟨e1, e2⟩ := a4 (by rw [k2]; exact h4) (by rw [k2]; decide) (by rw [k2]; decide)
  obtain ⟨b1, b2, b3, -, b5, -⟩ := h.1 rk k4
  obtain ⟨c1, c2, c3, -, -, -⟩ := h.1 rt k8
  refine ⟨a1, a2.trans k2, by rw [e2]; exact k3, b1, b2.trans k5, b3.trans k6, by rw [e2]; exact k7, c1, c2.trans k9, c3.trans k10, k11, ?_⟩
  rw [b5 (by rw [k5]; exact h8) (by rw [k5]; decide)]
  exact k16
theorem XA.eg {nw x sa sp pl la br h n u rd rk rt w h2 n2 u2 : Nat} {Q : Nat → Prop} {S T : PS} (hG : Eg nw Q S T) (q5 : ¬ Q 5) (q11 : ¬ Q 11) (hx : XA S nw x sa sp pl la br h n u rd rk rt w) (hp : ∃ d, PlAt T nw pl la d) (hb : BytesAt T br h2 n2 u2) (hr : RdW T rd rk rt) : XA T nw x sa sp pl la br h2 n2 u2 rd rk rt w := by
  obtain ⟨k1, k2, k3, k4, k5, k6, k7, k8, k9, k10, k11, -, -, -⟩ := hx
  obtain ⟨a1, a2, -, a4, -⟩ := hG.1 x k1
  obtain ⟨e1, e2⟩ := a4 (by rw [k2]; exact q5) (by rw [k2]; decide) (by rw [k2]; decide)
  exact ⟨a1, a2.trans k2, by rw [e2]; exact k3, by rw [e2]; exact k4, by rw [e2]; exact k5, by rw [e2]; exact k6, by rw [e2]; exact k7, by rw [e1]; exact k8, k9, k10.eg hG q11, hG.2.2.2 sp k11, hp, hb, hr⟩
theorem XA.es {nw x sa sp pl la br h n u rd rk rt w : Nat} {S T : PS} (hE : Es nw S T) (hx : XA S nw x sa sp pl la br h n u rd rk rt w) : XA T nw x sa sp pl la br h n u rd rk rt w := by
  have hG : Eg nw (fun _ => False) S T := hE.eg
  obtain ⟨d, hd⟩ := hx.2.2.2.2.2.2.2.2.2.2.2.1
  exact hx.eg hG (fun h => h) (fun h => h) ⟨d, hd.es hE⟩ (hE.bytes hx.2.2.2.2.2.2.2.2.2.2.2.2.1) (hx.2.2.2.2.2.2.2.2.2.2.2.2.2.eg hG (fun h => h) (fun h => h))
theorem XA.pile {nw x sa sp pl la br h n u rd rk rt w : Nat} {S T : PS} (hG : Eg nw Pp S T) (hp : ∃ d, PlAt T nw pl la d) (hx : XA S nw x sa sp pl la br h n u rd rk rt w) : XA T nw x sa sp pl la br h n u rd rk rt w :=
  hx.eg hG (by decide) (by decide) hp (hG.bytes (by decide) (by decide) hx.2.2.2.2.2.2.2.2.2.2.2.2.1) (hx.2.2.2.2.2.2.2.2.2.2.2.2.2.eg hG (by decide) (by decide))
theorem XA.read {nw x sa sp pl la br h n u rd rk rt w : Nat} {S T : PS} (hG : Eg nw Pr S T) (hr : RdW T rd rk rt) (hx : XA S nw x sa sp pl la br h n u rd rk rt w) : XA T nw x sa sp pl la br h n u rd rk rt w := by
  obtain ⟨d, hd⟩ := hx.2.2.2.2.2.2.2.2.2.2.2.1
  exact hx.eg hG (by decide) (by decide) ⟨d, hd.eg hG (by decide) (by decide)⟩ (hG.bytes (by decide) (by decide) hx.2.2.2.2.2.2.2.2.2.2.2.2.1) hr
theorem XA.byt {nw x sa sp pl la br h n u rd rk rt w h2 n2 u2 : Nat} {S T : PS} (hR : Rl Pb S T) (hb : BytesAt T br h2 n2 u2) (hx : XA S nw x sa sp pl la br h n u rd rk rt w) : XA T nw x sa sp pl la br h2 n2 u2 rd rk rt w := by
  have hG := hR.eg (nw := nw) nPb1 nPb2 nPb10
  obtain ⟨d, hd⟩ := hx.2.2.2.2.2.2.2.2.2.2.2.1
  exact hx.eg hG (by decide) (by decide) ⟨d, hd.eg hG (by decide) (by decide)⟩ hb (hx.2.2.2.2.2.2.2.2.2.2.2.2.2.eg hG (by decide) (by decide))
theorem XA.work {nw x sa sp pl la br h n u rd rk rt w w2 : Nat} {S : PS} (hw : w2 ≤ 300) (hx : XA S nw x sa sp pl la br h n u rd rk rt w) : XA (S.setI x 5 (nI w2)) nw x sa sp pl la br h n u rd rk rt w2 := by
  have hR : Rl (fun κ => κ = 5) S (S.setI x 5 (nI w2)) := Rl.rf.setI hx.2.1
  have hG := hR.eg (nw := nw) (by decide) (by decide) (by decide)
  obtain ⟨k1, k2, k3, k4, k5, k6, k7, k8, k9, k10, k11, ⟨d, hd⟩, k13, k14⟩ := hx
  exact ⟨k1, k2, k3, k4, k5, k6, k7, up2_self _ _ _ _, hw, k10.eg hG (by decide), hG.2.2.2 sp k11, ⟨d, hd.eg hG (by decide) (by decide)⟩, hG.bytes (by decide) (by decide) k13, k14.eg hG (by decide) (by decide)⟩
/-- work is taken, or not -/
def WK (P : Prop) (k w w2 : Nat) : Prop := (P ∧ k ≤ w ∧ w2 + k = w) ∨ (¬ (P ∧ k ≤ w) ∧ w2 = w)
theorem WK.eq {P P2 : Prop} {k w a b : Nat} (h : P ↔ P2) (h1 : WK P k w a) (h2 : WK P2 k w b) : a = b := by
  rcases h1 with ⟨p1, p2, p3⟩ | ⟨p1, p2⟩ <;> rcases h2 with ⟨q1, q2, q3⟩ | ⟨q1, q2⟩
  · omega
  · exact absurd ⟨h.mp p1, p2⟩ q1
  · exact absurd ⟨h.mpr q1, q2⟩ p1
  · omega
/-- a number of a set; half a number -/
def isS (x : Int32) : Prop := ∃ j : Nat, j < 8 ∧ x = nI j
theorem isIx_0 {n : Nat} {x r : Int32} (h : isIx n x r) (e : r = 0) : ∃ j : Nat, j < n ∧ x = nI j := by
  rcases h with ⟨-, h⟩ | ⟨h, -⟩
  · exact h
  · rw [e] at h; exact absurd h (by decide)
theorem isIx_1 {n : Nat} (hn : n < 2 ^ 31) {x r : Int32} (h : isIx n x r) (e : ¬ r = 0) : ¬ ∃ j : Nat, j < n ∧ x = nI j := by
  rcases h with ⟨h, -⟩ | ⟨-, h⟩
  · exact absurd h e
  · intro ⟨j, h1, h2⟩
    subst h2
    rcases h with h | h
    · exact nI_pos (by omega) h
    · have := (nI_leI hn (by omega)).mp h; omega
theorem key16 (v : Int32) : ∃ k : Nat, k < 65536 ∧ (v.toUInt32 >>> ((16 : Int32).toUInt32 &&& Int32.toUInt32 31)).toInt32 = nI k := by
  obtain ⟨n, hn, rfl⟩ := wb_of32 v
  exact ⟨n / 2 ^ 16, by omega, pk_ushrN hn 16 16 (by decide)⟩
theorem low16 (v : Int32) : ∃ k : Nat, k < 65536 ∧ v &&& 65535 = nI k := by
  obtain ⟨j, h1, h2⟩ := i32_and v 65535 (by decide)
  exact ⟨j, by omega, h2⟩

set_option maxRecDepth 100000 in
set_option maxHeartbeats 2000000 in
/-- static -/
theorem c_X6_lowOf (l : Launch) (D : va_G) (cy : Nat → ClassId) (nw : Nat) (S : PS) (x : Int32) : kI l yX6_lowOf wsX6_lowOf 0 0 D cy nw [.int x] S (fun r T => S = T ∧ r = x &&& 65535) 0 0 := by
  refine enterI (cc := cX6_lowOf) (nL := 1) (ret := (some .int)) (by decide +kernel) rfl (Nat.le_of_ble_eq_true rfl) ?_
  intro F Z hl hR hD hcy hnw hnm
  subst hl hD hcy hnw
  have hRf : F.R.frames = 0 := by rw [hR]
  have hRc : F.R.cells = 0 := by rw [hR]
  have hRs : F.R.slots = 0 := by rw [hR]
  have hRl : F.R.locals = 0 := by rw [hR]
  have ct189 : Cond.constant RX6 189 (65535) ∈ wsX6_lowOf := by decide +kernel
  refine g_iload_n Z dX6_lowOf_0 rfl ?_
  refine g_ldc (v := 65535) Z dX6_lowOf_1 ct189 ?_
  refine g_iand Z dX6_lowOf_3 ?_
  exact g_iret Z dX6_lowOf_4 (by omega) (by omega) (⟨rfl, rfl⟩)

theorem nh_f {x : Int32} (h : ¬ (65535 : Int32) < x) : ¬ nI 65536 ≤ x := fun h2 => h (Int32.lt_of_lt_of_le (by decide) h2)
theorem nh_t {x : Int32} (h : (65535 : Int32) < x) : nI 65536 ≤ x := by
  have h1 : (65535 : Int32).toInt < x.toInt := Int32.lt_iff_toInt_lt.mp h
  refine Int32.le_iff_toInt_le.mpr ?_
  rw [nI_toInt (by decide)]
  have : (65535 : Int32).toInt = 65535 := by decide
  omega

set_option maxRecDepth 100000 in
set_option maxHeartbeats 2000000 in
/-- static -/
theorem c_X6_isNoHalf (l : Launch) (D : va_G) (cy : Nat → ClassId) (nw : Nat) (S : PS) (x : Int32) : kI l yX6_isNoHalf wsX6_isNoHalf 0 0 D cy nw [.int x] S (fun r T => S = T ∧ isIx 65536 x r) 0 0 := by
  refine enterI (cc := cX6_isNoHalf) (nL := 1) (ret := (some .boolean)) (by decide +kernel) rfl (Nat.le_of_ble_eq_true rfl) ?_
  intro F Z hl hR hD hcy hnw hnm
  subst hl hD hcy hnw
  have hRf : F.R.frames = 0 := by rw [hR]
  have hRc : F.R.cells = 0 := by rw [hR]
  have hRs : F.R.slots = 0 := by rw [hR]
  have hRl : F.R.locals = 0 := by rw [hR]
  have ct189 : Cond.constant RX6 189 (65535) ∈ wsX6_isNoHalf := by decide +kernel
  refine g_iload_n Z dX6_isNoHalf_0 rfl ?_
  refine g_if_lt Z 10 dX6_isNoHalf_1 (by decide) (fun h1 => ?_) (fun h1 => ?_)
  · refine g_iconst (v := 1) Z dX6_isNoHalf_10 (by decide) ?_
    refine g_goto Z 15 dX6_isNoHalf_11 (by decide) ?_
    exact g_zret Z dX6_isNoHalf_15 (by rfl) (by omega) (by omega) (by first | exact ⟨rfl, isIx_t0 h1⟩ | exact ⟨rfl, isIx_f (by decide) h1 (nh_f (fun h => Int32.lt_irrefl (Int32.lt_of_lt_of_le h h7)))⟩ | exact ⟨rfl, isIx_t (nh_t (i_lt_of_nle h7))⟩)
  · refine g_iload_n Z dX6_isNoHalf_4 rfl ?_
    refine g_ldc (v := 65535) Z dX6_isNoHalf_5 ct189 ?_
    refine g_icmp_le Z 14 dX6_isNoHalf_7 (by decide) (fun h7 => ?_) (fun h7 => ?_)
    · refine g_iconst (v := 0) Z dX6_isNoHalf_14 (by decide) ?_
      exact g_zret Z dX6_isNoHalf_15 (by rfl) (by omega) (by omega) (by first | exact ⟨rfl, isIx_t0 h1⟩ | exact ⟨rfl, isIx_f (by decide) h1 (nh_f (fun h => Int32.lt_irrefl (Int32.lt_of_lt_of_le h h7)))⟩ | exact ⟨rfl, isIx_t (nh_t (i_lt_of_nle h7))⟩)
    · refine g_iconst (v := 1) Z dX6_isNoHalf_10 (by decide) ?_
      refine g_goto Z 15 dX6_isNoHalf_11 (by decide) ?_
      exact g_zret Z dX6_isNoHalf_15 (by rfl) (by omega) (by omega) (by first | exact ⟨rfl, isIx_t0 h1⟩ | exact ⟨rfl, isIx_f (by decide) h1 (nh_f (fun h => Int32.lt_irrefl (Int32.lt_of_lt_of_le h h7)))⟩ | exact ⟨rfl, isIx_t (nh_t (i_lt_of_nle h7))⟩)

set_option maxRecDepth 100000 in
set_option maxHeartbeats 2000000 in
/-- work is taken, if there is so much -/
theorem c_X6_takeWork (l : Launch) (D : va_G) (cy : Nat → ClassId) (nw : Nat) (S : PS) (x sa sp pl la br h n u rd rk rt w : Nat) (hx : XA S nw x sa sp pl la br h n u rd rk rt w) (k : Nat) (hk : k < 2 ^ 31) : kI l yX6_takeWork wsX6_takeWork 0 0 D cy nw [.ref x, .int (nI k)] S (fun r T => (r = 1 ∧ k ≤ w ∧ T = S.setI x 5 (nI (w - k))) ∨ (r = 0 ∧ S = T ∧ w < k)) 0 0 := by
  refine enterI (cc := cX6_takeWork) (nL := 2) (ret := (some .boolean)) (by decide +kernel) rfl (Nat.le_of_ble_eq_true rfl) ?_
  intro F Z hl hR hD hcy hnw hnm
  subst hl hD hcy hnw
  have hRf : F.R.frames = 0 := by rw [hR]
  have hRc : F.R.cells = 0 := by rw [hR]
  have hRs : F.R.slots = 0 := by rw [hR]
  have hRl : F.R.locals = 0 := by rw [hR]
  have in5 : ∀ w ∈ u_ws RX6 TX6 6, w ∈ wsX6_takeWork := by decide +kernel
  have lk41 : Cond.fieldLink RX6 41 (TX6 5).1 (TX6 5).2.1 (TX6 5).2.2.1 ∈ wsX6_takeWork := by decide +kernel
  obtain ⟨hxL, hxK, hsa, hsp, hpl, hbr, hrd, hxw, hw3, hSa, hSp, hPl, hB, hR⟩ := id hx
  obtain ⟨hsaL, hsaK, hsal, hsas⟩ := id hSa
  refine g_iload_n Z dX6_takeWork_0 rfl ?_
  refine g_aload_n Z dX6_takeWork_1 rfl ?_
  refine g_geti Z 5 5 rfl (by decide) in5 lk41 dX6_takeWork_2 (by assumption) (by assumption) ?_
  rw [hxw]
  refine g_icmp_le Z 10 dX6_takeWork_5 (by decide) (fun h5 => ?_) (fun h5 => ?_)
  · have hle : k ≤ w := le_t (by omega) (by omega) h5
    refine g_aload_n Z dX6_takeWork_10 rfl ?_
    refine g_dup Z dX6_takeWork_11 rfl ?_
    refine g_geti Z 5 5 rfl (by decide) in5 lk41 dX6_takeWork_12 (by assumption) (by assumption) ?_
    rw [hxw]
    refine g_iload_n Z dX6_takeWork_15 rfl ?_
    refine g_isub Z dX6_takeWork_16 ?_
    rw [pk_sub hle]
    refine g_puti Z 5 5 rfl (by decide) tyX6 tyX6_ok nmX6 rfl in5 lk41 dX6_takeWork_17 rfl rfl (by assumption) (by assumption) ?_
    refine g_iconst (v := 1) Z dX6_takeWork_20 (by decide) ?_
    exact g_zret Z dX6_takeWork_21 (by rfl) (by omega) (by omega) (Or.inl ⟨rfl, hle, rfl⟩)
  · refine g_iconst (v := 0) Z dX6_takeWork_8 (by decide) ?_
    exact g_zret Z dX6_takeWork_9 (by rfl) (by omega) (by omega) (Or.inr ⟨rfl, rfl, by have := le_f (i := k) (N := w) (by omega) (by omega) h5; omega⟩)

set_option maxRecDepth 100000 in
set_option maxHeartbeats 2000000 in
/-- a number comes or goes -/
theorem c_X6_add (l : Launch) (D : va_G) (cy : Nat → ClassId) (nw : Nat) (S : PS) (x sa sp pl la br h n u rd rk rt w : Nat) (hx : XA S nw x sa sp pl la br h n u rd rk rt w) (a v : Int32) : kI l yX6_add wsX6_add 4 94 D cy nw [.ref x, .int a, .int v] S (fun _ T => XA T nw x sa sp pl la br h n u rd rk rt w) 1 1024 := by
  refine enterI (cc := cX6_add) (nL := 3) (ret := (some .int)) (by decide +kernel) rfl (Nat.le_of_ble_eq_true rfl) ?_
  intro F Z hl hR hD hcy hnw hnm
  subst hl hD hcy hnw
  have hRf : F.R.frames = 4 := by rw [hR]
  have hRc : F.R.cells = 1 := by rw [hR]
  have hRs : F.R.slots = 1024 := by rw [hR]
  have hRl : F.R.locals = 94 := by rw [hR]
  have in5 : ∀ w ∈ u_ws RX6 TX6 6, w ∈ wsX6_add := by decide +kernel
  have lk11 : Cond.fieldLink RX6 11 (TX6 0).1 (TX6 0).2.1 (TX6 0).2.2.1 ∈ wsX6_add := by decide +kernel
  obtain ⟨hxL, hxK, hsa, hsp, hpl, hbr, hrd, hxw, hw3, hSa, hSp, hPl, hB, hR⟩ := id hx
  obtain ⟨hsaL, hsaK, hsal, hsas⟩ := id hSa
  refine g_iload_n Z dX6_add_0 rfl ?_
  refine g_csI Z (c_X6_isNoSet F.l F.D F.cy F.nw _ _) 1 gX6_add_X6_isNoSet rfl (by decide +kernel) (by rw [hRf, hRl]; decide) rfl rfl (Nat.le_of_ble_eq_true rfl) dX6_add_1 (by rw [hRc, hRs]; omega) (fun r0 T0 hq0 => ?_)
  obtain ⟨rfl, hi⟩ := hq0
  refine g_if_eq Z 12 dX6_add_4 (by decide) (fun h4 => ?_) (fun h4 => ?_)
  · obtain ⟨j, hj, rfl⟩ := isIx_0 hi h4
    obtain ⟨s, hs, it, us, hss⟩ := hsas j hj
    have hcj : (nI j).toNatClampNeg = j := nI_clamp (by omega)
    have hsL := hss.1
    have hsK := hss.2.1
    refine g_aload_n Z dX6_add_12 rfl ?_
    refine g_getr Z 5 0 rfl (by decide) in5 lk11 dX6_add_13 (by assumption) (by assumption) (by assumption) ?_
    refine g_iload_n Z dX6_add_16 rfl ?_
    refine g_aald11 Z dX6_add_17 (by assumption) (by assumption) (by exact vin_of hsal (by omega) (by decide)) (by rw [hcj]; exact hs) ?_
    refine g_iload_n Z dX6_add_18 rfl ?_
    refine g_csI Z (c_X6_keyOf F.l F.D F.cy F.nw _ _) 1 gX6_add_X6_keyOf rfl (by decide +kernel) (by rw [hRf, hRl]; decide) rfl rfl (Nat.le_of_ble_eq_true rfl) dX6_add_19 (by rw [hRc, hRs]; omega) (fun r1 T1 hq1 => ?_)
    obtain ⟨rfl, rfl⟩ := hq1
    obtain ⟨key, hkey, ekey⟩ := key16 v
    rw [ekey]
    refine g_iload_n Z dX6_add_22 rfl ?_
    refine g_csI Z (c_X6_lowOf F.l F.D F.cy F.nw _ _) 1 gX6_add_X6_lowOf rfl (by decide +kernel) (by rw [hRf, hRl]; decide) rfl rfl (Nat.le_of_ble_eq_true rfl) dX6_add_23 (by rw [hRc, hRs]; omega) (fun r1 T1 hq1 => ?_)
    obtain ⟨rfl, rfl⟩ := hq1
    obtain ⟨low, hlow, elow⟩ := low16 v
    rw [elow]
    refine g_iload_n Z dX6_add_26 rfl ?_
    refine g_csI Z (c_X6_lowOf F.l F.D F.cy F.nw _ _) 1 gX6_add_X6_lowOf rfl (by decide +kernel) (by rw [hRf, hRl]; decide) rfl rfl (Nat.le_of_ble_eq_true rfl) dX6_add_27 (by rw [hRc, hRs]; omega) (fun r1 T1 hq1 => ?_)
    obtain ⟨rfl, rfl⟩ := hq1
    rw [elow]
    refine g_iconst (v := 0) Z dX6_add_30 (by decide) ?_
    refine g_cvI Z (c_X2_changeSpan F.l F.D F.cy F.nw _ s it us hss key low low hkey hlow hlow _) 4 gX6_add_X2_changeSpan rfl (by decide +kernel) (by rw [hRf, hRl]; decide) (by assumption) (κ := 2) (by assumption) rfl (by decide) rfl rfl (Nat.le_of_ble_eq_true rfl) dX6_add_31 (by rw [hRc, hRs]; omega) (fun r2 T2 hp => ?_)
    exact g_iret Z dX6_add_34 (by omega) (by omega) (by first | exact hx.es hp | exact hx)
  · refine g_bipush (v := (-2)) Z dX6_add_7 (by decide) ?_
    refine g_goto Z 34 dX6_add_9 (by decide) ?_
    exact g_iret Z dX6_add_34 (by omega) (by omega) (by first | exact hx.es hp | exact hx)

set_option maxRecDepth 100000 in
set_option maxHeartbeats 2000000 in
/-- a number comes or goes -/
theorem c_X6_remove (l : Launch) (D : va_G) (cy : Nat → ClassId) (nw : Nat) (S : PS) (x sa sp pl la br h n u rd rk rt w : Nat) (hx : XA S nw x sa sp pl la br h n u rd rk rt w) (a v : Int32) : kI l yX6_remove wsX6_remove 4 94 D cy nw [.ref x, .int a, .int v] S (fun _ T => XA T nw x sa sp pl la br h n u rd rk rt w) 1 1024 := by
  refine enterI (cc := cX6_remove) (nL := 3) (ret := (some .int)) (by decide +kernel) rfl (Nat.le_of_ble_eq_true rfl) ?_
  intro F Z hl hR hD hcy hnw hnm
  subst hl hD hcy hnw
  have hRf : F.R.frames = 4 := by rw [hR]
  have hRc : F.R.cells = 1 := by rw [hR]
  have hRs : F.R.slots = 1024 := by rw [hR]
  have hRl : F.R.locals = 94 := by rw [hR]
  have in5 : ∀ w ∈ u_ws RX6 TX6 6, w ∈ wsX6_remove := by decide +kernel
  have lk11 : Cond.fieldLink RX6 11 (TX6 0).1 (TX6 0).2.1 (TX6 0).2.2.1 ∈ wsX6_remove := by decide +kernel
  obtain ⟨hxL, hxK, hsa, hsp, hpl, hbr, hrd, hxw, hw3, hSa, hSp, hPl, hB, hR⟩ := id hx
  obtain ⟨hsaL, hsaK, hsal, hsas⟩ := id hSa
  refine g_iload_n Z dX6_remove_0 rfl ?_
  refine g_csI Z (c_X6_isNoSet F.l F.D F.cy F.nw _ _) 1 gX6_remove_X6_isNoSet rfl (by decide +kernel) (by rw [hRf, hRl]; decide) rfl rfl (Nat.le_of_ble_eq_true rfl) dX6_remove_1 (by rw [hRc, hRs]; omega) (fun r0 T0 hq0 => ?_)
  obtain ⟨rfl, hi⟩ := hq0
  refine g_if_eq Z 12 dX6_remove_4 (by decide) (fun h4 => ?_) (fun h4 => ?_)
  · obtain ⟨j, hj, rfl⟩ := isIx_0 hi h4
    obtain ⟨s, hs, it, us, hss⟩ := hsas j hj
    have hcj : (nI j).toNatClampNeg = j := nI_clamp (by omega)
    have hsL := hss.1
    have hsK := hss.2.1
    refine g_aload_n Z dX6_remove_12 rfl ?_
    refine g_getr Z 5 0 rfl (by decide) in5 lk11 dX6_remove_13 (by assumption) (by assumption) (by assumption) ?_
    refine g_iload_n Z dX6_remove_16 rfl ?_
    refine g_aald11 Z dX6_remove_17 (by assumption) (by assumption) (by exact vin_of hsal (by omega) (by decide)) (by rw [hcj]; exact hs) ?_
    refine g_iload_n Z dX6_remove_18 rfl ?_
    refine g_csI Z (c_X6_keyOf F.l F.D F.cy F.nw _ _) 1 gX6_remove_X6_keyOf rfl (by decide +kernel) (by rw [hRf, hRl]; decide) rfl rfl (Nat.le_of_ble_eq_true rfl) dX6_remove_19 (by rw [hRc, hRs]; omega) (fun r1 T1 hq1 => ?_)
    obtain ⟨rfl, rfl⟩ := hq1
    obtain ⟨key, hkey, ekey⟩ := key16 v
    rw [ekey]
    refine g_iload_n Z dX6_remove_22 rfl ?_
    refine g_csI Z (c_X6_lowOf F.l F.D F.cy F.nw _ _) 1 gX6_remove_X6_lowOf rfl (by decide +kernel) (by rw [hRf, hRl]; decide) rfl rfl (Nat.le_of_ble_eq_true rfl) dX6_remove_23 (by rw [hRc, hRs]; omega) (fun r1 T1 hq1 => ?_)
    obtain ⟨rfl, rfl⟩ := hq1
    obtain ⟨low, hlow, elow⟩ := low16 v
    rw [elow]
    refine g_iload_n Z dX6_remove_26 rfl ?_
    refine g_csI Z (c_X6_lowOf F.l F.D F.cy F.nw _ _) 1 gX6_remove_X6_lowOf rfl (by decide +kernel) (by rw [hRf, hRl]; decide) rfl rfl (Nat.le_of_ble_eq_true rfl) dX6_remove_27 (by rw [hRc, hRs]; omega) (fun r1 T1 hq1 => ?_)
    obtain ⟨rfl, rfl⟩ := hq1
    rw [elow]
    refine g_iconst (v := 1) Z dX6_remove_30 (by decide) ?_
    refine g_cvI Z (c_X2_changeSpan F.l F.D F.cy F.nw _ s it us hss key low low hkey hlow hlow _) 4 gX6_remove_X2_changeSpan rfl (by decide +kernel) (by rw [hRf, hRl]; decide) (by assumption) (κ := 2) (by assumption) rfl (by decide) rfl rfl (Nat.le_of_ble_eq_true rfl) dX6_remove_31 (by rw [hRc, hRs]; omega) (fun r2 T2 hp => ?_)
    exact g_iret Z dX6_remove_34 (by omega) (by omega) (by first | exact hx.es hp | exact hx)
  · refine g_bipush (v := (-2)) Z dX6_remove_7 (by decide) ?_
    refine g_goto Z 34 dX6_remove_9 (by decide) ?_
    exact g_iret Z dX6_remove_34 (by omega) (by omega) (by first | exact hx.es hp | exact hx)
