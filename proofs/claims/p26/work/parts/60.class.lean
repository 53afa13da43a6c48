/-! THE WHOLE OBJECT -/
def XA (S : PS) (nw x sa sp pl la br h n u rd rk rt w : Nat) : Prop := x ∈ S.L ∧ S.K x = 5 ∧ S.fr x 0 = some sa ∧ S.fr x 1 = some sp ∧ S.fr x 2 = some pl ∧ S.fr x 3 = some br ∧ S.fr x 4 = some rd ∧ S.fi x 5 = nI w ∧ w ≤ 300 ∧ SaAt S nw sa ∧ SetOK S nw sp ∧ (∃ d, PlAt S nw pl la d) ∧ BytesAt S br h n u ∧ RdW S rd rk rt
theorem PlAt.eg {nw pl la d : Nat} {Q : Nat → Prop} {S T : PS} (h : Eg nw Q S T) (h3 : ¬ Q 3) (h11 : ¬ Q 11) (k : PlAt S nw pl la d) : PlAt T nw pl la d := by
  obtain ⟨k1, k2, k3, k4, k5, k6⟩ := k
  obtain ⟨a1, a2, -, a4, -⟩ := h.1 pl k1
  obtain ⟨e1, e2⟩ := a4 (by rw [k2]; exact h3) (by rw [k2]; decide) (by rw [k2]; decide)
  exact ⟨a1, a2.trans k2, by rw [e2]; exact k3, k4.eg h h11, by rw [e1]; exact k5, k6⟩
theorem RdW.eg {nw rd rk rt : Nat} {Q : Nat → Prop} {S T : PS} (h : Eg nw Q S T) (h4 : ¬ Q 4) (h8 : ¬ Q 8) (k : RdW S rd rk rt) : RdW T rd rk rt := by
  obtain ⟨k1, k2, k3, k4, k5, k6, k7, k8, k9, k10, k11, k16⟩ := k
  obtain ⟨a1, a2, -, a4, -⟩ := h.1 rd k1
  obtain ⟨e1, e2⟩ := a4 (by rw [k2]; exact h4) (by rw [k2]; decide) (by rw [k2]; decide)
  obtain ⟨b1, b2, b3, -, b5, -⟩ := h.1 rk k4
  obtain ⟨c1, c2, c3, -, -, -⟩ := h.1 rt k8
  refine ⟨a1, a2.trans k2, by rw [e2]; exact k3, b1, b2.trans k5, b3.trans k6, by rw [e2]; exact k7, c1, c2.trans k9, c3.trans k10, k11, ?_⟩
  rw [b5 (by rw [k5]; exact h8) (by rw [k5]; decide)]
  exact k16
theorem XA.eg {nw x sa sp pl la br h n u rd rk rt w h2 n2 u2 : Nat} {Q : Nat → Prop} {S T : PS} (hG : Eg nw Q S T) (q5 : ¬ Q 5) (q11 : ¬ Q 11) (hx : XA S nw x sa sp pl la br h n u rd rk rt w) (hp : ∃ d, PlAt T nw pl la d) (hb : BytesAt T br h2 n2 u2) (hr : RdW T rd rk rt) : XA T nw x sa sp pl la br h2 n2 u2 rd rk rt w := by
  obtain ⟨k1, k2, k3, k4, k5, k6, k7, k8, k9, k10, k11, -, -, -⟩ := hx
  obtain ⟨a1, a2, -, a4, -⟩ := hG.1 x k1
  obtain ⟨e1, e2⟩ := a4 (by rw [k2]; exact q5) (by rw [k2]; decide) (by rw [k2]; decide)
  exact ⟨a1, a2.trans k2, by rw [e2]; exact k3, by rw [e2]; exact k4, by rw [e2]; exact k5, by rw [e2]; exact k6, by rw [e2]; exact k7, by rw [e1]; exact k8, k9, k10.eg hG q11, hG.2.2.2 sp k11, hp, hb, hr⟩
theorem XA.es {nw x sa sp pl la br h n u rd rk rt w : Nat} {S T : PS} (hE : Es nw S T) (hx : XA S nw x sa sp pl la br h n u rd rk rt w) : XA T nw x sa sp pl la br h n u rd rk rt w := by
  have hG : Eg nw (fun _ => False) S T := hE.eg
  obtain ⟨d, hd⟩ := hx.2.2.2.2.2.2.2.2.2.2.2.1
  exact hx.eg hG (fun h => h) (fun h => h) ⟨d, hd.es hE⟩ (hE.bytes hx.2.2.2.2.2.2.2.2.2.2.2.2.1) (hx.2.2.2.2.2.2.2.2.2.2.2.2.2.eg hG (fun h => h) (fun h => h))
theorem XA.pile {nw x sa sp pl la br h n u rd rk rt w : Nat} {S T : PS} (hG : Eg nw Pp S T) (hp : ∃ d, PlAt T nw pl la d) (hx : XA S nw x sa sp pl la br h n u rd rk rt w) : XA T nw x sa sp pl la br h n u rd rk rt w :=
  hx.eg hG (by decide) (by decide) hp (hG.bytes (by decide) (by decide) hx.2.2.2.2.2.2.2.2.2.2.2.2.1) (hx.2.2.2.2.2.2.2.2.2.2.2.2.2.eg hG (by decide) (by decide))
theorem XA.read {nw x sa sp pl la br h n u rd rk rt w : Nat} {S T : PS} (hG : Eg nw Pr S T) (hr : RdW T rd rk rt) (hx : XA S nw x sa sp pl la br h n u rd rk rt w) : XA T nw x sa sp pl la br h n u rd rk rt w := by
  obtain ⟨d, hd⟩ := hx.2.2.2.2.2.2.2.2.2.2.2.1
  exact hx.eg hG (by decide) (by decide) ⟨d, hd.eg hG (by decide) (by decide)⟩ (hG.bytes (by decide) (by decide) hx.2.2.2.2.2.2.2.2.2.2.2.2.1) hr
theorem XA.byt {nw x sa sp pl la br h n u rd rk rt w h2 n2 u2 : Nat} {S T : PS} (hR : Rl Pb S T) (hb : BytesAt T br h2 n2 u2) (hx : XA S nw x sa sp pl la br h n u rd rk rt w) : XA T nw x sa sp pl la br h2 n2 u2 rd rk rt w := by
  have hG := hR.eg (nw := nw) nPb1 nPb2 nPb10
  obtain ⟨d, hd⟩ := hx.2.2.2.2.2.2.2.2.2.2.2.1
  exact hx.eg hG (by decide) (by decide) ⟨d, hd.eg hG (by decide) (by decide)⟩ hb (hx.2.2.2.2.2.2.2.2.2.2.2.2.2.eg hG (by decide) (by decide))
theorem XA.work {nw x sa sp pl la br h n u rd rk rt w w2 : Nat} {S : PS} (hw : w2 ≤ 300) (hx : XA S nw x sa sp pl la br h n u rd rk rt w) : XA (S.setI x 5 (nI w2)) nw x sa sp pl la br h n u rd rk rt w2 := by
  have hR : Rl (fun κ => κ = 5) S (S.setI x 5 (nI w2)) := Rl.rf.setI hx.2.1
  have hG := hR.eg (nw := nw) (by decide) (by decide) (by decide)
  obtain ⟨k1, k2, k3, k4, k5, k6, k7, k8, k9, k10, k11, ⟨d, hd⟩, k13, k14⟩ := hx
  exact ⟨k1, k2, k3, k4, k5, k6, k7, up2_self _ _ _ _, hw, k10.eg hG (by decide), hG.2.2.2 sp k11, ⟨d, hd.eg hG (by decide) (by decide)⟩, hG.bytes (by decide) (by decide) k13, k14.eg hG (by decide) (by decide)⟩
/-- work is taken, or not -/
def WK (P : Prop) (k w w2 : Nat) : Prop := (P ∧ k ≤ w ∧ w2 + k = w) ∨ (¬ (P ∧ k ≤ w) ∧ w2 = w)
theorem WK.eq {P P2 : Prop} {k w a b : Nat} (h : P ↔ P2) (h1 : WK P k w a) (h2 : WK P2 k w b) : a = b := by
  rcases h1 with ⟨p1, p2, p3⟩ | ⟨p1, p2⟩ <;> rcases h2 with ⟨q1, q2, q3⟩ | ⟨q1, q2⟩
  · omega
  · exact absurd ⟨h.mp p1, p2⟩ q1
  · exact absurd ⟨h.mpr q1, q2⟩ p1
  · omega
/-- a number of a set; half a number -/
def isS (x : Int32) : Prop := ∃ j : Nat, j < 8 ∧ x = nI j
theorem isIx_0 {n : Nat} {x r : Int32} (h : isIx n x r) (e : r = 0) : ∃ j : Nat, j < n ∧ x = nI j := by
  rcases h with ⟨-, h⟩ | ⟨h, -⟩
  · exact h
  · rw [e] at h; exact absurd h (by decide)
theorem isIx_1 {n : Nat} (hn : n < 2 ^ 31) {x r : Int32} (h : isIx n x r) (e : ¬ r = 0) : ¬ ∃ j : Nat, j < n ∧ x = nI j := by
  rcases h with ⟨h, -⟩ | ⟨-, h⟩
  · exact absurd h e
  · intro ⟨j, h1, h2⟩
    subst h2
    rcases h with h | h
    · exact nI_pos (by omega) h
    · have := (nI_leI hn (by omega)).mp h; omega
theorem key16 (v : Int32) : ∃ k : Nat, k < 65536 ∧ (v.toUInt32 >>> ((16 : Int32).toUInt32 &&& Int32.toUInt32 31)).toInt32 = nI k := by
  obtain ⟨n, hn, rfl⟩ := wb_of32 v
  exact ⟨n / 2 ^ 16, by omega, pk_ushrN hn 16 16 (by decide)⟩
theorem low16 (v : Int32) : ∃ k : Nat, k < 65536 ∧ v &&& 65535 = nI k := by
  obtain ⟨j, h1, h2⟩ := i32_and v 65535 (by decide)
  exact ⟨j, by omega, h2⟩

set_option maxRecDepth 100000 in
set_option maxHeartbeats 2000000 in
/-- static -/
theorem c_X6_lowOf (l : Launch) (D : va_G) (cy : Nat → ClassId) (nw : Nat) (S : PS) (x : Int32) : kI l yX6_lowOf wsX6_lowOf 0 0 D cy nw [.int x] S (fun r T => S = T ∧ r = x &&& 65535) 0 0 := by
  refine enterI (cc := cX6_lowOf) (nL := 1) (ret := (some .int)) (by decide +kernel) rfl (Nat.le_of_ble_eq_true rfl) ?_
  intro F Z hl hR hD hcy hnw hnm
  subst hl hD hcy hnw
  have hRf : F.R.frames = 0 := by rw [hR]
  have hRc : F.R.cells = 0 := by rw [hR]
  have hRs : F.R.slots = 0 := by rw [hR]
  have hRl : F.R.locals = 0 := by rw [hR]
  have ct189 : Cond.constant RX6 189 (65535) ∈ wsX6_lowOf := by decide +kernel
  refine g_iload_n Z dX6_lowOf_0 rfl ?_
  refine g_ldc (v := 65535) Z dX6_lowOf_1 ct189 ?_
  refine g_iand Z dX6_lowOf_3 ?_
  exact g_iret Z dX6_lowOf_4 (by omega) (by omega) (⟨rfl, rfl⟩)

theorem nh_f {x : Int32} (h : ¬ (65535 : Int32) < x) : ¬ nI 65536 ≤ x := fun h2 => h (Int32.lt_of_lt_of_le (by decide) h2)
theorem nh_t {x : Int32} (h : (65535 : Int32) < x) : nI 65536 ≤ x := by
  have h1 : (65535 : Int32).toInt < x.toInt := Int32.lt_iff_toInt_lt.mp h
  refine Int32.le_iff_toInt_le.mpr ?_
  rw [nI_toInt (by decide)]
  have : (65535 : Int32).toInt = 65535 := by decide
  omega

set_option maxRecDepth 100000 in
set_option maxHeartbeats 2000000 in
/-- static -/
theorem c_X6_isNoHalf (l : Launch) (D : va_G) (cy : Nat → ClassId) (nw : Nat) (S : PS) (x : Int32) : kI l yX6_isNoHalf wsX6_isNoHalf 0 0 D cy nw [.int x] S (fun r T => S = T ∧ isIx 65536 x r) 0 0 := by
  refine enterI (cc := cX6_isNoHalf) (nL := 1) (ret := (some .boolean)) (by decide +kernel) rfl (Nat.le_of_ble_eq_true rfl) ?_
  intro F Z hl hR hD hcy hnw hnm
  subst hl hD hcy hnw
  have hRf : F.R.frames = 0 := by rw [hR]
  have hRc : F.R.cells = 0 := by rw [hR]
  have hRs : F.R.slots = 0 := by rw [hR]
  have hRl : F.R.locals = 0 := by rw [hR]
  have ct189 : Cond.constant RX6 189 (65535) ∈ wsX6_isNoHalf := by decide +kernel
  refine g_iload_n Z dX6_isNoHalf_0 rfl ?_
  refine g_if_lt Z 10 dX6_isNoHalf_1 (by decide) (fun h1 => ?_) (fun h1 => ?_)
  · refine g_iconst (v := 1) Z dX6_isNoHalf_10 (by decide) ?_
    refine g_goto Z 15 dX6_isNoHalf_11 (by decide) ?_
    exact g_zret Z dX6_isNoHalf_15 (by rfl) (by omega) (by omega) (by first | exact ⟨rfl, isIx_t0 h1⟩ | exact ⟨rfl, isIx_f (by decide) h1 (nh_f (fun h => Int32.lt_irrefl (Int32.lt_of_lt_of_le h h7)))⟩ | exact ⟨rfl, isIx_t (nh_t (i_lt_of_nle h7))⟩)
  · refine g_iload_n Z dX6_isNoHalf_4 rfl ?_
    refine g_ldc (v := 65535) Z dX6_isNoHalf_5 ct189 ?_
    refine g_icmp_le Z 14 dX6_isNoHalf_7 (by decide) (fun h7 => ?_) (fun h7 => ?_)
    · refine g_iconst (v := 0) Z dX6_isNoHalf_14 (by decide) ?_
      exact g_zret Z dX6_isNoHalf_15 (by rfl) (by omega) (by omega) (by first | exact ⟨rfl, isIx_t0 h1⟩ | exact ⟨rfl, isIx_f (by decide) h1 (nh_f (fun h => Int32.lt_irrefl (Int32.lt_of_lt_of_le h h7)))⟩ | exact ⟨rfl, isIx_t (nh_t (i_lt_of_nle h7))⟩)
    · refine g_iconst (v := 1) Z dX6_isNoHalf_10 (by decide) ?_
      refine g_goto Z 15 dX6_isNoHalf_11 (by decide) ?_
      exact g_zret Z dX6_isNoHalf_15 (by rfl) (by omega) (by omega) (by first | exact ⟨rfl, isIx_t0 h1⟩ | exact ⟨rfl, isIx_f (by decide) h1 (nh_f (fun h => Int32.lt_irrefl (Int32.lt_of_lt_of_le h h7)))⟩ | exact ⟨rfl, isIx_t (nh_t (i_lt_of_nle h7))⟩)

