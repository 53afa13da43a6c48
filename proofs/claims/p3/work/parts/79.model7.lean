/-! WRITING, by the reference -/
def Bt (R : MR) : Prop := ∀ i, i < 60000 → ∃ b, b < 256 ∧ R.bt i = nI b
def InvR (R : MR) : Prop := (∃ n, n ≤ 60000 ∧ R.si = nI n) ∧ Bt R
/-- bytes were put, o of them now -/
def Wr (R Q : MR) (o : Nat) : Prop := Q.wk = R.wk ∧ Q.si = R.si ∧ Q.ou = nI o ∧ Bt Q
theorem Bt.put {R : MR} (h : Bt R) {i b : Nat} (hb : b < 256) : Bt (R.s_bt (upd R.bt i (nI b))) := fun j hj => by
  show ∃ b', b' < 256 ∧ upd R.bt i (nI b) j = nI b'
  by_cases e : j = i
  · subst e; exact ⟨b, hb, pk_us⟩
  · rw [pk_un e]; exact h j hj
theorem Wr.tr {R P Q : MR} {o o2 : Nat} (h : Wr R P o) (k : Wr P Q o2) : Wr R Q o2 := ⟨k.1.trans h.1, k.2.1.trans h.2.1, k.2.2⟩
def lO (C : C5) (c : Nat) : Nat := if C.kd c = 0 then 2 * ct C.wd c 65536 else if C.kd c = 1 then 8192 else 2 + 4 * rn C.wd c 65536
theorem lO_le (C : C5) (c : Nat) : lO C c ≤ 131074 := by
  unfold lO
  have h1 := ct_le C.wd c 65536
  have h2 := rn_top C.wd c
  split
  · omega
  · split
    · omega
    · omega
def lS (C : C5) (s : Nat) : Nat → Nat
  | 0 => 0
  | k + 1 => lS C s k + lO C (6 * s + k)
theorem lS_le (C : C5) (s : Nat) : ∀ k, lS C s k ≤ 131074 * k
  | 0 => Nat.le_refl _
  | k + 1 => by have := lS_le C s k; have := lO_le C (6 * s + k); show lS C s k + lO C (6 * s + k) ≤ _; omega
theorem lS_mono (C : C5) (s : Nat) {j k : Nat} (h : j ≤ k) : lS C s j ≤ lS C s k := by
  induction k with
  | zero => rw [Nat.le_zero.mp h]; exact Nat.le_refl _
  | succ k ih =>
    by_cases e : j = k + 1
    · rw [e]; exact Nat.le_refl _
    · have := ih (by omega); show _ ≤ lS C s k + lO C (6 * s + k); omega
def hasR (C : C5) (s n : Nat) : Nat := if 0 < cK C s n then 1 else 0
def hdO (C : C5) (s n : Nat) : Nat := (if hasR C s n = 0 then 8 else 5) + 4 * n + (if hasR C s n = 0 ∨ 4 ≤ n then 4 * n else 0)
theorem cK_le (C : C5) (s : Nat) : ∀ k, cK C s k ≤ k
  | 0 => Nat.le_refl _
  | k + 1 => by
    have := cK_le C s k
    show cK C s k + (if C.kd (6 * s + k) = 2 then 1 else 0) ≤ k + 1
    split <;> omega
theorem rn_mono' (f : Nat → Int64) (c : Nat) {l k : Nat} (h : l ≤ k) : rn f c l ≤ rn f c k := by
  induction k with
  | zero => rw [Nat.le_zero.mp h]; exact Nat.le_refl _
  | succ k ih =>
    by_cases e : l = k + 1
    · rw [e]; exact Nat.le_refl _
    · have := ih (by omega); show _ ≤ rn f c k + cb f c k * (1 - pv f c k); omega

set_option maxRecDepth 100000 in
set_option maxHeartbeats 2000000 in
/-- bytes are put -/
theorem c_X7_put (l : Launch) (D : va_G) (cy : Nat → ClassId) (nw : Nat) (A : Nat → Nat) (x : Nat) (ho : mOk A x) (C : C5) (R : MR) (hB : Bt R) (o : Nat) (eo : R.ou = nI o) (v : Int32) (n0 : Nat) (hon : o + n0 ≤ 60000) : kV l yX7_put wsX7_put 0 0 D cy nw [.ref x, .int v, .int (nI n0)] (mP A x (C, R)) (fun T => ∃ Q, mP A x (C, Q) = T ∧ Wr R Q (o + n0)) 0 0 := by
  refine enterV (cc := cX7_put) (nL := 4) (ret := none) (by decide +kernel) rfl (Nat.le_of_ble_eq_true rfl) ?_
  intro F Z hl hR hD hcy hnw hnm
  subst hl hD hcy hnw
  have hRf : F.R.frames = 0 := by rw [hR]
  have hRc : F.R.cells = 0 := by rw [hR]
  have hRs : F.R.slots = 0 := by rw [hR]
  have hRl : F.R.locals = 0 := by rw [hR]
  have in6 : ∀ w ∈ u_ws RX7 TX7 16, w ∈ wsX7_put := by decide +kernel
  have lk32 : Cond.fieldLink RX7 32 (TX7 7).1 (TX7 7).2.1 (TX7 7).2.2.1 ∈ wsX7_put := by decide +kernel
  have lk153 : Cond.fieldLink RX7 153 (TX7 8).1 (TX7 8).2.1 (TX7 8).2.2.1 ∈ wsX7_put := by decide +kernel
  have loop : ∀ (n : Nat) (k : Nat) (W : MR), n0 - k < n → (k ≤ n0 ∧ Wr R W (o + k)) → G F 4 (mP A x (C, W)) 0 0 (QV F (fun T => ∃ Q, mP A x (C, Q) = T ∧ Wr R Q (o + n0)) 0 0) 2 [(0, .ref x), (1, .int v), (2, .int (nI n0)), (3, .int (nI k))] [] := by
    intro n
    induction n with
    | zero => intros; omega
    | succ n ih =>
      intro k W hn ⟨hk, w1, w2, w3, w4⟩
      refine g_iload_n Z dX7_put_2 rfl ?_
      refine g_iload_n Z dX7_put_3 rfl ?_
      refine g_icmp_ge Z 42 dX7_put_4 (by decide) (fun h4 => ?_) (fun h4 => ?_)
      · have he : k = n0 := by have := ge_t (i := k) (N := n0) (by omega) (by omega) h4; omega
        subst he
        exact g_vret Z dX7_put_42 (by omega) (by omega) (⟨W, rfl, w1, w2, w3, w4⟩)
      · have hlt : k < n0 := ge_f (by omega) (by omega) h4
        refine g_aload_n Z dX7_put_7 rfl ?_
        refine m_ref_bt Z in6 lk32 dX7_put_8 ?_
        refine g_aload_n Z dX7_put_11 rfl ?_
        refine m_get_ou Z in6 lk153 dX7_put_12 ?_
        rw [w3]
        refine g_iload_n Z dX7_put_15 rfl ?_
        refine g_bipush (v := 8) Z dX7_put_16 (by decide) ?_
        refine g_iload_n Z dX7_put_18 rfl ?_
        refine g_imul Z dX7_put_19 ?_
        refine g_iushr Z dX7_put_20 ?_
        refine g_sipush (v := 255) Z dX7_put_21 (by decide) ?_
        refine g_iand Z dX7_put_24 ?_
        obtain ⟨b, hb, eb⟩ := pk_andE ((v.toUInt32 >>> ((8 * nI k).toUInt32 &&& Int32.toUInt32 31)).toInt32) (m := 255) 8 (by decide)
        rw [eb]
        refine m_ast_bt Z ho dX7_put_25 (by exact vp_in_nI (by omega) (by decide)) ?_
        rw [nI_clamp (by omega)]
        refine g_aload_n Z dX7_put_26 rfl ?_
        refine g_dup Z dX7_put_27 rfl ?_
        refine m_get_ou Z in6 lk153 dX7_put_28 ?_
        rw [w3]
        refine g_iconst (v := 1) Z dX7_put_31 (by decide) ?_
        refine g_iadd Z dX7_put_32 ?_
        rw [nI_1]
        refine m_put_ou Z in6 lk153 dX7_put_33 ?_
        refine g_iinc (c := 1) Z dX7_put_36 rfl (by decide) (by decide) ?_
        rw [nI_1]
        refine g_goto Z 2 dX7_put_39 (by decide) ?_
        exact g_lv (by (repeat (first | exact trivial | refine And.intro rfl ?_)); done) (ih (k + 1) _ (by omega) ⟨by omega, w1, w2, rfl, w4.put hb⟩)
  refine g_iconst (v := 0) Z dX7_put_0 (by decide) ?_
  refine g_istore_n Z dX7_put_1 (by decide) ?_
  exact g_lv (by (repeat (first | exact trivial | refine And.intro rfl ?_)); done) (loop (n0 + 1) 0 R (by omega) ⟨by omega, rfl, rfl, eo, hB⟩)

set_option maxRecDepth 100000 in
set_option maxHeartbeats 2000000 in
/-- whether there are runs -/
theorem c_X7_hasRuns (l : Launch) (D : va_G) (cy : Nat → ClassId) (nw : Nat) (A : Nat → Nat) (x : Nat) (ho : mOk A x) (C : C5) (R : MR) (s : Nat) (hs : s < 8) (n0 : Nat) (hn0 : n0 ≤ 6) (en : C.mn s = nI n0) : kI l yX7_hasRuns wsX7_hasRuns 3 69 D cy nw [.ref x, .int (nI s)] (mP A x (C, R)) (fun r T => (mP A x (C, R)) = T ∧ r = nI (hasR C s n0)) 0 0 := by
  refine enterI (cc := cX7_hasRuns) (nL := 2) (ret := (some .boolean)) (by decide +kernel) rfl (Nat.le_of_ble_eq_true rfl) ?_
  intro F Z hl hR hD hcy hnw hnm
  subst hl hD hcy hnw
  have hRf : F.R.frames = 3 := by rw [hR]
  have hRc : F.R.cells = 0 := by rw [hR]
  have hRs : F.R.slots = 0 := by rw [hR]
  have hRl : F.R.locals = 69 := by rw [hR]
  have in6 : ∀ w ∈ u_ws RX7 TX7 16, w ∈ wsX7_hasRuns := by decide +kernel
  refine g_aload_n Z dX7_hasRuns_0 rfl ?_
  refine g_iload_n Z dX7_hasRuns_1 rfl ?_
  refine g_iconst (v := 4) Z dX7_hasRuns_2 (by decide) ?_
  refine g_cvI Z (c_X7_count4 F.l F.D F.cy F.nw A x ho C R s hs n0 hn0 en) 2 gX7_hasRuns_X7_count rfl (by decide +kernel) (by rw [hRf, hRl]; decide) (by exact mP_x) (κ := 6) (by exact mP_Kx) rfl (by decide) rfl rfl (Nat.le_of_ble_eq_true rfl) dX7_hasRuns_3 (by rw [hRc, hRs]; omega) (fun r T hp => ?_)
  obtain ⟨rfl, rfl⟩ := hp
  have hck := cK_le C s n0
  refine g_if_le Z 13 dX7_hasRuns_6 (by decide) (fun h6 => ?_) (fun h6 => ?_)
  · have e0 : ¬ 0 < cK C s n0 := fun q => nI_nle q (by omega) h6
    refine g_iconst (v := 0) Z dX7_hasRuns_13 (by decide) ?_
    exact g_zret Z dX7_hasRuns_14 (by rfl) (by omega) (by omega) (⟨rfl, by unfold hasR; first | (rw [if_pos e0]; rfl) | (rw [if_neg e0]; rfl)⟩)
  · have e0 : 0 < cK C s n0 := Nat.pos_of_ne_zero (fun e => h6 (by rw [e]; decide))
    refine g_iconst (v := 1) Z dX7_hasRuns_9 (by decide) ?_
    refine g_goto Z 14 dX7_hasRuns_10 (by decide) ?_
    exact g_zret Z dX7_hasRuns_14 (by rfl) (by omega) (by omega) (⟨rfl, by unfold hasR; first | (rw [if_pos e0]; rfl) | (rw [if_neg e0]; rfl)⟩)

set_option maxRecDepth 100000 in
set_option maxHeartbeats 2000000 in
/-- how many bytes a container takes -/
theorem c_X7_lengthOf (l : Launch) (D : va_G) (cy : Nat → ClassId) (nw : Nat) (A : Nat → Nat) (x : Nat) (ho : mOk A x) (C : C5) (R : MR) (c : Nat) (hc : c < 102) (hg : gc C c) : kI l yX7_lengthOf wsX7_lengthOf 2 50 D cy nw [.ref x, .int (nI c)] (mP A x (C, R)) (fun r T => (mP A x (C, R)) = T ∧ r = nI (lO C c)) 0 0 := by
  refine enterI (cc := cX7_lengthOf) (nL := 2) (ret := (some .int)) (by decide +kernel) rfl (Nat.le_of_ble_eq_true rfl) ?_
  intro F Z hl hR hD hcy hnw hnm
  subst hl hD hcy hnw
  have hRf : F.R.frames = 2 := by rw [hR]
  have hRc : F.R.cells = 0 := by rw [hR]
  have hRs : F.R.slots = 0 := by rw [hR]
  have hRl : F.R.locals = 50 := by rw [hR]
  have in6 : ∀ w ∈ u_ws RX7 TX7 16, w ∈ wsX7_lengthOf := by decide +kernel
  have lk16 : Cond.fieldLink RX7 16 (TX7 2).1 (TX7 2).2.1 (TX7 2).2.2.1 ∈ wsX7_lengthOf := by decide +kernel
  have lk19 : Cond.fieldLink RX7 19 (TX7 3).1 (TX7 3).2.1 (TX7 3).2.2.1 ∈ wsX7_lengthOf := by decide +kernel
  refine g_aload_n Z dX7_lengthOf_0 rfl ?_
  refine m_ref_kd Z in6 lk16 dX7_lengthOf_1 ?_
  refine g_iload_n Z dX7_lengthOf_4 rfl ?_
  refine m_ald_kd Z ho dX7_lengthOf_5 (by exact vp_in_nI (by omega) (by decide)) ?_
  rw [nI_clamp (by omega)]
  refine g_if_ne Z 20 dX7_lengthOf_6 (by decide) (fun h6 => ?_) (fun h6 => ?_)
  · refine g_aload_n Z dX7_lengthOf_20 rfl ?_
    refine m_ref_kd Z in6 lk16 dX7_lengthOf_21 ?_
    refine g_iload_n Z dX7_lengthOf_24 rfl ?_
    refine m_ald_kd Z ho dX7_lengthOf_25 (by exact vp_in_nI (by omega) (by decide)) ?_
    rw [nI_clamp (by omega)]
    refine g_iconst (v := 1) Z dX7_lengthOf_26 (by decide) ?_
    refine g_icmp_ne Z 36 dX7_lengthOf_27 (by decide) (fun h27 => ?_) (fun h27 => ?_)
    · have e1 : lO C c = 2 + 4 * rn C.wd c 65536 := (if_neg h6).trans (if_neg h27)
      refine g_iconst (v := 2) Z dX7_lengthOf_36 (by decide) ?_
      refine g_iconst (v := 4) Z dX7_lengthOf_37 (by decide) ?_
      refine g_aload_n Z dX7_lengthOf_38 rfl ?_
      refine g_iload_n Z dX7_lengthOf_39 rfl ?_
      refine g_cvI Z (c_X7_runsOf F.l F.D F.cy F.nw A x ho _ _ _ hc) 1 gX7_lengthOf_X7_runsOf rfl (by decide +kernel) (by rw [hRf, hRl]; decide) (by exact mP_x) (κ := 6) (by exact mP_Kx) rfl (by decide) rfl rfl (Nat.le_of_ble_eq_true rfl) dX7_lengthOf_40 (by rw [hRc, hRs]; omega) (fun r T hp => ?_)
      obtain ⟨rfl, rfl⟩ := hp
      refine g_imul Z dX7_lengthOf_43 ?_
      refine g_iadd Z dX7_lengthOf_44 ?_
      rw [show (2 : Int32) + 4 * nI (rn C.wd c 65536) = nI (2 + 4 * rn C.wd c 65536) from by rw [show (4 : Int32) = nI 4 from rfl, pk_mul]; exact nI_add 2 _]
      exact g_iret Z dX7_lengthOf_45 (by omega) (by omega) (⟨rfl, (congrArg nI e1).symm⟩)
    · have e1 : lO C c = 8192 := (if_neg h6).trans (if_pos h27)
      refine g_sipush (v := 8192) Z dX7_lengthOf_30 (by decide) ?_
      refine g_goto Z 45 dX7_lengthOf_33 (by decide) ?_
      exact g_iret Z dX7_lengthOf_45 (by omega) (by omega) (⟨rfl, (congrArg nI e1).symm⟩)
  · have e1 : lO C c = 2 * ct C.wd c 65536 := if_pos h6
    refine g_iconst (v := 2) Z dX7_lengthOf_9 (by decide) ?_
    refine g_aload_n Z dX7_lengthOf_10 rfl ?_
    refine m_ref_sz Z in6 lk19 dX7_lengthOf_11 ?_
    refine g_iload_n Z dX7_lengthOf_14 rfl ?_
    refine m_ald_sz Z ho dX7_lengthOf_15 (by exact vp_in_nI (by omega) (by decide)) ?_
    rw [nI_clamp (by omega), show C.sz c = nI (ct C.wd c 65536) from hg]
    refine g_imul Z dX7_lengthOf_16 ?_
    rw [show (2 : Int32) * nI (ct C.wd c 65536) = nI (2 * ct C.wd c 65536) from pk_mul 2 _]
    refine g_goto Z 45 dX7_lengthOf_17 (by decide) ?_
    exact g_iret Z dX7_lengthOf_45 (by omega) (by omega) (⟨rfl, (congrArg nI e1).symm⟩)

set_option maxRecDepth 100000 in
set_option maxHeartbeats 2000000 in
/-- how many bytes the head takes -/
theorem c_X7_headOf (l : Launch) (D : va_G) (cy : Nat → ClassId) (nw : Nat) (A : Nat → Nat) (x : Nat) (ho : mOk A x) (C : C5) (R : MR) (s : Nat) (hs : s < 8) (n0 : Nat) (hn0 : n0 ≤ 6) (en : C.mn s = nI n0) : kI l yX7_headOf wsX7_headOf 4 90 D cy nw [.ref x, .int (nI s)] (mP A x (C, R)) (fun r T => (mP A x (C, R)) = T ∧ r = nI (hdO C s n0)) 0 0 := by
  refine enterI (cc := cX7_headOf) (nL := 4) (ret := (some .int)) (by decide +kernel) rfl (Nat.le_of_ble_eq_true rfl) ?_
  intro F Z hl hR hD hcy hnw hnm
  subst hl hD hcy hnw
  have hRf : F.R.frames = 4 := by rw [hR]
  have hRc : F.R.cells = 0 := by rw [hR]
  have hRs : F.R.slots = 0 := by rw [hR]
  have hRl : F.R.locals = 90 := by rw [hR]
  have in6 : ∀ w ∈ u_ws RX7 TX7 16, w ∈ wsX7_headOf := by decide +kernel
  have lk7 : Cond.fieldLink RX7 7 (TX7 0).1 (TX7 0).2.1 (TX7 0).2.2.1 ∈ wsX7_headOf := by decide +kernel
  have hR1 : hasR C s n0 ≤ 1 := by unfold hasR; split <;> omega
  refine g_aload_n Z dX7_headOf_0 rfl ?_
  refine m_ref_mn Z in6 lk7 dX7_headOf_1 ?_
  refine g_iload_n Z dX7_headOf_4 rfl ?_
  refine m_ald_mn Z ho dX7_headOf_5 (by exact vp_in_nI (by omega) (by decide)) ?_
  rw [nI_clamp (by omega), en]
  refine g_istore_n Z dX7_headOf_6 (by decide) ?_
  refine g_aload_n Z dX7_headOf_7 rfl ?_
  refine g_iload_n Z dX7_headOf_8 rfl ?_
  refine g_cvI Z (c_X7_hasRuns F.l F.D F.cy F.nw A x ho _ _ s hs n0 hn0 en) 1 gX7_headOf_X7_hasRuns rfl (by decide +kernel) (by rw [hRf, hRl]; decide) (by exact mP_x) (κ := 6) (by exact mP_Kx) rfl (by decide) rfl rfl (Nat.le_of_ble_eq_true rfl) dX7_headOf_9 (by rw [hRc, hRs]; omega) (fun r T hp => ?_)
  obtain ⟨rfl, rfl⟩ := hp
  refine g_istore_n Z dX7_headOf_12 (by decide) ?_
  refine g_iload_n Z dX7_headOf_13 rfl ?_
  refine g_if_eq Z 21 dX7_headOf_14 (by decide) (fun h14 => ?_) (fun h14 => ?_)
  · have e0 : hasR C s n0 = 0 := (nI_eq (b := 0) (by omega) (by decide)).mp h14
    refine g_bipush (v := 8) Z dX7_headOf_21 (by decide) ?_
    refine g_iconst (v := 4) Z dX7_headOf_23 (by decide) ?_
    refine g_iload_n Z dX7_headOf_24 rfl ?_
    refine g_imul Z dX7_headOf_25 ?_
    refine g_iadd Z dX7_headOf_26 ?_
    refine g_iload_n Z dX7_headOf_27 rfl ?_
    refine g_if_eq Z 36 dX7_headOf_28 (by decide) (fun h28 => ?_) (fun h28 => absurd (h14) h28)
    refine g_iconst (v := 4) Z dX7_headOf_36 (by decide) ?_
    refine g_iload_n Z dX7_headOf_37 rfl ?_
    refine g_imul Z dX7_headOf_38 ?_
    refine g_goto Z 43 dX7_headOf_39 (by decide) ?_
    refine g_iadd Z dX7_headOf_43 ?_
    rw [show (8 : Int32) + 4 * nI n0 + 4 * nI n0 = nI (8 + 4 * n0 + 4 * n0) from by rw [show (4 : Int32) = nI 4 from rfl, pk_mul, show (8 : Int32) = nI 8 from rfl, nI_add, nI_add]]
    exact g_iret Z dX7_headOf_44 (by omega) (by omega) (⟨rfl, by unfold hdO; rw [if_pos e0, if_pos (Or.inl e0)]⟩)
  · have e0 : ¬ hasR C s n0 = 0 := fun e => h14 (by rw [e]; rfl)
    refine g_iconst (v := 5) Z dX7_headOf_17 (by decide) ?_
    refine g_goto Z 23 dX7_headOf_18 (by decide) ?_
    refine g_iconst (v := 4) Z dX7_headOf_23 (by decide) ?_
    refine g_iload_n Z dX7_headOf_24 rfl ?_
    refine g_imul Z dX7_headOf_25 ?_
    refine g_iadd Z dX7_headOf_26 ?_
    refine g_iload_n Z dX7_headOf_27 rfl ?_
    refine g_if_eq Z 36 dX7_headOf_28 (by decide) (fun h28 => absurd h28 (h14)) (fun h28 => ?_)
    refine g_iload_n Z dX7_headOf_31 rfl ?_
    refine g_iconst (v := 4) Z dX7_headOf_32 (by decide) ?_
    refine g_icmp_lt Z 42 dX7_headOf_33 (by decide) (fun h33 => ?_) (fun h33 => ?_)
    · have e4 : ¬ 4 ≤ n0 := fun q => absurd (lt_t (N := 4) (by omega) (by decide) h33) (by omega)
      refine g_iconst (v := 0) Z dX7_headOf_42 (by decide) ?_
      refine g_iadd Z dX7_headOf_43 ?_
      rw [show (5 : Int32) + 4 * nI n0 + 0 = nI (5 + 4 * n0 + 0) from by rw [show (4 : Int32) = nI 4 from rfl, pk_mul, show (5 : Int32) = nI 5 from rfl, nI_add, add0]; rfl]
      exact g_iret Z dX7_headOf_44 (by omega) (by omega) (⟨rfl, by unfold hdO; rw [if_neg e0, if_neg (fun q => q.elim e0 e4)]⟩)
    · have e4 : 4 ≤ n0 := lt_f (N := 4) (by omega) (by decide) h33
      refine g_iconst (v := 4) Z dX7_headOf_36 (by decide) ?_
      refine g_iload_n Z dX7_headOf_37 rfl ?_
      refine g_imul Z dX7_headOf_38 ?_
      refine g_goto Z 43 dX7_headOf_39 (by decide) ?_
      refine g_iadd Z dX7_headOf_43 ?_
      rw [show (5 : Int32) + 4 * nI n0 + 4 * nI n0 = nI (5 + 4 * n0 + 4 * n0) from by rw [show (4 : Int32) = nI 4 from rfl, pk_mul, show (5 : Int32) = nI 5 from rfl, nI_add, nI_add]]
      exact g_iret Z dX7_headOf_44 (by omega) (by omega) (⟨rfl, by unfold hdO; rw [if_neg e0, if_pos (Or.inr e4)]⟩)

set_option maxRecDepth 100000 in
set_option maxHeartbeats 2000000 in
/-- a container is written -/
theorem c_X7_writeOne (l : Launch) (D : va_G) (cy : Nat → ClassId) (nw : Nat) (A : Nat → Nat) (x : Nat) (ho : mOk A x) (C : C5) (R : MR) (c : Nat) (hc : c < 102) (hB : Bt R) (o : Nat) (eo : R.ou = nI o) (hol : o + lO C c ≤ 60000) : kV l yX7_writeOne wsX7_writeOne 2 50 D cy nw [.ref x, .int (nI c)] (mP A x (C, R)) (fun T => ∃ Q o2, mP A x (C, Q) = T ∧ Wr R Q o2 ∧ o2 ≤ o + lO C c) 0 0 := by
  refine enterV (cc := cX7_writeOne) (nL := 4) (ret := none) (by decide +kernel) rfl (Nat.le_of_ble_eq_true rfl) ?_
  intro F Z hl hR hD hcy hnw hnm
  subst hl hD hcy hnw
  have hRf : F.R.frames = 2 := by rw [hR]
  have hRc : F.R.cells = 0 := by rw [hR]
  have hRs : F.R.slots = 0 := by rw [hR]
  have hRl : F.R.locals = 50 := by rw [hR]
  have in6 : ∀ w ∈ u_ws RX7 TX7 16, w ∈ wsX7_writeOne := by decide +kernel
  have lk16 : Cond.fieldLink RX7 16 (TX7 2).1 (TX7 2).2.1 (TX7 2).2.2.1 ∈ wsX7_writeOne := by decide +kernel
  have lk23 : Cond.fieldLink RX7 23 (TX7 4).1 (TX7 4).2.1 (TX7 4).2.2.1 ∈ wsX7_writeOne := by decide +kernel
  have ct107 : Cond.constant RX7 107 (65536) ∈ wsX7_writeOne := by decide +kernel
  have bm : ∀ (n : Nat), C.kd c = 1 → ∀ (k : Nat) (W : MR), 1024 - k < n → (k ≤ 1024 ∧ Wr R W (o + 8 * k)) → G F 4 (mP A x (C, W)) 0 0 (QV F (fun T => ∃ Q o2, mP A x (C, Q) = T ∧ Wr R Q o2 ∧ o2 ≤ o + lO C c) 0 0) 12 [(0, .ref x), (1, .int (nI c)), (2, .int (nI k))] [] := by
    intro n hk1
    have e1 : lO C c = 8192 := (if_neg (by rw [hk1]; decide)).trans (if_pos hk1)
    induction n with
    | zero => intros; omega
    | succ n ih =>
      intro k W hn ⟨hk, w1, w2, w3, w4⟩
      refine g_iload_n Z dX7_writeOne_12 rfl ?_
      refine g_sipush (v := 1024) Z dX7_writeOne_13 (by decide) ?_
      refine g_icmp_ge Z 64 dX7_writeOne_16 (by decide) (fun h16 => ?_) (fun h16 => ?_)
      · exact g_vret Z dX7_writeOne_64 (by omega) (by omega) (⟨W, o + 8 * k, rfl, ⟨w1, w2, w3, w4⟩, by omega⟩)
      · have hlt : k < 1024 := ge_f (by omega) (by decide) h16
        refine g_aload_n Z dX7_writeOne_19 rfl ?_
        refine g_aload_n Z dX7_writeOne_20 rfl ?_
        refine m_ref_wd Z in6 lk23 dX7_writeOne_21 ?_
        refine g_sipush (v := 1024) Z dX7_writeOne_24 (by decide) ?_
        refine g_iload_n Z dX7_writeOne_27 rfl ?_
        refine g_imul Z dX7_writeOne_28 ?_
        refine g_iload_n Z dX7_writeOne_29 rfl ?_
        refine g_iadd Z dX7_writeOne_30 ?_
        rw [ixw]
        refine m_ald_wd Z ho dX7_writeOne_31 (by exact vp_in_nI (by omega) (by decide)) ?_
        rw [nI_clamp (by omega)]
        refine g_l2i Z dX7_writeOne_32 ?_
        refine g_iconst (v := 4) Z dX7_writeOne_33 (by decide) ?_
        refine g_cvV Z (c_X7_put F.l F.D F.cy F.nw A x ho _ _ w4 (o + 8 * k) w3 _ 4 (by omega)) 2 gX7_writeOne_X7_put rfl (by decide +kernel) (by rw [hRf, hRl]; decide) (by exact mP_x) (κ := 6) (by exact mP_Kx) rfl (by decide) rfl rfl (Nat.le_of_ble_eq_true rfl) dX7_writeOne_34 (by rw [hRc, hRs]; omega) (fun T hp => ?_)
        obtain ⟨W2, rfl, q1, q2, q3, q4⟩ := hp
        refine g_aload_n Z dX7_writeOne_37 rfl ?_
        refine g_aload_n Z dX7_writeOne_38 rfl ?_
        refine m_ref_wd Z in6 lk23 dX7_writeOne_39 ?_
        refine g_sipush (v := 1024) Z dX7_writeOne_42 (by decide) ?_
        refine g_iload_n Z dX7_writeOne_45 rfl ?_
        refine g_imul Z dX7_writeOne_46 ?_
        refine g_iload_n Z dX7_writeOne_47 rfl ?_
        refine g_iadd Z dX7_writeOne_48 ?_
        rw [ixw]
        refine m_ald_wd Z ho dX7_writeOne_49 (by exact vp_in_nI (by omega) (by decide)) ?_
        rw [nI_clamp (by omega)]
        refine g_bipush (v := 32) Z dX7_writeOne_50 (by decide) ?_
        refine g_lushr Z dX7_writeOne_52 ?_
        refine g_l2i Z dX7_writeOne_53 ?_
        refine g_iconst (v := 4) Z dX7_writeOne_54 (by decide) ?_
        refine g_cvV Z (c_X7_put F.l F.D F.cy F.nw A x ho _ _ q4 (o + 8 * k + 4) q3 _ 4 (by omega)) 2 gX7_writeOne_X7_put rfl (by decide +kernel) (by rw [hRf, hRl]; decide) (by exact mP_x) (κ := 6) (by exact mP_Kx) rfl (by decide) rfl rfl (Nat.le_of_ble_eq_true rfl) dX7_writeOne_55 (by rw [hRc, hRs]; omega) (fun T hp => ?_)
        obtain ⟨W3, rfl, u1, u2, u3, u4⟩ := hp
        refine g_iinc (c := 1) Z dX7_writeOne_58 rfl (by decide) (by decide) ?_
        rw [nI_1]
        refine g_goto Z 12 dX7_writeOne_61 (by decide) ?_
        exact g_lv (by (repeat (first | exact trivial | refine And.intro rfl ?_)); done) (ih (k + 1) W3 (by omega) ⟨by omega, u1.trans (q1.trans w1), u2.trans (q2.trans w2), u3.trans (congrArg nI (by omega)), u4⟩)
  have ar : ∀ (n : Nat), C.kd c = 0 → ∀ (k : Nat) (W : MR), 65536 - k < n → (k ≤ 65536 ∧ Wr R W (o + 2 * ct C.wd c k)) → G F 4 (mP A x (C, W)) 0 0 (QV F (fun T => ∃ Q o2, mP A x (C, Q) = T ∧ Wr R Q o2 ∧ o2 ≤ o + lO C c) 0 0) 87 [(0, .ref x), (1, .int (nI c)), (2, .int (nI k))] [] := by
    intro n hk0
    have e1 : lO C c = 2 * ct C.wd c 65536 := if_pos hk0
    induction n with
    | zero => intros; omega
    | succ n ih =>
      intro k W hn ⟨hk, w1, w2, w3, w4⟩
      have hs : ct C.wd c (k + 1) = ct C.wd c k + cb C.wd c k := rfl
      refine g_iload_n Z dX7_writeOne_87 rfl ?_
      refine g_ldc (v := 65536) Z dX7_writeOne_88 ct107 ?_
      refine g_icmp_ge Z 171 dX7_writeOne_90 (by decide) (fun h90 => ?_) (fun h90 => ?_)
      · have hmo := ct_mono' C.wd c hk
        exact g_vret Z dX7_writeOne_171 (by omega) (by omega) (⟨W, _, rfl, ⟨w1, w2, w3, w4⟩, by omega⟩)
      · have hlt : k < 65536 := ge_f (N := 65536) (by omega) (by decide) h90
        have hmo := ct_mono' C.wd c (show k + 1 ≤ 65536 by omega)
        refine g_aload_n Z dX7_writeOne_93 rfl ?_
        refine g_iload_n Z dX7_writeOne_94 rfl ?_
        refine g_iload_n Z dX7_writeOne_95 rfl ?_
        refine g_cvI Z (c_X7_hasLow F.l F.D F.cy F.nw A x ho _ _ _ _ (by omega) (by omega)) 2 gX7_writeOne_X7_hasLow rfl (by decide +kernel) (by rw [hRf, hRl]; decide) (by exact mP_x) (κ := 6) (by exact mP_Kx) rfl (by decide) rfl rfl (Nat.le_of_ble_eq_true rfl) dX7_writeOne_96 (by rw [hRc, hRs]; omega) (fun r T hp => ?_)
        obtain ⟨rfl, rfl⟩ := hp
        refine g_if_ne Z 108 dX7_writeOne_99 (by decide) (fun h99 => ?_) (fun h99 => ?_)
        · have e3 := cb1 h99
          refine g_aload_n Z dX7_writeOne_108 rfl ?_
          refine m_ref_kd Z in6 lk16 dX7_writeOne_109 ?_
          refine g_iload_n Z dX7_writeOne_112 rfl ?_
          refine m_ald_kd Z ho dX7_writeOne_113 (by exact vp_in_nI (by omega) (by decide)) ?_
          rw [nI_clamp (by omega)]
          refine g_if_ne Z 129 dX7_writeOne_114 (by decide) (fun h114 => absurd (hk0) h114) (fun h114 => ?_)
          refine g_aload_n Z dX7_writeOne_117 rfl ?_
          refine g_iload_n Z dX7_writeOne_118 rfl ?_
          refine g_iconst (v := 2) Z dX7_writeOne_119 (by decide) ?_
          refine g_cvV Z (c_X7_put F.l F.D F.cy F.nw A x ho _ _ w4 (o + 2 * ct C.wd c k) w3 _ 2 (by omega)) 2 gX7_writeOne_X7_put rfl (by decide +kernel) (by rw [hRf, hRl]; decide) (by exact mP_x) (κ := 6) (by exact mP_Kx) rfl (by decide) rfl rfl (Nat.le_of_ble_eq_true rfl) dX7_writeOne_120 (by rw [hRc, hRs]; omega) (fun T hp => ?_)
          obtain ⟨W2, rfl, q1, q2, q3, q4⟩ := hp
          refine g_iinc (c := 1) Z dX7_writeOne_123 rfl (by decide) (by decide) ?_
          rw [nI_1]
          refine g_goto Z 87 dX7_writeOne_126 (by decide) ?_
          exact g_lv (by (repeat (first | exact trivial | refine And.intro rfl ?_)); done) (ih (k + 1) W2 (by omega) ⟨by omega, q1.trans w1, q2.trans w2, q3.trans (congrArg nI (by omega)), q4⟩)
        · have e3 := cb0 h99
          refine g_iinc (c := 1) Z dX7_writeOne_102 rfl (by decide) (by decide) ?_
          rw [nI_1]
          refine g_goto Z 87 dX7_writeOne_105 (by decide) ?_
          exact g_lv (by (repeat (first | exact trivial | refine And.intro rfl ?_)); done) (ih (k + 1) W (by omega) ⟨by omega, w1, w2, w3.trans (congrArg nI (by omega)), w4⟩)
  have rs : ∀ (n ob : Nat), ¬ C.kd c = 0 → ob + 4 * rn C.wd c 65536 ≤ o + lO C c → ∀ (k : Nat) (W : MR), 65536 - k < n → (k ≤ 65536 ∧ Wr R W (ob + 4 * rn C.wd c k) ∧ (k < 65536 → cb C.wd c k = 1 → pv C.wd c k = 0)) → G F 4 (mP A x (C, W)) 0 0 (QV F (fun T => ∃ Q o2, mP A x (C, Q) = T ∧ Wr R Q o2 ∧ o2 ≤ o + lO C c) 0 0) 87 [(0, .ref x), (1, .int (nI c)), (2, .int (nI k))] [] := by
    intro n ob hk0 hob
    induction n with
    | zero => intros; omega
    | succ n ih =>
      intro k W hn ⟨hk, ⟨w1, w2, w3, w4⟩, hpv⟩
      have hs : rn C.wd c (k + 1) = rn C.wd c k + cb C.wd c k * (1 - pv C.wd c k) := rfl
      have j152 : ∀ (q : Nat), k < q → q ≤ 65536 → rn C.wd c q = rn C.wd c k + 1 → (q < 65536 → cb C.wd c q = 0) → G F 4 (mP A x (C, W)) 0 0 (QV F (fun T => ∃ Q o2, mP A x (C, Q) = T ∧ Wr R Q o2 ∧ o2 ≤ o + lO C c) 0 0) 152 [(0, .ref x), (1, .int (nI c)), (2, .int (nI q)), (3, .int (nI k))] [] := by
        intro q hkq hq hrq hcq
        have hmo := rn_mono' C.wd c hq
        refine g_aload_n Z dX7_writeOne_152 rfl ?_
        refine g_iload_n Z dX7_writeOne_153 rfl ?_
        refine g_iconst (v := 2) Z dX7_writeOne_154 (by decide) ?_
        refine g_cvV Z (c_X7_put F.l F.D F.cy F.nw A x ho _ _ w4 (ob + 4 * rn C.wd c k) w3 _ 2 (by omega)) 2 gX7_writeOne_X7_put rfl (by decide +kernel) (by rw [hRf, hRl]; decide) (by exact mP_x) (κ := 6) (by exact mP_Kx) rfl (by decide) rfl rfl (Nat.le_of_ble_eq_true rfl) dX7_writeOne_155 (by rw [hRc, hRs]; omega) (fun T hp => ?_)
        obtain ⟨W2, rfl, q1, q2, q3, q4⟩ := hp
        refine g_aload_n Z dX7_writeOne_158 rfl ?_
        refine g_iload_n Z dX7_writeOne_159 rfl ?_
        refine g_iconst (v := 1) Z dX7_writeOne_160 (by decide) ?_
        refine g_isub Z dX7_writeOne_161 ?_
        refine g_iload_n Z dX7_writeOne_162 rfl ?_
        refine g_isub Z dX7_writeOne_163 ?_
        refine g_iconst (v := 2) Z dX7_writeOne_164 (by decide) ?_
        refine g_cvV Z (c_X7_put F.l F.D F.cy F.nw A x ho _ _ q4 (ob + 4 * rn C.wd c k + 2) q3 _ 2 (by omega)) 2 gX7_writeOne_X7_put rfl (by decide +kernel) (by rw [hRf, hRl]; decide) (by exact mP_x) (κ := 6) (by exact mP_Kx) rfl (by decide) rfl rfl (Nat.le_of_ble_eq_true rfl) dX7_writeOne_165 (by rw [hRc, hRs]; omega) (fun T hp => ?_)
        obtain ⟨W3, rfl, u1, u2, u3, u4⟩ := hp
        refine g_goto Z 87 dX7_writeOne_168 (by decide) ?_
        exact g_lv (by (repeat (first | exact trivial | refine And.intro rfl ?_)); done) (ih q W3 (by omega) ⟨hq, ⟨u1.trans (q1.trans w1), u2.trans (q2.trans w2), u3.trans (congrArg nI (by omega)), u4⟩, fun z1 z2 => absurd z2 (by rw [hcq z1]; decide)⟩)
      have inn : ∀ (i q : Nat), 65536 - q < i → k < 65536 → cb C.wd c k = 1 → pv C.wd c k = 0 → (q = k ∨ (k < q ∧ rn C.wd c q = rn C.wd c k + 1 ∧ pv C.wd c q = 1)) → q ≤ 65536 → G F 4 (mP A x (C, W)) 0 0 (QV F (fun T => ∃ Q o2, mP A x (C, Q) = T ∧ Wr R Q o2 ∧ o2 ≤ o + lO C c) 0 0) 131 [(0, .ref x), (1, .int (nI c)), (2, .int (nI q)), (3, .int (nI k))] [] := by
        intro i
        induction i with
        | zero => intros; omega
        | succ i ih2 =>
          intro q hi hk6 hck hpk hor hq
          have hsq : rn C.wd c (q + 1) = rn C.wd c q + cb C.wd c q * (1 - pv C.wd c q) := rfl
          refine g_iload_n Z dX7_writeOne_131 rfl ?_
          refine g_ldc (v := 65536) Z dX7_writeOne_132 ct107 ?_
          refine g_icmp_ge Z 152 dX7_writeOne_134 (by decide) (fun h134 => ?_) (fun h134 => ?_)
          · have hq6 : q = 65536 := by have := ge_t (i := q) (N := 65536) (by omega) (by decide) h134; omega
            have h3 : k < q ∧ rn C.wd c q = rn C.wd c k + 1 := by rcases hor with e | e; omega; exact ⟨e.1, e.2.1⟩
            exact g_lv (by (repeat (first | exact trivial | refine And.intro rfl ?_)); done) (j152 q h3.1 hq h3.2 (fun z => by first | exact e3 | omega))
          · have hq6 : q < 65536 := ge_f (N := 65536) (by omega) (by decide) h134
            refine g_aload_n Z dX7_writeOne_137 rfl ?_
            refine g_iload_n Z dX7_writeOne_138 rfl ?_
            refine g_iload_n Z dX7_writeOne_139 rfl ?_
            refine g_cvI Z (c_X7_hasLow F.l F.D F.cy F.nw A x ho _ _ _ _ (by omega) (by omega)) 2 gX7_writeOne_X7_hasLow rfl (by decide +kernel) (by rw [hRf, hRl]; decide) (by exact mP_x) (κ := 6) (by exact mP_Kx) rfl (by decide) rfl rfl (Nat.le_of_ble_eq_true rfl) dX7_writeOne_140 (by rw [hRc, hRs]; omega) (fun r T hp => ?_)
            obtain ⟨rfl, rfl⟩ := hp
            refine g_if_eq Z 152 dX7_writeOne_143 (by decide) (fun h143 => ?_) (fun h143 => ?_)
            · have e3 := cb0 h143
              have h3 : k < q ∧ rn C.wd c q = rn C.wd c k + 1 := by
                rcases hor with e | e
                · rw [e] at e3; omega
                · exact ⟨e.1, e.2.1⟩
              exact g_lv (by (repeat (first | exact trivial | refine And.intro rfl ?_)); done) (j152 q h3.1 hq h3.2 (fun z => by first | exact e3 | omega))
            · have e3 := cb1 h143
              have h3 : k < q + 1 ∧ rn C.wd c (q + 1) = rn C.wd c k + 1 := by
                rcases hor with e | e
                · subst e; rw [hsq, e3, hpk]; exact ⟨by omega, rfl⟩
                · rw [hsq, e.2.2, e.2.1]; exact ⟨by omega, by simp⟩
              refine g_iinc (c := 1) Z dX7_writeOne_146 rfl (by decide) (by decide) ?_
              rw [nI_1]
              refine g_goto Z 131 dX7_writeOne_149 (by decide) ?_
              exact g_lv (by (repeat (first | exact trivial | refine And.intro rfl ?_)); done) (ih2 (q + 1) (by omega) hk6 hck hpk (Or.inr ⟨h3.1, h3.2, e3⟩) (by omega))
      refine g_iload_n Z dX7_writeOne_87 rfl ?_
      refine g_ldc (v := 65536) Z dX7_writeOne_88 ct107 ?_
      refine g_icmp_ge Z 171 dX7_writeOne_90 (by decide) (fun h90 => ?_) (fun h90 => ?_)
      · have hmo := rn_mono' C.wd c hk
        exact g_vret Z dX7_writeOne_171 (by omega) (by omega) (⟨W, _, rfl, ⟨w1, w2, w3, w4⟩, by omega⟩)
      · have hlt : k < 65536 := ge_f (N := 65536) (by omega) (by decide) h90
        refine g_aload_n Z dX7_writeOne_93 rfl ?_
        refine g_iload_n Z dX7_writeOne_94 rfl ?_
        refine g_iload_n Z dX7_writeOne_95 rfl ?_
        refine g_cvI Z (c_X7_hasLow F.l F.D F.cy F.nw A x ho _ _ _ _ (by omega) (by omega)) 2 gX7_writeOne_X7_hasLow rfl (by decide +kernel) (by rw [hRf, hRl]; decide) (by exact mP_x) (κ := 6) (by exact mP_Kx) rfl (by decide) rfl rfl (Nat.le_of_ble_eq_true rfl) dX7_writeOne_96 (by rw [hRc, hRs]; omega) (fun r T hp => ?_)
        obtain ⟨rfl, rfl⟩ := hp
        refine g_if_ne Z 108 dX7_writeOne_99 (by decide) (fun h99 => ?_) (fun h99 => ?_)
        · have e3 := cb1 h99
          refine g_aload_n Z dX7_writeOne_108 rfl ?_
          refine m_ref_kd Z in6 lk16 dX7_writeOne_109 ?_
          refine g_iload_n Z dX7_writeOne_112 rfl ?_
          refine m_ald_kd Z ho dX7_writeOne_113 (by exact vp_in_nI (by omega) (by decide)) ?_
          rw [nI_clamp (by omega)]
          refine g_if_ne Z 129 dX7_writeOne_114 (by decide) (fun h114 => ?_) (fun h114 => absurd h114 (hk0))
          refine g_iload_n Z dX7_writeOne_129 rfl ?_
          refine g_istore_n Z dX7_writeOne_130 (by decide) ?_
          exact g_lv (by (repeat (first | exact trivial | refine And.intro rfl ?_)); done) (inn 65537 k (by omega) hlt e3 (hpv hlt e3) (Or.inl rfl) (by omega))
        · have e3 := cb0 h99
          have hs2 : rn C.wd c (k + 1) = rn C.wd c k := by rw [hs, e3]; simp
          refine g_iinc (c := 1) Z dX7_writeOne_102 rfl (by decide) (by decide) ?_
          rw [nI_1]
          refine g_goto Z 87 dX7_writeOne_105 (by decide) ?_
          exact g_lv (by (repeat (first | exact trivial | refine And.intro rfl ?_)); done) (ih (k + 1) W (by omega) ⟨by omega, ⟨w1, w2, w3.trans (congrArg nI (by omega)), w4⟩, fun _ _ => e3⟩)
  have w3 := eo
  have w4 := hB
  refine g_aload_n Z dX7_writeOne_0 rfl ?_
  refine m_ref_kd Z in6 lk16 dX7_writeOne_1 ?_
  refine g_iload_n Z dX7_writeOne_4 rfl ?_
  refine m_ald_kd Z ho dX7_writeOne_5 (by exact vp_in_nI (by omega) (by decide)) ?_
  rw [nI_clamp (by omega)]
  refine g_iconst (v := 1) Z dX7_writeOne_6 (by decide) ?_
  refine g_icmp_ne Z 65 dX7_writeOne_7 (by decide) (fun h7 => ?_) (fun h7 => ?_)
  · refine g_aload_n Z dX7_writeOne_65 rfl ?_
    refine m_ref_kd Z in6 lk16 dX7_writeOne_66 ?_
    refine g_iload_n Z dX7_writeOne_69 rfl ?_
    refine m_ald_kd Z ho dX7_writeOne_70 (by exact vp_in_nI (by omega) (by decide)) ?_
    rw [nI_clamp (by omega)]
    refine g_iconst (v := 2) Z dX7_writeOne_71 (by decide) ?_
    refine g_icmp_ne Z 85 dX7_writeOne_72 (by decide) (fun h72 => ?_) (fun h72 => ?_)
    · have hk2 : ¬ C.kd c = 2 := h72
      by_cases hk0 : C.kd c = 0
      · refine g_iconst (v := 0) Z dX7_writeOne_85 (by decide) ?_
        refine g_istore_n Z dX7_writeOne_86 (by decide) ?_
        exact g_lv (by (repeat (first | exact trivial | refine And.intro rfl ?_)); done) (ar 65537 hk0 0 R (by omega) ⟨by omega, rfl, rfl, eo, hB⟩)
      · have e1 : lO C c = 2 + 4 * rn C.wd c 65536 := (if_neg hk0).trans (if_neg h7)
        refine g_iconst (v := 0) Z dX7_writeOne_85 (by decide) ?_
        refine g_istore_n Z dX7_writeOne_86 (by decide) ?_
        exact g_lv (by (repeat (first | exact trivial | refine And.intro rfl ?_)); done) (rs 65537 o hk0 (by omega) 0 R (by omega) ⟨by omega, ⟨rfl, rfl, eo, hB⟩, fun _ _ => rfl⟩)
    · have hk2 : C.kd c = 2 := h72
      have e1 : lO C c = 2 + 4 * rn C.wd c 65536 := (if_neg (by rw [hk2]; decide)).trans (if_neg (by rw [hk2]; decide))
      refine g_aload_n Z dX7_writeOne_75 rfl ?_
      refine g_aload_n Z dX7_writeOne_76 rfl ?_
      refine g_iload_n Z dX7_writeOne_77 rfl ?_
      refine g_cvI Z (c_X7_runsOf F.l F.D F.cy F.nw A x ho _ _ _ hc) 1 gX7_writeOne_X7_runsOf rfl (by decide +kernel) (by rw [hRf, hRl]; decide) (by exact mP_x) (κ := 6) (by exact mP_Kx) rfl (by decide) rfl rfl (Nat.le_of_ble_eq_true rfl) dX7_writeOne_78 (by rw [hRc, hRs]; omega) (fun r1 T1 hp => ?_)
      obtain ⟨rfl, rfl⟩ := hp
      refine g_iconst (v := 2) Z dX7_writeOne_81 (by decide) ?_
      refine g_cvV Z (c_X7_put F.l F.D F.cy F.nw A x ho _ _ w4 o w3 _ 2 (by omega)) 2 gX7_writeOne_X7_put rfl (by decide +kernel) (by rw [hRf, hRl]; decide) (by exact mP_x) (κ := 6) (by exact mP_Kx) rfl (by decide) rfl rfl (Nat.le_of_ble_eq_true rfl) dX7_writeOne_82 (by rw [hRc, hRs]; omega) (fun T hp => ?_)
      obtain ⟨W2, rfl, q1, q2, q3, q4⟩ := hp
      refine g_iconst (v := 0) Z dX7_writeOne_85 (by decide) ?_
      refine g_istore_n Z dX7_writeOne_86 (by decide) ?_
      exact g_lv (by (repeat (first | exact trivial | refine And.intro rfl ?_)); done) (rs 65537 (o + 2) (by rw [hk2]; decide) (by omega) 0 W2 (by omega) ⟨by omega, ⟨q1, q2, q3, q4⟩, fun _ _ => rfl⟩)
  · refine g_iconst (v := 0) Z dX7_writeOne_10 (by decide) ?_
    refine g_istore_n Z dX7_writeOne_11 (by decide) ?_
    exact g_lv (by (repeat (first | exact trivial | refine And.intro rfl ?_)); done) (bm 1025 h7 0 R (by omega) ⟨by omega, rfl, rfl, eo, hB⟩)
