/-! WRITING, by the reference -/
def Bt (R : MR) : Prop := ∀ i, i < 60000 → ∃ b, b < 256 ∧ R.bt i = nI b
def InvR (R : MR) : Prop := (∃ n, n ≤ 60000 ∧ R.si = nI n) ∧ Bt R
/-- bytes were put, o of them now -/
def Wr (R Q : MR) (o : Nat) : Prop := Q.wk = R.wk ∧ Q.si = R.si ∧ Q.ou = nI o ∧ Bt Q
theorem Bt.put {R : MR} (h : Bt R) {i b : Nat} (hb : b < 256) : Bt (R.s_bt (upd R.bt i (nI b))) := fun j hj => by
  show ∃ b', b' < 256 ∧ upd R.bt i (nI b) j = nI b'
  by_cases e : j = i
  · subst e; exact ⟨b, hb, pk_us⟩
  · rw [pk_un e]; exact h j hj
theorem Wr.tr {R P Q : MR} {o o2 : Nat} (h : Wr R P o) (k : Wr P Q o2) : Wr R Q o2 := ⟨k.1.trans h.1, k.2.1.trans h.2.1, k.2.2⟩
def lO (C : C5) (c : Nat) : Nat := if C.kd c = 0 then 2 * ct C.wd c 65536 else if C.kd c = 1 then 8192 else 2 + 4 * rn C.wd c 65536
def hasR (C : C5) (s n : Nat) : Nat := if 0 < cK C s n then 1 else 0
def hdO (C : C5) (s n : Nat) : Nat := (if hasR C s n = 0 then 8 else 5) + 4 * n + (if hasR C s n = 0 ∨ 4 ≤ n then 4 * n else 0)
theorem cK_le (C : C5) (s : Nat) : ∀ k, cK C s k ≤ k
  | 0 => Nat.le_refl _
  | k + 1 => by
    have := cK_le C s k
    show cK C s k + (if C.kd (6 * s + k) = 2 then 1 else 0) ≤ k + 1
    split <;> omega
theorem rn_mono' (f : Nat → Int64) (c : Nat) {l k : Nat} (h : l ≤ k) : rn f c l ≤ rn f c k := by
  induction k with
  | zero => rw [Nat.le_zero.mp h]; exact Nat.le_refl _
  | succ k ih =>
    by_cases e : l = k + 1
    · rw [e]; exact Nat.le_refl _
    · have := ih (by omega); show _ ≤ rn f c k + cb f c k * (1 - pv f c k); omega

set_option maxRecDepth 100000 in
set_option maxHeartbeats 2000000 in
/-- whether there are runs -/
theorem c_X7_hasRuns (l : Launch) (D : va_G) (cy : Nat → ClassId) (nw : Nat) (A : Nat → Nat) (x : Nat) (ho : mOk A x) (C : C5) (R : MR) (s : Nat) (hs : s < 8) (n0 : Nat) (hn0 : n0 ≤ 6) (en : C.mn s = nI n0) : kI l yX7_hasRuns wsX7_hasRuns 3 69 D cy nw [.ref x, .int (nI s)] (mP A x (C, R)) (fun r T => (mP A x (C, R)) = T ∧ r = nI (hasR C s n0)) 0 0 := by
  refine enterI (cc := cX7_hasRuns) (nL := 2) (ret := (some .boolean)) (by decide +kernel) rfl (Nat.le_of_ble_eq_true rfl) ?_
  intro F Z hl hR hD hcy hnw hnm
  subst hl hD hcy hnw
  have hRf : F.R.frames = 3 := by rw [hR]
  have hRc : F.R.cells = 0 := by rw [hR]
  have hRs : F.R.slots = 0 := by rw [hR]
  have hRl : F.R.locals = 69 := by rw [hR]
  have in6 : ∀ w ∈ u_ws RX7 TX7 16, w ∈ wsX7_hasRuns := by decide +kernel
  refine g_aload_n Z dX7_hasRuns_0 rfl ?_
  refine g_iload_n Z dX7_hasRuns_1 rfl ?_
  refine g_iconst (v := 4) Z dX7_hasRuns_2 (by decide) ?_
  refine g_cvI Z (c_X7_count4 F.l F.D F.cy F.nw A x ho C R s hs n0 hn0 en) 2 gX7_hasRuns_X7_count rfl (by decide +kernel) (by rw [hRf, hRl]; decide) (by exact mP_x) (κ := 6) (by exact mP_Kx) rfl (by decide) rfl rfl (Nat.le_of_ble_eq_true rfl) dX7_hasRuns_3 (by rw [hRc, hRs]; omega) (fun r T hp => ?_)
  obtain ⟨rfl, rfl⟩ := hp
  have hck := cK_le C s n0
  refine g_if_le Z 13 dX7_hasRuns_6 (by decide) (fun h6 => ?_) (fun h6 => ?_)
  · have e0 : ¬ 0 < cK C s n0 := fun q => nI_nle q (by omega) h6
    refine g_iconst (v := 0) Z dX7_hasRuns_13 (by decide) ?_
    exact g_zret Z dX7_hasRuns_14 (by rfl) (by omega) (by omega) (⟨rfl, by unfold hasR; first | (rw [if_pos e0]; rfl) | (rw [if_neg e0]; rfl)⟩)
  · have e0 : 0 < cK C s n0 := Nat.pos_of_ne_zero (fun e => h6 (by rw [e]; decide))
    refine g_iconst (v := 1) Z dX7_hasRuns_9 (by decide) ?_
    refine g_goto Z 14 dX7_hasRuns_10 (by decide) ?_
    exact g_zret Z dX7_hasRuns_14 (by rfl) (by omega) (by omega) (⟨rfl, by unfold hasR; first | (rw [if_pos e0]; rfl) | (rw [if_neg e0]; rfl)⟩)

set_option maxRecDepth 100000 in
set_option maxHeartbeats 2000000 in
/-- how many bytes a container takes -/
theorem c_X7_lengthOf (l : Launch) (D : va_G) (cy : Nat → ClassId) (nw : Nat) (A : Nat → Nat) (x : Nat) (ho : mOk A x) (C : C5) (R : MR) (c : Nat) (hc : c < 102) (hg : gc C c) : kI l yX7_lengthOf wsX7_lengthOf 2 50 D cy nw [.ref x, .int (nI c)] (mP A x (C, R)) (fun r T => (mP A x (C, R)) = T ∧ r = nI (lO C c)) 0 0 := by
  refine enterI (cc := cX7_lengthOf) (nL := 2) (ret := (some .int)) (by decide +kernel) rfl (Nat.le_of_ble_eq_true rfl) ?_
  intro F Z hl hR hD hcy hnw hnm
  subst hl hD hcy hnw
  have hRf : F.R.frames = 2 := by rw [hR]
  have hRc : F.R.cells = 0 := by rw [hR]
  have hRs : F.R.slots = 0 := by rw [hR]
  have hRl : F.R.locals = 50 := by rw [hR]
  have in6 : ∀ w ∈ u_ws RX7 TX7 16, w ∈ wsX7_lengthOf := by decide +kernel
  have lk16 : Cond.fieldLink RX7 16 (TX7 2).1 (TX7 2).2.1 (TX7 2).2.2.1 ∈ wsX7_lengthOf := by decide +kernel
  have lk19 : Cond.fieldLink RX7 19 (TX7 3).1 (TX7 3).2.1 (TX7 3).2.2.1 ∈ wsX7_lengthOf := by decide +kernel
  refine g_aload_n Z dX7_lengthOf_0 rfl ?_
  refine m_ref_kd Z in6 lk16 dX7_lengthOf_1 ?_
  refine g_iload_n Z dX7_lengthOf_4 rfl ?_
  refine m_ald_kd Z ho dX7_lengthOf_5 (by exact vp_in_nI (by omega) (by decide)) ?_
  rw [nI_clamp (by omega)]
  refine g_if_ne Z 20 dX7_lengthOf_6 (by decide) (fun h6 => ?_) (fun h6 => ?_)
  · refine g_aload_n Z dX7_lengthOf_20 rfl ?_
    refine m_ref_kd Z in6 lk16 dX7_lengthOf_21 ?_
    refine g_iload_n Z dX7_lengthOf_24 rfl ?_
    refine m_ald_kd Z ho dX7_lengthOf_25 (by exact vp_in_nI (by omega) (by decide)) ?_
    rw [nI_clamp (by omega)]
    refine g_iconst (v := 1) Z dX7_lengthOf_26 (by decide) ?_
    refine g_icmp_ne Z 36 dX7_lengthOf_27 (by decide) (fun h27 => ?_) (fun h27 => ?_)
    · have e1 : lO C c = 2 + 4 * rn C.wd c 65536 := (if_neg h6).trans (if_neg h27)
      refine g_iconst (v := 2) Z dX7_lengthOf_36 (by decide) ?_
      refine g_iconst (v := 4) Z dX7_lengthOf_37 (by decide) ?_
      refine g_aload_n Z dX7_lengthOf_38 rfl ?_
      refine g_iload_n Z dX7_lengthOf_39 rfl ?_
      refine g_cvI Z (c_X7_runsOf F.l F.D F.cy F.nw A x ho _ _ _ hc) 1 gX7_lengthOf_X7_runsOf rfl (by decide +kernel) (by rw [hRf, hRl]; decide) (by exact mP_x) (κ := 6) (by exact mP_Kx) rfl (by decide) rfl rfl (Nat.le_of_ble_eq_true rfl) dX7_lengthOf_40 (by rw [hRc, hRs]; omega) (fun r T hp => ?_)
      obtain ⟨rfl, rfl⟩ := hp
      refine g_imul Z dX7_lengthOf_43 ?_
      refine g_iadd Z dX7_lengthOf_44 ?_
      rw [show (2 : Int32) + 4 * nI (rn C.wd c 65536) = nI (2 + 4 * rn C.wd c 65536) from by rw [show (4 : Int32) = nI 4 from rfl, pk_mul]; exact nI_add 2 _]
      exact g_iret Z dX7_lengthOf_45 (by omega) (by omega) (⟨rfl, (congrArg nI e1).symm⟩)
    · have e1 : lO C c = 8192 := (if_neg h6).trans (if_pos h27)
      refine g_sipush (v := 8192) Z dX7_lengthOf_30 (by decide) ?_
      refine g_goto Z 45 dX7_lengthOf_33 (by decide) ?_
      exact g_iret Z dX7_lengthOf_45 (by omega) (by omega) (⟨rfl, (congrArg nI e1).symm⟩)
  · have e1 : lO C c = 2 * ct C.wd c 65536 := if_pos h6
    refine g_iconst (v := 2) Z dX7_lengthOf_9 (by decide) ?_
    refine g_aload_n Z dX7_lengthOf_10 rfl ?_
    refine m_ref_sz Z in6 lk19 dX7_lengthOf_11 ?_
    refine g_iload_n Z dX7_lengthOf_14 rfl ?_
    refine m_ald_sz Z ho dX7_lengthOf_15 (by exact vp_in_nI (by omega) (by decide)) ?_
    rw [nI_clamp (by omega), show C.sz c = nI (ct C.wd c 65536) from hg]
    refine g_imul Z dX7_lengthOf_16 ?_
    rw [show (2 : Int32) * nI (ct C.wd c 65536) = nI (2 * ct C.wd c 65536) from pk_mul 2 _]
    refine g_goto Z 45 dX7_lengthOf_17 (by decide) ?_
    exact g_iret Z dX7_lengthOf_45 (by omega) (by omega) (⟨rfl, (congrArg nI e1).symm⟩)

set_option maxRecDepth 100000 in
set_option maxHeartbeats 2000000 in
/-- how many bytes the head takes -/
theorem c_X7_headOf (l : Launch) (D : va_G) (cy : Nat → ClassId) (nw : Nat) (A : Nat → Nat) (x : Nat) (ho : mOk A x) (C : C5) (R : MR) (s : Nat) (hs : s < 8) (n0 : Nat) (hn0 : n0 ≤ 6) (en : C.mn s = nI n0) : kI l yX7_headOf wsX7_headOf 4 90 D cy nw [.ref x, .int (nI s)] (mP A x (C, R)) (fun r T => (mP A x (C, R)) = T ∧ r = nI (hdO C s n0)) 0 0 := by
  refine enterI (cc := cX7_headOf) (nL := 4) (ret := (some .int)) (by decide +kernel) rfl (Nat.le_of_ble_eq_true rfl) ?_
  intro F Z hl hR hD hcy hnw hnm
  subst hl hD hcy hnw
  have hRf : F.R.frames = 4 := by rw [hR]
  have hRc : F.R.cells = 0 := by rw [hR]
  have hRs : F.R.slots = 0 := by rw [hR]
  have hRl : F.R.locals = 90 := by rw [hR]
  have in6 : ∀ w ∈ u_ws RX7 TX7 16, w ∈ wsX7_headOf := by decide +kernel
  have lk7 : Cond.fieldLink RX7 7 (TX7 0).1 (TX7 0).2.1 (TX7 0).2.2.1 ∈ wsX7_headOf := by decide +kernel
  have hR1 : hasR C s n0 ≤ 1 := by unfold hasR; split <;> omega
  refine g_aload_n Z dX7_headOf_0 rfl ?_
  refine m_ref_mn Z in6 lk7 dX7_headOf_1 ?_
  refine g_iload_n Z dX7_headOf_4 rfl ?_
  refine m_ald_mn Z ho dX7_headOf_5 (by exact vp_in_nI (by omega) (by decide)) ?_
  rw [nI_clamp (by omega), en]
  refine g_istore_n Z dX7_headOf_6 (by decide) ?_
  refine g_aload_n Z dX7_headOf_7 rfl ?_
  refine g_iload_n Z dX7_headOf_8 rfl ?_
  refine g_cvI Z (c_X7_hasRuns F.l F.D F.cy F.nw A x ho _ _ s hs n0 hn0 en) 1 gX7_headOf_X7_hasRuns rfl (by decide +kernel) (by rw [hRf, hRl]; decide) (by exact mP_x) (κ := 6) (by exact mP_Kx) rfl (by decide) rfl rfl (Nat.le_of_ble_eq_true rfl) dX7_headOf_9 (by rw [hRc, hRs]; omega) (fun r T hp => ?_)
  obtain ⟨rfl, rfl⟩ := hp
  refine g_istore_n Z dX7_headOf_12 (by decide) ?_
  refine g_iload_n Z dX7_headOf_13 rfl ?_
  refine g_if_eq Z 21 dX7_headOf_14 (by decide) (fun h14 => ?_) (fun h14 => ?_)
  · have e0 : hasR C s n0 = 0 := (nI_eq (b := 0) (by omega) (by decide)).mp h14
    refine g_bipush (v := 8) Z dX7_headOf_21 (by decide) ?_
    refine g_iconst (v := 4) Z dX7_headOf_23 (by decide) ?_
    refine g_iload_n Z dX7_headOf_24 rfl ?_
    refine g_imul Z dX7_headOf_25 ?_
    refine g_iadd Z dX7_headOf_26 ?_
    refine g_iload_n Z dX7_headOf_27 rfl ?_
    refine g_if_eq Z 36 dX7_headOf_28 (by decide) (fun h28 => ?_) (fun h28 => absurd (h14) h28)
    refine g_iconst (v := 4) Z dX7_headOf_36 (by decide) ?_
    refine g_iload_n Z dX7_headOf_37 rfl ?_
    refine g_imul Z dX7_headOf_38 ?_
    refine g_goto Z 43 dX7_headOf_39 (by decide) ?_
    refine g_iadd Z dX7_headOf_43 ?_
    rw [show (8 : Int32) + 4 * nI n0 + 4 * nI n0 = nI (8 + 4 * n0 + 4 * n0) from by rw [show (4 : Int32) = nI 4 from rfl, pk_mul, show (8 : Int32) = nI 8 from rfl, nI_add, nI_add]]
    exact g_iret Z dX7_headOf_44 (by omega) (by omega) (⟨rfl, by unfold hdO; rw [if_pos e0, if_pos (Or.inl e0)]⟩)
  · have e0 : ¬ hasR C s n0 = 0 := fun e => h14 (by rw [e]; rfl)
    refine g_iconst (v := 5) Z dX7_headOf_17 (by decide) ?_
    refine g_goto Z 23 dX7_headOf_18 (by decide) ?_
    refine g_iconst (v := 4) Z dX7_headOf_23 (by decide) ?_
    refine g_iload_n Z dX7_headOf_24 rfl ?_
    refine g_imul Z dX7_headOf_25 ?_
    refine g_iadd Z dX7_headOf_26 ?_
    refine g_iload_n Z dX7_headOf_27 rfl ?_
    refine g_if_eq Z 36 dX7_headOf_28 (by decide) (fun h28 => absurd h28 (h14)) (fun h28 => ?_)
    refine g_iload_n Z dX7_headOf_31 rfl ?_
    refine g_iconst (v := 4) Z dX7_headOf_32 (by decide) ?_
    refine g_icmp_lt Z 42 dX7_headOf_33 (by decide) (fun h33 => ?_) (fun h33 => ?_)
    · have e4 : ¬ 4 ≤ n0 := fun q => absurd (lt_t (N := 4) (by omega) (by decide) h33) (by omega)
      refine g_iconst (v := 0) Z dX7_headOf_42 (by decide) ?_
      refine g_iadd Z dX7_headOf_43 ?_
      rw [show (5 : Int32) + 4 * nI n0 + 0 = nI (5 + 4 * n0 + 0) from by rw [show (4 : Int32) = nI 4 from rfl, pk_mul, show (5 : Int32) = nI 5 from rfl, nI_add, add0]; rfl]
      exact g_iret Z dX7_headOf_44 (by omega) (by omega) (⟨rfl, by unfold hdO; rw [if_neg e0, if_neg (fun q => q.elim e0 e4)]⟩)
    · have e4 : 4 ≤ n0 := lt_f (N := 4) (by omega) (by decide) h33
      refine g_iconst (v := 4) Z dX7_headOf_36 (by decide) ?_
      refine g_iload_n Z dX7_headOf_37 rfl ?_
      refine g_imul Z dX7_headOf_38 ?_
      refine g_goto Z 43 dX7_headOf_39 (by decide) ?_
      refine g_iadd Z dX7_headOf_43 ?_
      rw [show (5 : Int32) + 4 * nI n0 + 4 * nI n0 = nI (5 + 4 * n0 + 4 * n0) from by rw [show (4 : Int32) = nI 4 from rfl, pk_mul, show (5 : Int32) = nI 5 from rfl, nI_add, nI_add]]
      exact g_iret Z dX7_headOf_44 (by omega) (by omega) (⟨rfl, by unfold hdO; rw [if_neg e0, if_pos (Or.inr e4)]⟩)

