/-! READING, by the reference -/
/-- the bytes, the size and the work are as they were; the place is a -/
def Rz (R Q : MR) (a : Nat) : Prop := Q.wk = R.wk ∧ Q.si = R.si ∧ Q.bt = R.bt ∧ Q.aa = nI a
/-- as Rz, and the heads as they were -/
def Rq (R Q : MR) (a : Nat) : Prop := Q.wk = R.wk ∧ Q.si = R.si ∧ Q.bt = R.bt ∧ Q.aa = nI a ∧ Q.hd = R.hd
theorem Rq.tr {R P Q : MR} {a b : Nat} (h : Rq R P a) (k : Rq P Q b) : Rq R Q b := ⟨k.1.trans h.1, k.2.1.trans h.2.1, k.2.2.1.trans h.2.2.1, k.2.2.2.1, k.2.2.2.2.trans h.2.2.2.2⟩
theorem Rz.tr {R P Q : MR} {a b : Nat} (h : Rz R P a) (k : Rz P Q b) : Rz R Q b := ⟨k.1.trans h.1, k.2.1.trans h.2.1, k.2.2.1.trans h.2.2.1, k.2.2.2⟩
theorem Rq.z {R Q : MR} {a : Nat} (h : Rq R Q a) : Rz R Q a := ⟨h.1, h.2.1, h.2.2.1, h.2.2.2.1⟩
theorem Bt.of {R Q : MR} (h : Bt R) (e : Q.bt = R.bt) : Bt Q := fun i hi => by rw [e]; exact h i hi

set_option maxRecDepth 100000 in
set_option maxHeartbeats 2000000 in
/-- a fault is noted -/
theorem c_X7_fails (l : Launch) (D : va_G) (cy : Nat → ClassId) (nw : Nat) (A : Nat → Nat) (x : Nat) (ho : mOk A x) (C : C5) (R : MR) (u v : Int32) : kI l yX7_fails wsX7_fails 0 0 D cy nw [.ref x, .int u, .int v] (mP A x (C, R)) (fun r T => r = 0 ∧ mP A x (C, (R.s_fa u).s_fp v) = T) 0 0 := by
  refine enterI (cc := cX7_fails) (nL := 3) (ret := (some .boolean)) (by decide +kernel) rfl (Nat.le_of_ble_eq_true rfl) ?_
  intro F Z hl hR hD hcy hnw hnm
  subst hl hD hcy hnw
  have hRf : F.R.frames = 0 := by rw [hR]
  have hRc : F.R.cells = 0 := by rw [hR]
  have hRs : F.R.slots = 0 := by rw [hR]
  have hRl : F.R.locals = 0 := by rw [hR]
  have in6 : ∀ w ∈ u_ws RX7 TX7 16, w ∈ wsX7_fails := by decide +kernel
  have lk177 : Cond.fieldLink RX7 177 (TX7 9).1 (TX7 9).2.1 (TX7 9).2.2.1 ∈ wsX7_fails := by decide +kernel
  have lk180 : Cond.fieldLink RX7 180 (TX7 10).1 (TX7 10).2.1 (TX7 10).2.2.1 ∈ wsX7_fails := by decide +kernel
  refine g_aload_n Z dX7_fails_0 rfl ?_
  refine g_iload_n Z dX7_fails_1 rfl ?_
  refine m_put_fa Z in6 lk177 dX7_fails_2 ?_
  refine g_aload_n Z dX7_fails_5 rfl ?_
  refine g_iload_n Z dX7_fails_6 rfl ?_
  refine m_put_fp Z in6 lk180 dX7_fails_7 ?_
  refine g_iconst (v := 0) Z dX7_fails_10 (by decide) ?_
  exact g_zret Z dX7_fails_11 (by rfl) (by omega) (by omega) (⟨rfl, rfl⟩)

theorem tk_add {v b k : Nat} (hk : k < 4) (hb : b < 256) : lN v + (nI b).toInt64 <<< ((8 * nI k).toInt64 &&& 63) = lN (v + b * 2 ^ (8 * k)) := by
  rw [nI_l (by omega), show (8 : Int32) * nI k = nI (8 * k) from pk_mul 8 k, wb_shl b (by omega), lN_add]
theorem ix96 (k : Nat) : (96 : Int32) + nI k = nI (6 * 16 + k) := nI_add 96 k

