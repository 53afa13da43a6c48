/-! READING, by the reference -/
/-- the bytes, the size and the work are as they were; the place is a -/
def Rz (R Q : MR) (a : Nat) : Prop := Q.wk = R.wk ∧ Q.si = R.si ∧ Q.bt = R.bt ∧ Q.aa = nI a
/-- as Rz, and the heads as they were -/
def Rq (R Q : MR) (a : Nat) : Prop := Q.wk = R.wk ∧ Q.si = R.si ∧ Q.bt = R.bt ∧ Q.aa = nI a ∧ Q.hd = R.hd
theorem Rq.tr {R P Q : MR} {a b : Nat} (h : Rq R P a) (k : Rq P Q b) : Rq R Q b := ⟨k.1.trans h.1, k.2.1.trans h.2.1, k.2.2.1.trans h.2.2.1, k.2.2.2.1, k.2.2.2.2.trans h.2.2.2.2⟩
theorem Rz.tr {R P Q : MR} {a b : Nat} (h : Rz R P a) (k : Rz P Q b) : Rz R Q b := ⟨k.1.trans h.1, k.2.1.trans h.2.1, k.2.2.1.trans h.2.2.1, k.2.2.2⟩
theorem Rq.z {R Q : MR} {a : Nat} (h : Rq R Q a) : Rz R Q a := ⟨h.1, h.2.1, h.2.2.1, h.2.2.2.1⟩
theorem Bt.of {R Q : MR} (h : Bt R) (e : Q.bt = R.bt) : Bt Q := fun i hi => by rw [e]; exact h i hi

set_option maxRecDepth 100000 in
set_option maxHeartbeats 2000000 in
/-- a fault is noted -/
theorem c_X7_fails (l : Launch) (D : va_G) (cy : Nat → ClassId) (nw : Nat) (A : Nat → Nat) (x : Nat) (ho : mOk A x) (C : C5) (R : MR) (u v : Int32) : kI l yX7_fails wsX7_fails 0 0 D cy nw [.ref x, .int u, .int v] (mP A x (C, R)) (fun r T => r = 0 ∧ mP A x (C, (R.s_fa u).s_fp v) = T) 0 0 := by
  refine enterI (cc := cX7_fails) (nL := 3) (ret := (some .boolean)) (by decide +kernel) rfl (Nat.le_of_ble_eq_true rfl) ?_
  intro F Z hl hR hD hcy hnw hnm
  subst hl hD hcy hnw
  have hRf : F.R.frames = 0 := by rw [hR]
  have hRc : F.R.cells = 0 := by rw [hR]
  have hRs : F.R.slots = 0 := by rw [hR]
  have hRl : F.R.locals = 0 := by rw [hR]
  have in6 : ∀ w ∈ u_ws RX7 TX7 16, w ∈ wsX7_fails := by decide +kernel
  have lk177 : Cond.fieldLink RX7 177 (TX7 9).1 (TX7 9).2.1 (TX7 9).2.2.1 ∈ wsX7_fails := by decide +kernel
  have lk180 : Cond.fieldLink RX7 180 (TX7 10).1 (TX7 10).2.1 (TX7 10).2.2.1 ∈ wsX7_fails := by decide +kernel
  refine g_aload_n Z dX7_fails_0 rfl ?_
  refine g_iload_n Z dX7_fails_1 rfl ?_
  refine m_put_fa Z in6 lk177 dX7_fails_2 ?_
  refine g_aload_n Z dX7_fails_5 rfl ?_
  refine g_iload_n Z dX7_fails_6 rfl ?_
  refine m_put_fp Z in6 lk180 dX7_fails_7 ?_
  refine g_iconst (v := 0) Z dX7_fails_10 (by decide) ?_
  exact g_zret Z dX7_fails_11 (by rfl) (by omega) (by omega) (⟨rfl, rfl⟩)

set_option maxRecDepth 100000 in
set_option maxHeartbeats 2000000 in
/-- whether so many bytes are there -/
theorem c_X7_are (l : Launch) (D : va_G) (cy : Nat → ClassId) (nw : Nat) (A : Nat → Nat) (x : Nat) (ho : mOk A x) (C : C5) (R : MR) (N : Nat) (hN : N ≤ 60000) (eN : R.si = nI N) (a : Nat) (ea : R.aa = nI a) (haN : a ≤ N) (n : Nat) (hn : n ≤ 8192) : kI l yX7_are wsX7_are 1 22 D cy nw [.ref x, .int (nI n)] (mP A x (C, R)) (fun r T => (r = 1 ∧ a + n ≤ N ∧ (mP A x (C, R)) = T) ∨ (r = 0 ∧ ∃ Q, mP A x (C, Q) = T ∧ Rq R Q a)) 0 0 := by
  refine enterI (cc := cX7_are) (nL := 2) (ret := (some .boolean)) (by decide +kernel) rfl (Nat.le_of_ble_eq_true rfl) ?_
  intro F Z hl hR hD hcy hnw hnm
  subst hl hD hcy hnw
  have hRf : F.R.frames = 1 := by rw [hR]
  have hRc : F.R.cells = 0 := by rw [hR]
  have hRs : F.R.slots = 0 := by rw [hR]
  have hRl : F.R.locals = 22 := by rw [hR]
  have in6 : ∀ w ∈ u_ws RX7 TX7 16, w ∈ wsX7_are := by decide +kernel
  have lk174 : Cond.fieldLink RX7 174 (TX7 6).1 (TX7 6).2.1 (TX7 6).2.2.1 ∈ wsX7_are := by decide +kernel
  have lk183 : Cond.fieldLink RX7 183 (TX7 11).1 (TX7 11).2.1 (TX7 11).2.2.1 ∈ wsX7_are := by decide +kernel
  refine g_aload_n Z dX7_are_0 rfl ?_
  refine m_get_aa Z in6 lk183 dX7_are_1 ?_
  rw [ea]
  refine g_iload_n Z dX7_are_4 rfl ?_
  refine g_iadd Z dX7_are_5 ?_
  rw [nI_add]
  refine g_aload_n Z dX7_are_6 rfl ?_
  refine m_get_si Z in6 lk174 dX7_are_7 ?_
  rw [eN]
  refine g_icmp_le Z 25 dX7_are_10 (by decide) (fun h10 => ?_) (fun h10 => ?_)
  · have hle : a + n ≤ N := le_t (by omega) (by omega) h10
    refine g_iconst (v := 1) Z dX7_are_25 (by decide) ?_
    refine g_goto Z 30 dX7_are_26 (by decide) ?_
    exact g_zret Z dX7_are_30 (by rfl) (by omega) (by omega) (Or.inl ⟨rfl, hle, rfl⟩)
  · refine g_aload_n Z dX7_are_13 rfl ?_
    refine g_iconst (v := 1) Z dX7_are_14 (by decide) ?_
    refine g_aload_n Z dX7_are_15 rfl ?_
    refine m_get_si Z in6 lk174 dX7_are_16 ?_
    refine g_cvI Z (c_X7_fails F.l F.D F.cy F.nw A x ho _ _ _ _) 2 gX7_are_X7_fails rfl (by decide +kernel) (by rw [hRf, hRl]; decide) (by exact mP_x) (κ := 6) (by exact mP_Kx) rfl (by decide) rfl rfl (Nat.le_of_ble_eq_true rfl) dX7_are_19 (by rw [hRc, hRs]; omega) (fun r T hp => ?_)
    obtain ⟨rfl, rfl⟩ := hp
    refine g_if_eq Z 29 dX7_are_22 (by decide) (fun h22 => ?_) (fun h22 => absurd (rfl) h22)
    refine g_iconst (v := 0) Z dX7_are_29 (by decide) ?_
    exact g_zret Z dX7_are_30 (by rfl) (by omega) (by omega) (Or.inr ⟨rfl, _, rfl, rfl, rfl, rfl, ea, rfl⟩)

theorem tk_add {v b k : Nat} (hk : k < 4) (hb : b < 256) : lN v + (nI b).toInt64 <<< ((8 * nI k).toInt64 &&& 63) = lN (v + b * 2 ^ (8 * k)) := by
  rw [nI_l (by omega), show (8 : Int32) * nI k = nI (8 * k) from pk_mul 8 k, wb_shl b (by omega), lN_add]
theorem tk_lt {v b k : Nat} (hv : v < 2 ^ (8 * k)) (hb : b < 256) : v + b * 2 ^ (8 * k) < 2 ^ (8 * (k + 1)) := by
  rw [show 8 * (k + 1) = 8 * k + 8 by omega, Nat.pow_add]
  have h : b * 2 ^ (8 * k) ≤ 255 * 2 ^ (8 * k) := Nat.mul_le_mul_right _ (by omega)
  omega

set_option maxRecDepth 100000 in
set_option maxHeartbeats 2000000 in
/-- bytes are taken -/
theorem c_X7_taken (l : Launch) (D : va_G) (cy : Nat → ClassId) (nw : Nat) (A : Nat → Nat) (x : Nat) (ho : mOk A x) (C : C5) (R : MR) (hB : Bt R) (a : Nat) (ea : R.aa = nI a) (n : Nat) (hn : n ≤ 4) (han : a + n ≤ 60000) : kL l yX7_taken wsX7_taken 0 0 D cy nw [.ref x, .int (nI n)] (mP A x (C, R)) (fun r T => ∃ Q v, mP A x (C, Q) = T ∧ Rq R Q (a + n) ∧ r = lN v ∧ v < 2 ^ (8 * n)) 0 0 := by
  refine enterL (cc := cX7_taken) (nL := 5) (ret := (some .long)) (by decide +kernel) rfl (Nat.le_of_ble_eq_true rfl) ?_
  intro F Z hl hR hD hcy hnw hnm
  subst hl hD hcy hnw
  have hRf : F.R.frames = 0 := by rw [hR]
  have hRc : F.R.cells = 0 := by rw [hR]
  have hRs : F.R.slots = 0 := by rw [hR]
  have hRl : F.R.locals = 0 := by rw [hR]
  have in6 : ∀ w ∈ u_ws RX7 TX7 16, w ∈ wsX7_taken := by decide +kernel
  have lk32 : Cond.fieldLink RX7 32 (TX7 7).1 (TX7 7).2.1 (TX7 7).2.2.1 ∈ wsX7_taken := by decide +kernel
  have lk183 : Cond.fieldLink RX7 183 (TX7 11).1 (TX7 11).2.1 (TX7 11).2.2.1 ∈ wsX7_taken := by decide +kernel
  have loop : ∀ (i : Nat) (k v : Nat) (W : MR), n - k < i → (k ≤ n ∧ Rq R W (a + k) ∧ v < 2 ^ (8 * k)) → G F 5 (mP A x (C, W)) 0 0 (QL F (fun r T => ∃ Q v, mP A x (C, Q) = T ∧ Rq R Q (a + n) ∧ r = lN v ∧ v < 2 ^ (8 * n)) 0 0) 5 [(0, .ref x), (1, .int (nI n)), (2, .long (lN v)), (4, .int (nI k))] [] := by
    intro i
    induction i with
    | zero => intros; omega
    | succ i ih =>
      intro k v W hm ⟨hk, ⟨w1, w2, w3, w4, w5⟩, hv⟩
      refine g_iload Z dX7_taken_5 rfl ?_
      refine g_iload_n Z dX7_taken_7 rfl ?_
      refine g_icmp_ge Z 46 dX7_taken_8 (by decide) (fun h8 => ?_) (fun h8 => ?_)
      · have he : k = n := by have := ge_t (i := k) (N := n) (by omega) (by omega) h8; omega
        subst he
        refine g_lload_n Z dX7_taken_46 rfl ?_
        exact g_lret Z dX7_taken_47 (by omega) (by omega) (⟨W, v, rfl, ⟨w1, w2, w3, w4, w5⟩, rfl, hv⟩)
      · have hlt : k < n := ge_f (by omega) (by omega) h8
        obtain ⟨b, hb, eb⟩ := hB (a + k) (by omega)
        refine g_lload_n Z dX7_taken_11 rfl ?_
        refine g_aload_n Z dX7_taken_12 rfl ?_
        refine m_ref_bt Z in6 lk32 dX7_taken_13 ?_
        refine g_aload_n Z dX7_taken_16 rfl ?_
        refine m_get_aa Z in6 lk183 dX7_taken_17 ?_
        rw [w4]
        refine m_ald_bt Z ho dX7_taken_20 (by exact vp_in_nI (by omega) (by decide)) ?_
        rw [nI_clamp (by omega), show W.bt (a + k) = nI b from (congrFun w3 _).trans eb]
        refine g_i2l Z dX7_taken_21 ?_
        refine g_bipush (v := 8) Z dX7_taken_22 (by decide) ?_
        refine g_iload Z dX7_taken_24 rfl ?_
        refine g_imul Z dX7_taken_26 ?_
        refine g_lshl Z dX7_taken_27 ?_
        refine g_ladd Z dX7_taken_28 ?_
        rw [tk_add (by omega) hb]
        refine g_lstore_n Z dX7_taken_29 (by decide) ?_
        refine g_aload_n Z dX7_taken_30 rfl ?_
        refine g_dup Z dX7_taken_31 rfl ?_
        refine m_get_aa Z in6 lk183 dX7_taken_32 ?_
        rw [w4]
        refine g_iconst (v := 1) Z dX7_taken_35 (by decide) ?_
        refine g_iadd Z dX7_taken_36 ?_
        rw [nI_1]
        refine m_put_aa Z in6 lk183 dX7_taken_37 ?_
        refine g_iinc (c := 1) Z dX7_taken_40 rfl (by decide) (by decide) ?_
        rw [nI_1]
        refine g_goto Z 5 dX7_taken_43 (by decide) ?_
        exact g_lv (by (repeat (first | exact trivial | refine And.intro rfl ?_)); done) (ih (k + 1) _ _ (by omega) ⟨by omega, ⟨w1, w2, w3, rfl, w5⟩, tk_lt hv hb⟩)
  refine g_lconst (v := 0) Z dX7_taken_0 (by decide) ?_
  refine g_lstore_n Z dX7_taken_1 (by decide) ?_
  refine g_iconst (v := 0) Z dX7_taken_2 (by decide) ?_
  refine g_istore Z dX7_taken_3 (by decide) ?_
  exact g_lv (by (repeat (first | exact trivial | refine And.intro rfl ?_)); done) (loop (n + 1) 0 0 R (by omega) ⟨by omega, ⟨rfl, rfl, rfl, ea, rfl⟩, by decide⟩)

theorem ix96 (k : Nat) : (96 : Int32) + nI k = nI (6 * 16 + k) := nI_add 96 k

set_option maxRecDepth 100000 in
set_option maxHeartbeats 2000000 in
/-- keys and sizes are read -/
theorem c_X7_readsKeys (l : Launch) (D : va_G) (cy : Nat → ClassId) (nw : Nat) (A : Nat → Nat) (x : Nat) (ho : mOk A x) (C : C5) (R : MR) (hO : Okc C) (N : Nat) (hN : N ≤ 60000) (eN : R.si = nI N) (hB : Bt R) (a : Nat) (ea : R.aa = nI a) (haN : a ≤ N) (n : Nat) (hn : n ≤ 6) : kI l yX7_readsKeys wsX7_readsKeys 2 43 D cy nw [.ref x, .int (nI n)] (mP A x (C, R)) (fun r T => ∃ E Q b, mP A x (E, Q) = T ∧ Rz R Q b ∧ b ≤ N ∧ Se 16 C E ∧ Okc E ∧ (r = 0 ∨ (r = 1 ∧ E.mn 16 = nI n ∧ ∀ k, k < n → ∃ h, h ≤ 65536 ∧ Q.hd k = nI h))) 0 0 := by
  refine enterI (cc := cX7_readsKeys) (nL := 4) (ret := (some .boolean)) (by decide +kernel) rfl (Nat.le_of_ble_eq_true rfl) ?_
  intro F Z hl hR hD hcy hnw hnm
  subst hl hD hcy hnw
  have hRf : F.R.frames = 2 := by rw [hR]
  have hRc : F.R.cells = 0 := by rw [hR]
  have hRs : F.R.slots = 0 := by rw [hR]
  have hRl : F.R.locals = 43 := by rw [hR]
  have in6 : ∀ w ∈ u_ws RX7 TX7 16, w ∈ wsX7_readsKeys := by decide +kernel
  have lk7 : Cond.fieldLink RX7 7 (TX7 0).1 (TX7 0).2.1 (TX7 0).2.2.1 ∈ wsX7_readsKeys := by decide +kernel
  have lk13 : Cond.fieldLink RX7 13 (TX7 1).1 (TX7 1).2.1 (TX7 1).2.2.1 ∈ wsX7_readsKeys := by decide +kernel
  have lk41 : Cond.fieldLink RX7 41 (TX7 14).1 (TX7 14).2.1 (TX7 14).2.2.1 ∈ wsX7_readsKeys := by decide +kernel
  have lk183 : Cond.fieldLink RX7 183 (TX7 11).1 (TX7 11).2.1 (TX7 11).2.2.1 ∈ wsX7_readsKeys := by decide +kernel
  have loop : ∀ (i : Nat) (k : Nat) (D : C5) (W : MR) (b : Nat), n - k < i → (k ≤ n ∧ Rz R W b ∧ b ≤ N ∧ Se 16 C D ∧ Okc D ∧ D.mn 16 = nI n ∧ ∀ j, j < k → ∃ h, h ≤ 65536 ∧ W.hd j = nI h) → G F 4 (mP A x (D, W)) 0 0 (QI F (fun r T => ∃ E Q b, mP A x (E, Q) = T ∧ Rz R Q b ∧ b ≤ N ∧ Se 16 C E ∧ Okc E ∧ (r = 0 ∨ (r = 1 ∧ E.mn 16 = nI n ∧ ∀ k, k < n → ∃ h, h ≤ 65536 ∧ Q.hd k = nI h))) 0 0) 10 [(0, .ref x), (1, .int (nI n)), (2, .int (nI k))] [] := by
    intro i
    induction i with
    | zero => intros; omega
    | succ i ih =>
      intro k D W b hm ⟨hk, ⟨z1, z2, z3, z4⟩, hb, hS, hD, hmn, hh⟩
      have j75 : ∀ (D2 : C5) (W2 : MR) (b2 : Nat), k < n → Rz R W2 b2 → b2 ≤ N → Se 16 C D2 → Okc D2 → D2.mn 16 = nI n → (∀ j, j < k → ∃ h, h ≤ 65536 ∧ W2.hd j = nI h) → G F 4 (mP A x (D2, W2)) 0 0 (QI F (fun r T => ∃ E Q b, mP A x (E, Q) = T ∧ Rz R Q b ∧ b ≤ N ∧ Se 16 C E ∧ Okc E ∧ (r = 0 ∨ (r = 1 ∧ E.mn 16 = nI n ∧ ∀ k, k < n → ∃ h, h ≤ 65536 ∧ Q.hd k = nI h))) 0 0) 75 [(0, .ref x), (1, .int (nI n)), (2, .int (nI k))] [] := by
        intro D2 W2 b2 hlt ⟨y1, y2, y3, y4⟩ hb2 hS2 hD2 hm2 hh2
        refine g_aload_n Z dX7_readsKeys_75 rfl ?_
        refine g_iconst (v := 2) Z dX7_readsKeys_76 (by decide) ?_
        refine g_cvI Z (c_X7_are F.l F.D F.cy F.nw A x ho _ _ N hN (y2.trans eN) b2 y4 hb2 2 (by omega)) 1 gX7_readsKeys_X7_are rfl (by decide +kernel) (by rw [hRf, hRl]; decide) (by exact mP_x) (κ := 6) (by exact mP_Kx) rfl (by decide) rfl rfl (Nat.le_of_ble_eq_true rfl) dX7_readsKeys_77 (by rw [hRc, hRs]; omega) (fun r T1 hp => ?_)
        rcases hp with ⟨rfl, hle, rfl⟩ | ⟨rfl, W3, rfl, q⟩
        · refine g_if_ne Z 85 dX7_readsKeys_80 (by decide) (fun h80 => ?_) (fun h80 => absurd h80 (by decide))
          refine g_aload_n Z dX7_readsKeys_85 rfl ?_
          refine m_ref_hd Z in6 lk41 dX7_readsKeys_86 ?_
          refine g_iload_n Z dX7_readsKeys_89 rfl ?_
          refine g_aload_n Z dX7_readsKeys_90 rfl ?_
          refine g_iconst (v := 2) Z dX7_readsKeys_91 (by decide) ?_
          refine g_cvL Z (c_X7_taken F.l F.D F.cy F.nw A x ho _ _ (hB.of y3) b2 y4 2 (by omega) (by omega)) 1 gX7_readsKeys_X7_taken rfl (by decide +kernel) (by rw [hRf, hRl]; decide) (by exact mP_x) (κ := 6) (by exact mP_Kx) rfl (by decide) rfl rfl (Nat.le_of_ble_eq_true rfl) dX7_readsKeys_92 (by rw [hRc, hRs]; omega) (fun r T2 hp => ?_)
          obtain ⟨W3, v, rfl, q, rfl, hv⟩ := hp
          refine g_l2i Z dX7_readsKeys_95 ?_
          rw [lN_i]
          refine g_iconst (v := 1) Z dX7_readsKeys_96 (by decide) ?_
          refine g_iadd Z dX7_readsKeys_97 ?_
          rw [nI_1]
          refine m_ast_hd Z ho dX7_readsKeys_98 (by exact vp_in_nI (by omega) (by decide)) ?_
          rw [nI_clamp (by omega)]
          refine g_iinc (c := 1) Z dX7_readsKeys_99 rfl (by decide) (by decide) ?_
          rw [nI_1]
          refine g_goto Z 10 dX7_readsKeys_102 (by decide) ?_
          exact g_lv (by (repeat (first | exact trivial | refine And.intro rfl ?_)); done) (ih (k + 1) D2 _ (b2 + 2) (by omega) ⟨by omega, ⟨q.1.trans y1, q.2.1.trans y2, q.2.2.1.trans y3, q.2.2.2.1⟩, by omega, hS2, hD2, hm2, fun j hj => by
            show ∃ h, h ≤ 65536 ∧ upd W3.hd k (nI (v + 1)) j = nI h
            by_cases e : j = k
            · subst e; exact ⟨v + 1, by omega, pk_us⟩
            · rw [pk_un e, q.2.2.2.2]; exact hh2 j (by omega)⟩)
        · refine g_if_ne Z 85 dX7_readsKeys_80 (by decide) (fun h80 => absurd (rfl) h80) (fun h80 => ?_)
          refine g_iconst (v := 0) Z dX7_readsKeys_83 (by decide) ?_
          exact g_zret Z dX7_readsKeys_84 (by rfl) (by omega) (by omega) (⟨D2, W3, b2, rfl, ⟨q.1.trans y1, q.2.1.trans y2, q.2.2.1.trans y3, q.2.2.2.1⟩, by omega, hS2, hD2, Or.inl rfl⟩)
      refine g_iload_n Z dX7_readsKeys_10 rfl ?_
      refine g_iload_n Z dX7_readsKeys_11 rfl ?_
      refine g_icmp_ge Z 105 dX7_readsKeys_12 (by decide) (fun h12 => ?_) (fun h12 => ?_)
      · have he : k = n := by have := ge_t (i := k) (N := n) (by omega) (by omega) h12; omega
        subst he
        refine g_iconst (v := 1) Z dX7_readsKeys_105 (by decide) ?_
        exact g_zret Z dX7_readsKeys_106 (by rfl) (by omega) (by omega) (⟨D, W, b, rfl, ⟨z1, z2, z3, z4⟩, hb, hS, hD, Or.inr ⟨rfl, hmn, hh⟩⟩)
      · have hlt : k < n := ge_f (by omega) (by omega) h12
        refine g_aload_n Z dX7_readsKeys_15 rfl ?_
        refine g_iconst (v := 2) Z dX7_readsKeys_16 (by decide) ?_
        refine g_cvI Z (c_X7_are F.l F.D F.cy F.nw A x ho _ _ N hN (z2.trans eN) b z4 hb 2 (by omega)) 1 gX7_readsKeys_X7_are rfl (by decide +kernel) (by rw [hRf, hRl]; decide) (by exact mP_x) (κ := 6) (by exact mP_Kx) rfl (by decide) rfl rfl (Nat.le_of_ble_eq_true rfl) dX7_readsKeys_17 (by rw [hRc, hRs]; omega) (fun r T1 hp => ?_)
        rcases hp with ⟨rfl, hle, rfl⟩ | ⟨rfl, W3, rfl, q⟩
        · refine g_if_ne Z 25 dX7_readsKeys_20 (by decide) (fun h20 => ?_) (fun h20 => absurd h20 (by decide))
          refine g_bipush (v := 96) Z dX7_readsKeys_25 (by decide) ?_
          refine g_iload_n Z dX7_readsKeys_27 rfl ?_
          refine g_iadd Z dX7_readsKeys_28 ?_
          rw [ix96]
          refine g_istore_n Z dX7_readsKeys_29 (by decide) ?_
          refine g_aload_n Z dX7_readsKeys_30 rfl ?_
          refine m_ref_ky Z in6 lk13 dX7_readsKeys_31 ?_
          refine g_iload_n Z dX7_readsKeys_34 rfl ?_
          refine g_aload_n Z dX7_readsKeys_35 rfl ?_
          refine g_iconst (v := 2) Z dX7_readsKeys_36 (by decide) ?_
          refine g_cvL Z (c_X7_taken F.l F.D F.cy F.nw A x ho _ _ (hB.of z3) b z4 2 (by omega) (by omega)) 1 gX7_readsKeys_X7_taken rfl (by decide +kernel) (by rw [hRf, hRl]; decide) (by exact mP_x) (κ := 6) (by exact mP_Kx) rfl (by decide) rfl rfl (Nat.le_of_ble_eq_true rfl) dX7_readsKeys_37 (by rw [hRc, hRs]; omega) (fun r T2 hp => ?_)
          obtain ⟨W3, v, rfl, q, rfl, hv⟩ := hp
          refine g_l2i Z dX7_readsKeys_40 ?_
          rw [lN_i]
          refine m_ast_ky Z ho dX7_readsKeys_41 (by exact vp_in_nI (by omega) (by decide)) ?_
          rw [nI_clamp (by omega)]
          have hC : Ce (6 * 16 + k) D (D.s_ky (upd D.ky (6 * 16 + k) (nI v))) := ⟨rfl, fun d hd => ⟨pk_un hd, rfl, fun _ _ => rfl⟩⟩
          have hS2 := hS.tr (hC.se (by omega))
          have hD2 : Okc (D.s_ky (upd D.ky (6 * 16 + k) (nI v))) := hC.ok ⟨v, by omega, pk_us⟩ hD
          have hz2 : Rz R W3 (b + 2) := ⟨q.1.trans z1, q.2.1.trans z2, q.2.2.1.trans z3, q.2.2.2.1⟩
          have hh2 : ∀ j, j < k → ∃ h, h ≤ 65536 ∧ W3.hd j = nI h := fun j hj => by rw [q.2.2.2.2]; exact hh j hj
          refine g_iload_n Z dX7_readsKeys_42 rfl ?_
          refine g_if_le Z 75 dX7_readsKeys_43 (by decide) (fun h43 => ?_) (fun h43 => ?_)
          · exact g_lv (by (repeat (first | exact trivial | refine And.intro rfl ?_)); done) (j75 _ W3 (b + 2) hlt hz2 (by omega) hS2 hD2 hmn hh2)
          · have hk0 : 0 < k := Nat.pos_of_ne_zero (fun e => h43 (by rw [e]; decide))
            refine g_aload_n Z dX7_readsKeys_46 rfl ?_
            refine m_ref_ky Z in6 lk13 dX7_readsKeys_47 ?_
            refine g_iload_n Z dX7_readsKeys_50 rfl ?_
            refine m_ald_ky Z ho dX7_readsKeys_51 (by exact vp_in_nI (by omega) (by decide)) ?_
            rw [nI_clamp (by omega)]
            refine g_aload_n Z dX7_readsKeys_52 rfl ?_
            refine m_ref_ky Z in6 lk13 dX7_readsKeys_53 ?_
            refine g_iload_n Z dX7_readsKeys_56 rfl ?_
            refine g_iconst (v := 1) Z dX7_readsKeys_57 (by decide) ?_
            refine g_isub Z dX7_readsKeys_58 ?_
            rw [s1' (by omega)]
            refine m_ald_ky Z ho dX7_readsKeys_59 (by exact vp_in_nI (by omega) (by decide)) ?_
            rw [nI_clamp (by omega)]
            refine g_icmp_gt Z 75 dX7_readsKeys_60 (by decide) (fun h60 => ?_) (fun h60 => ?_)
            · exact g_lv (by (repeat (first | exact trivial | refine And.intro rfl ?_)); done) (j75 _ W3 (b + 2) hlt hz2 (by omega) hS2 hD2 hmn hh2)
            · refine g_aload_n Z dX7_readsKeys_63 rfl ?_
              refine g_iconst (v := 5) Z dX7_readsKeys_64 (by decide) ?_
              refine g_aload_n Z dX7_readsKeys_65 rfl ?_
              refine m_get_aa Z in6 lk183 dX7_readsKeys_66 ?_
              refine g_iconst (v := 2) Z dX7_readsKeys_69 (by decide) ?_
              refine g_isub Z dX7_readsKeys_70 ?_
              refine g_cvI Z (c_X7_fails F.l F.D F.cy F.nw A x ho _ _ _ _) 2 gX7_readsKeys_X7_fails rfl (by decide +kernel) (by rw [hRf, hRl]; decide) (by exact mP_x) (κ := 6) (by exact mP_Kx) rfl (by decide) rfl rfl (Nat.le_of_ble_eq_true rfl) dX7_readsKeys_71 (by rw [hRc, hRs]; omega) (fun r T3 hp => ?_)
              obtain ⟨rfl, rfl⟩ := hp
              exact g_zret Z dX7_readsKeys_74 (by rfl) (by omega) (by omega) (⟨_, _, (b + 2), rfl, ⟨hz2.1, hz2.2.1, hz2.2.2.1, hz2.2.2.2⟩, by omega, hS2, hD2, Or.inl rfl⟩)
        · refine g_if_ne Z 25 dX7_readsKeys_20 (by decide) (fun h20 => absurd (rfl) h20) (fun h20 => ?_)
          refine g_iconst (v := 0) Z dX7_readsKeys_23 (by decide) ?_
          exact g_zret Z dX7_readsKeys_24 (by rfl) (by omega) (by omega) (⟨D, W3, b, rfl, ⟨q.1.trans z1, q.2.1.trans z2, q.2.2.1.trans z3, q.2.2.2.1⟩, by omega, hS, hD, Or.inl rfl⟩)
  refine g_aload_n Z dX7_readsKeys_0 rfl ?_
  refine m_ref_mn Z in6 lk7 dX7_readsKeys_1 ?_
  refine g_bipush (v := 16) Z dX7_readsKeys_4 (by decide) ?_
  refine g_iload_n Z dX7_readsKeys_6 rfl ?_
  refine m_ast_mn Z ho dX7_readsKeys_7 (by exact vp_in_nI (n := 16) (by decide) (by decide)) ?_
  rw [show (16 : Int32).toNatClampNeg = 16 by decide]
  refine g_iconst (v := 0) Z dX7_readsKeys_8 (by decide) ?_
  refine g_istore_n Z dX7_readsKeys_9 (by decide) ?_
  exact g_lv (by (repeat (first | exact trivial | refine And.intro rfl ?_)); done) (loop (n + 1) 0 (C.s_mn (upd C.mn 16 (nI n))) R a (by omega) ⟨by omega, ⟨rfl, rfl, rfl, ea⟩, haN, Ce.upd_mn, hO.s_mn hn, pk_us (f := C.mn) (k := 16) (x := nI n), fun j hj => by omega⟩)

set_option maxRecDepth 100000 in
set_option maxHeartbeats 2000000 in
/-- places are read -/
theorem c_X7_readsPlaces (l : Launch) (D : va_G) (cy : Nat → ClassId) (nw : Nat) (A : Nat → Nat) (x : Nat) (ho : mOk A x) (C : C5) (R : MR) (N : Nat) (hN : N ≤ 60000) (eN : R.si = nI N) (hB : Bt R) (a : Nat) (ea : R.aa = nI a) (haN : a ≤ N) (n : Nat) (hn : n ≤ 6) (y : Int32) : kI l yX7_readsPlaces wsX7_readsPlaces 2 43 D cy nw [.ref x, .int (nI n), .int y] (mP A x (C, R)) (fun r T => (r = 0 ∨ r = 1) ∧ ∃ Q b, mP A x (C, Q) = T ∧ Rq R Q b ∧ b ≤ N) 0 0 := by
  refine enterI (cc := cX7_readsPlaces) (nL := 4) (ret := (some .boolean)) (by decide +kernel) rfl (Nat.le_of_ble_eq_true rfl) ?_
  intro F Z hl hR hD hcy hnw hnm
  subst hl hD hcy hnw
  have hRf : F.R.frames = 2 := by rw [hR]
  have hRc : F.R.cells = 0 := by rw [hR]
  have hRs : F.R.slots = 0 := by rw [hR]
  have hRl : F.R.locals = 43 := by rw [hR]
  have in6 : ∀ w ∈ u_ws RX7 TX7 16, w ∈ wsX7_readsPlaces := by decide +kernel
  have lk35 : Cond.fieldLink RX7 35 (TX7 12).1 (TX7 12).2.1 (TX7 12).2.2.1 ∈ wsX7_readsPlaces := by decide +kernel
  have lk38 : Cond.fieldLink RX7 38 (TX7 13).1 (TX7 13).2.1 (TX7 13).2.2.1 ∈ wsX7_readsPlaces := by decide +kernel
  have lk183 : Cond.fieldLink RX7 183 (TX7 11).1 (TX7 11).2.1 (TX7 11).2.2.1 ∈ wsX7_readsPlaces := by decide +kernel
  have ct52 : Cond.constantLong RX7 52 (-1) ∈ wsX7_readsPlaces := by decide +kernel
  have loop : ∀ (i : Nat) (k : Nat) (W : MR) (b : Nat), n - k < i → (k ≤ n ∧ Rq R W b ∧ b ≤ N) → G F 4 (mP A x (C, W)) 0 0 (QI F (fun r T => (r = 0 ∨ r = 1) ∧ ∃ Q b, mP A x (C, Q) = T ∧ Rq R Q b ∧ b ≤ N) 0 0) 2 [(0, .ref x), (1, .int (nI n)), (2, .int y), (3, .int (nI k))] [] := by
    intro i
    induction i with
    | zero => intros; omega
    | succ i ih =>
      intro k W b hm ⟨hk, ⟨z1, z2, z3, z4, z5⟩, hb⟩
      refine g_iload_n Z dX7_readsPlaces_2 rfl ?_
      refine g_iload_n Z dX7_readsPlaces_3 rfl ?_
      refine g_icmp_ge Z 57 dX7_readsPlaces_4 (by decide) (fun h4 => ?_) (fun h4 => ?_)
      · refine g_iconst (v := 1) Z dX7_readsPlaces_57 (by decide) ?_
        exact g_zret Z dX7_readsPlaces_58 (by rfl) (by omega) (by omega) (⟨Or.inr rfl, W, b, rfl, ⟨z1, z2, z3, z4, z5⟩, hb⟩)
      · have hlt : k < n := ge_f (by omega) (by omega) h4
        refine g_aload_n Z dX7_readsPlaces_7 rfl ?_
        refine m_ref_tl Z in6 lk38 dX7_readsPlaces_8 ?_
        refine g_iload_n Z dX7_readsPlaces_11 rfl ?_
        refine g_ldc2 (v := -1) Z dX7_readsPlaces_12 ct52 ?_
        refine m_ast_tl Z ho dX7_readsPlaces_15 (by exact vp_in_nI (by omega) (by decide)) ?_
        rw [nI_clamp (by omega)]
        refine g_iload_n Z dX7_readsPlaces_16 rfl ?_
        refine g_if_eq Z 51 dX7_readsPlaces_17 (by decide) (fun h17 => ?_) (fun h17 => ?_)
        · refine g_iinc (c := 1) Z dX7_readsPlaces_51 rfl (by decide) (by decide) ?_
          rw [nI_1]
          refine g_goto Z 2 dX7_readsPlaces_54 (by decide) ?_
          exact g_lv (by (repeat (first | exact trivial | refine And.intro rfl ?_)); done) (ih (k + 1) _ b (by omega) ⟨by omega, ⟨z1, z2, z3, z4, z5⟩, hb⟩)
        · refine g_aload_n Z dX7_readsPlaces_20 rfl ?_
          refine g_iconst (v := 4) Z dX7_readsPlaces_21 (by decide) ?_
          refine g_cvI Z (c_X7_are F.l F.D F.cy F.nw A x ho C (W.s_tl (vp_updL W.tl k (-1))) N hN (z2.trans eN) b z4 hb 4 (by omega)) 1 gX7_readsPlaces_X7_are rfl (by decide +kernel) (by rw [hRf, hRl]; decide) (by exact mP_x) (κ := 6) (by exact mP_Kx) rfl (by decide) rfl rfl (Nat.le_of_ble_eq_true rfl) dX7_readsPlaces_22 (by rw [hRc, hRs]; omega) (fun r T1 hp => ?_)
          rcases hp with ⟨rfl, hle, rfl⟩ | ⟨rfl, W3, rfl, q⟩
          · refine g_if_ne Z 30 dX7_readsPlaces_25 (by decide) (fun h25 => ?_) (fun h25 => absurd h25 (by decide))
            refine g_aload_n Z dX7_readsPlaces_30 rfl ?_
            refine m_ref_pl Z in6 lk35 dX7_readsPlaces_31 ?_
            refine g_iload_n Z dX7_readsPlaces_34 rfl ?_
            refine g_aload_n Z dX7_readsPlaces_35 rfl ?_
            refine m_get_aa Z in6 lk183 dX7_readsPlaces_36 ?_
            refine m_ast_pl Z ho dX7_readsPlaces_39 (by exact vp_in_nI (by omega) (by decide)) ?_
            rw [nI_clamp (by omega)]
            refine g_aload_n Z dX7_readsPlaces_40 rfl ?_
            refine m_ref_tl Z in6 lk38 dX7_readsPlaces_41 ?_
            refine g_iload_n Z dX7_readsPlaces_44 rfl ?_
            refine g_aload_n Z dX7_readsPlaces_45 rfl ?_
            refine g_iconst (v := 4) Z dX7_readsPlaces_46 (by decide) ?_
            refine g_cvL Z (c_X7_taken F.l F.D F.cy F.nw A x ho C ((W.s_tl (vp_updL W.tl k (-1))).s_pl (upd W.pl k W.aa)) (hB.of z3) b z4 4 (by omega) (by omega)) 1 gX7_readsPlaces_X7_taken rfl (by decide +kernel) (by rw [hRf, hRl]; decide) (by exact mP_x) (κ := 6) (by exact mP_Kx) rfl (by decide) rfl rfl (Nat.le_of_ble_eq_true rfl) dX7_readsPlaces_47 (by rw [hRc, hRs]; omega) (fun r T2 hp => ?_)
            obtain ⟨W3, v, rfl, q, rfl, hv⟩ := hp
            refine m_ast_tl Z ho dX7_readsPlaces_50 (by exact vp_in_nI (by omega) (by decide)) ?_
            rw [nI_clamp (by omega)]
            refine g_iinc (c := 1) Z dX7_readsPlaces_51 rfl (by decide) (by decide) ?_
            rw [nI_1]
            refine g_goto Z 2 dX7_readsPlaces_54 (by decide) ?_
            exact g_lv (by (repeat (first | exact trivial | refine And.intro rfl ?_)); done) (ih (k + 1) _ (b + 4) (by omega) ⟨by omega, ⟨q.1.trans z1, q.2.1.trans z2, q.2.2.1.trans z3, q.2.2.2.1, q.2.2.2.2.trans z5⟩, by omega⟩)
          · refine g_if_ne Z 30 dX7_readsPlaces_25 (by decide) (fun h25 => absurd (rfl) h25) (fun h25 => ?_)
            refine g_iconst (v := 0) Z dX7_readsPlaces_28 (by decide) ?_
            exact g_zret Z dX7_readsPlaces_29 (by rfl) (by omega) (by omega) (⟨Or.inl rfl, W3, b, rfl, ⟨q.1.trans z1, q.2.1.trans z2, q.2.2.1.trans z3, q.2.2.2.1, q.2.2.2.2.trans z5⟩, hb⟩)
  refine g_iconst (v := 0) Z dX7_readsPlaces_0 (by decide) ?_
  refine g_istore_n Z dX7_readsPlaces_1 (by decide) ?_
  exact g_lv (by (repeat (first | exact trivial | refine And.intro rfl ?_)); done) (loop (n + 1) 0 R a (by omega) ⟨by omega, ⟨rfl, rfl, rfl, ea, rfl⟩, haN⟩)
