set_option maxRecDepth 100000 in
set_option maxHeartbeats 2000000 in
/-- a number of key and low -/
theorem c_X7_numberOf (l : Launch) (D : va_G) (cy : Nat → ClassId) (nw : Nat) (A : Nat → Nat) (x : Nat) (ho : mOk A x) (C : C5) (R : MR) (c : Nat) (hc : c < 102) (y : Int32) : kL l yX7_numberOf wsX7_numberOf 0 0 D cy nw [.ref x, .int (nI c), .int y] (mP A x (C, R)) (fun _ T => (mP A x (C, R)) = T) 0 0 := by
  refine enterL (cc := cX7_numberOf) (nL := 3) (ret := (some .long)) (by decide +kernel) rfl (Nat.le_of_ble_eq_true rfl) ?_
  intro F Z hl hR hD hcy hnw hnm
  subst hl hD hcy hnw
  have hRf : F.R.frames = 0 := by rw [hR]
  have hRc : F.R.cells = 0 := by rw [hR]
  have hRs : F.R.slots = 0 := by rw [hR]
  have hRl : F.R.locals = 0 := by rw [hR]
  have in6 : ∀ w ∈ u_ws RX7 TX7 16, w ∈ wsX7_numberOf := by decide +kernel
  have lk13 : Cond.fieldLink RX7 13 (TX7 1).1 (TX7 1).2.1 (TX7 1).2.2.1 ∈ wsX7_numberOf := by decide +kernel
  have ct140 : Cond.constantLong RX7 140 (65536) ∈ wsX7_numberOf := by decide +kernel
  refine g_ldc2 (v := 65536) Z dX7_numberOf_0 ct140 ?_
  refine g_aload_n Z dX7_numberOf_3 rfl ?_
  refine m_ref_ky Z in6 lk13 dX7_numberOf_4 ?_
  refine g_iload_n Z dX7_numberOf_7 rfl ?_
  refine m_ald_ky Z ho dX7_numberOf_8 (by exact vp_in_nI (by omega) (by decide)) ?_
  rw [nI_clamp (by omega)]
  refine g_i2l Z dX7_numberOf_9 ?_
  refine g_lmul Z dX7_numberOf_10 ?_
  refine g_iload_n Z dX7_numberOf_11 rfl ?_
  refine g_i2l Z dX7_numberOf_12 ?_
  refine g_ladd Z dX7_numberOf_13 ?_
  exact g_lret Z dX7_numberOf_14 (by omega) (by omega) (rfl)

theorem lt1024 {f : Nat → Int64} {c w lf : Nat} (hw : w ≤ 1024) (h : ct f c (64 * w) + lf < ct f c 65536) : w < 1024 := by
  by_cases e : w = 1024
  · rw [e, show 64 * 1024 = 65536 from rfl] at h; omega
  · omega

/-- how many of the first k containers are runs -/
def cK (C : C5) (s : Nat) : Nat → Nat
  | 0 => 0
  | k + 1 => cK C s k + (if C.kd (6 * s + k) = 2 then 1 else 0)

set_option maxRecDepth 100000 in
set_option maxHeartbeats 2000000 in
/-- how many runs containers -/
theorem c_X7_count4 (l : Launch) (D : va_G) (cy : Nat → ClassId) (nw : Nat) (A : Nat → Nat) (x : Nat) (ho : mOk A x) (C : C5) (R : MR) (s : Nat) (hs : s < 8) (n0 : Nat) (hn0 : n0 ≤ 6) (en : C.mn s = nI n0) : kI l yX7_count wsX7_count 2 45 D cy nw [.ref x, .int (nI s), .int 4] (mP A x (C, R)) (fun r T => (mP A x (C, R)) = T ∧ r = nI (cK C s n0)) 0 0 := by
  refine enterI (cc := cX7_count) (nL := 5) (ret := (some .int)) (by decide +kernel) rfl (Nat.le_of_ble_eq_true rfl) ?_
  intro F Z hl hR hD hcy hnw hnm
  subst hl hD hcy hnw
  have hRf : F.R.frames = 2 := by rw [hR]
  have hRc : F.R.cells = 0 := by rw [hR]
  have hRs : F.R.slots = 0 := by rw [hR]
  have hRl : F.R.locals = 45 := by rw [hR]
  have in6 : ∀ w ∈ u_ws RX7 TX7 16, w ∈ wsX7_count := by decide +kernel
  have lk7 : Cond.fieldLink RX7 7 (TX7 0).1 (TX7 0).2.1 (TX7 0).2.2.1 ∈ wsX7_count := by decide +kernel
  have lk16 : Cond.fieldLink RX7 16 (TX7 2).1 (TX7 2).2.1 (TX7 2).2.2.1 ∈ wsX7_count := by decide +kernel
  have ct148 : Cond.constantLong RX7 148 (4) ∈ wsX7_count := by decide +kernel
  have loop : ∀ (n k : Nat), n0 - k < n → k ≤ n0 → G F 5 (mP A x (C, R)) 0 0 (QI F (fun r T => (mP A x (C, R)) = T ∧ r = nI (cK C s n0)) 0 0) 37 [(0, .ref x), (1, .int (nI s)), (2, .int 4), (3, .int (nI (cK C s k))), (4, .int (nI k))] [] := by
    intro n
    induction n with
    | zero => intros; omega
    | succ n ih =>
      intro k hn hk
      have hs4 : cK C s (k + 1) = cK C s k + (if C.kd (6 * s + k) = 2 then 1 else 0) := rfl
      refine g_iload Z dX7_count_37 rfl ?_
      refine g_aload_n Z dX7_count_39 rfl ?_
      refine m_ref_mn Z in6 lk7 dX7_count_40 ?_
      refine g_iload_n Z dX7_count_43 rfl ?_
      refine m_ald_mn Z ho dX7_count_44 (by exact vp_in_nI (by omega) (by decide)) ?_
      rw [nI_clamp (by omega), en]
      refine g_icmp_ge Z 85 dX7_count_45 (by decide) (fun h45 => ?_) (fun h45 => ?_)
      · have he : k = n0 := by have := ge_t (i := k) (N := n0) (by omega) (by omega) h45; omega
        subst he
        refine g_iload_n Z dX7_count_85 rfl ?_
        exact g_iret Z dX7_count_86 (by omega) (by omega) (⟨rfl, rfl⟩)
      · have hlt : k < n0 := ge_f (by omega) (by omega) h45
        refine g_iload_n Z dX7_count_48 rfl ?_
        refine g_iload_n Z dX7_count_49 rfl ?_
        refine g_iconst (v := 1) Z dX7_count_50 (by decide) ?_
        refine g_icmp_eq Z 72 dX7_count_51 (by decide) (fun h51 => absurd h51 (by decide)) (fun h51 => ?_)
        refine g_aload_n Z dX7_count_54 rfl ?_
        refine m_ref_kd Z in6 lk16 dX7_count_55 ?_
        refine g_bipush (v := 6) Z dX7_count_58 (by decide) ?_
        refine g_iload_n Z dX7_count_60 rfl ?_
        refine g_imul Z dX7_count_61 ?_
        refine g_iload Z dX7_count_62 rfl ?_
        refine g_iadd Z dX7_count_64 ?_
        rw [ix6]
        refine m_ald_kd Z ho dX7_count_65 (by exact vp_in_nI (by omega) (by decide)) ?_
        rw [nI_clamp (by omega)]
        refine g_iload_n Z dX7_count_66 rfl ?_
        refine g_iconst (v := 2) Z dX7_count_67 (by decide) ?_
        refine g_isub Z dX7_count_68 ?_
        rw [show (4 : Int32) - 2 = 2 by decide]
        refine g_icmp_ne Z 76 dX7_count_69 (by decide) (fun h69 => ?_) (fun h69 => ?_)
        · rw [if_neg h69] at hs4
          have hih := ih (k + 1) (by omega) (by omega)
          rw [hs4] at hih
          refine g_iconst (v := 0) Z dX7_count_76 (by decide) ?_
          refine g_iadd Z dX7_count_77 ?_
          rw [add0]
          refine g_istore_n Z dX7_count_78 (by decide) ?_
          refine g_iinc (c := 1) Z dX7_count_79 rfl (by decide) (by decide) ?_
          rw [nI_1]
          refine g_goto Z 37 dX7_count_82 (by decide) ?_
          exact g_lv (by (repeat (first | exact trivial | refine And.intro rfl ?_)); done) hih
        · rw [if_pos h69] at hs4
          have hih := ih (k + 1) (by omega) (by omega)
          rw [hs4] at hih
          refine g_iconst (v := 1) Z dX7_count_72 (by decide) ?_
          refine g_goto Z 77 dX7_count_73 (by decide) ?_
          refine g_iadd Z dX7_count_77 ?_
          rw [nI_1]
          refine g_istore_n Z dX7_count_78 (by decide) ?_
          refine g_iinc (c := 1) Z dX7_count_79 rfl (by decide) (by decide) ?_
          rw [nI_1]
          refine g_goto Z 37 dX7_count_82 (by decide) ?_
          exact g_lv (by (repeat (first | exact trivial | refine And.intro rfl ?_)); done) hih
  refine g_iload_n Z dX7_count_0 rfl ?_
  refine g_csI Z (c_X7_isSet F.l F.D F.cy F.nw _ _) 1 gX7_count_X7_isSet rfl (by decide +kernel) (by rw [hRf, hRl]; decide) rfl rfl (Nat.le_of_ble_eq_true rfl) dX7_count_1 (by rw [hRc, hRs]; omega) (fun r1 T1 hp => ?_)
  obtain ⟨rfl, hi1⟩ := hp
  refine g_if_eq Z 19 dX7_count_4 (by decide) (fun h4 => absurd h4 (fun e => hi1.f e ⟨s, by omega, by omega, rfl⟩)) (fun h4 => ?_)
  refine g_iload_n Z dX7_count_7 rfl ?_
  refine g_i2l Z dX7_count_8 ?_
  refine g_lconst (v := 0) Z dX7_count_9 (by decide) ?_
  refine g_ldc2 (v := 4) Z dX7_count_10 ct148 ?_
  refine g_csI Z (c_X7_in F.l F.D F.cy F.nw _ _ _ _) 3 gX7_count_X7_in rfl (by decide +kernel) (by rw [hRf, hRl]; decide) rfl rfl (Nat.le_of_ble_eq_true rfl) dX7_count_13 (by rw [hRc, hRs]; omega) (fun r2 T2 hp => ?_)
  obtain ⟨rfl, hi0⟩ := hp
  have hi2 := in_R (x := 4) (a := 0) (b := 4) (by decide) (by decide) hi0
  refine g_if_ne Z 22 dX7_count_16 (by decide) (fun h16 => ?_) (fun h16 => absurd h16 (fun e => hi2.f e ⟨4, by omega, by omega, rfl⟩))
  refine g_iload_n Z dX7_count_22 rfl ?_
  refine g_if_ne Z 32 dX7_count_23 (by decide) (fun h23 => ?_) (fun h23 => absurd h23 (by decide))
  refine g_iconst (v := 0) Z dX7_count_32 (by decide) ?_
  refine g_istore_n Z dX7_count_33 (by decide) ?_
  refine g_iconst (v := 0) Z dX7_count_34 (by decide) ?_
  refine g_istore Z dX7_count_35 (by decide) ?_
  exact g_lv (by (repeat (first | exact trivial | refine And.intro rfl ?_)); done) (loop (n0 + 1) 0 (by omega) (by omega))

theorem in_m1 {k r : Int32} {n0 : Nat} (hn : n0 ≤ 6) (h : (r = 1 ∧ (0 : Int64) ≤ k.toInt64 ∧ k.toInt64 ≤ (nI n0 - 1).toInt64) ∨ (r = 0 ∧ ¬ ((0 : Int64) ≤ k.toInt64 ∧ k.toInt64 ≤ (nI n0 - 1).toInt64))) (h0 : ¬ r = 0) : ∃ j, j < n0 ∧ k = nI j := by
  rcases h with ⟨-, h1, h2⟩ | ⟨h1, -⟩
  · rw [Int64.le_iff_toInt_le, Int32.toInt_toInt64] at h1 h2
    rw [Int32.toInt_toInt64, show nI n0 - 1 = nI n0 - nI 1 from rfl, pk_sub_toInt (by omega) (by decide)] at h2
    have e : (0 : Int64).toInt = 0 := rfl
    rw [e] at h1
    refine ⟨k.toInt.toNat, by omega, ?_⟩
    apply Int32.toInt_inj.mp
    rw [nI_toInt (by omega)]
    omega
  · exact absurd h1 h0

