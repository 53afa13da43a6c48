/-! container -/
noncomputable def conN (a : Cn) (v : Int32) : Int32 := if v = 0 then nI a.1 else if v = 1 then a.2.1 else if v = 2 then nI (tot a.2.2) else if v = 3 then nI (rnT a.2.2) else -2
def ConV (V : Sv) (b v r : Int32) : Prop := (∃ k, k < V.1 ∧ b = nI k ∧ r = conN (V.2 k) v) ∨ ((¬ ∃ k, k < V.1 ∧ b = nI k) ∧ r = -2)
theorem ConV.det {V : Sv} {b v r r2 : Int32} (h6 : V.1 ≤ 6) (h : ConV V b v r) (k : ConV V b v r2) : r = r2 := by
  rcases h with ⟨i, hi, hk, e⟩ | ⟨hn, e⟩ <;> rcases k with ⟨j, hj, hkj, e2⟩ | ⟨hn2, e2⟩
  · have q := (nI_eq (by omega) (by omega)).mp (hk.symm.trans hkj)
    subst q; exact e.trans e2.symm
  · exact absurd ⟨i, hi, hk⟩ hn2
  · exact absurd ⟨j, hj, hkj⟩ hn
  · exact e.trans e2.symm
theorem con_n {a : Cn} {v : Int32} (h0 : ¬ v = 0) (h1 : ¬ v = 1) (h2 : ¬ v = 2) (h3 : ¬ v = 3) : conN a v = -2 := by
  unfold conN; rw [if_neg h0, if_neg h1, if_neg h2, if_neg h3]
theorem con_0 {a : Cn} {v : Int32} (h0 : v = 0) : conN a v = nI a.1 := by unfold conN; rw [if_pos h0]
theorem con_1 {a : Cn} {v : Int32} (h0 : v = 1) : conN a v = a.2.1 := by unfold conN; rw [h0, if_neg (by decide), if_pos rfl]
theorem con_2 {a : Cn} {v : Int32} (h0 : v = 2) : conN a v = nI (tot a.2.2) := by unfold conN; rw [h0, if_neg (by decide), if_neg (by decide), if_pos rfl]
theorem con_3 {a : Cn} {v : Int32} (h0 : v = 3) : conN a v = nI (rnT a.2.2) := by unfold conN; rw [h0, if_neg (by decide), if_neg (by decide), if_neg (by decide), if_pos rfl]
set_option maxRecDepth 100000 in
set_option maxHeartbeats 2000000 in
theorem f_X7_container (l : Launch) (D : va_G) (cy : Nat → ClassId) (nw : Nat) (A : Nat → Nat) (x : Nat) (ho : mOk A x) (C : C5) (R : MR) (V : Nat → Sv) (hM : MV C V) (a b v : Int32) : kI l yX7_container wsX7_container 2 50 D cy nw [.ref x, .int a, .int b, .int v] (mP A x (C, R)) (fun r T => (mP A x (C, R)) = T ∧ ((∃ j, j < 8 ∧ a = nI j ∧ ConV (V j) b v r) ∨ (¬ isS a ∧ r = -2))) 0 0 := by
  refine enterI (cc := cX7_container) (nL := 5) (ret := (some .int)) (by decide +kernel) rfl (Nat.le_of_ble_eq_true rfl) ?_
  intro F Z hl hR hD hcy hnw hnm
  subst hl hD hcy hnw
  have hRf : F.R.frames = 2 := by rw [hR]
  have hRc : F.R.cells = 0 := by rw [hR]
  have hRs : F.R.slots = 0 := by rw [hR]
  have hRl : F.R.locals = 50 := by rw [hR]
  have in6 : ∀ w ∈ u_ws RX7 TX7 16, w ∈ wsX7_container := by decide +kernel
  have lk7 : Cond.fieldLink RX7 7 (TX7 0).1 (TX7 0).2.1 (TX7 0).2.2.1 ∈ wsX7_container := by decide +kernel
  have lk13 : Cond.fieldLink RX7 13 (TX7 1).1 (TX7 1).2.1 (TX7 1).2.2.1 ∈ wsX7_container := by decide +kernel
  have lk16 : Cond.fieldLink RX7 16 (TX7 2).1 (TX7 2).2.1 (TX7 2).2.2.1 ∈ wsX7_container := by decide +kernel
  have lk19 : Cond.fieldLink RX7 19 (TX7 3).1 (TX7 3).2.1 (TX7 3).2.2.1 ∈ wsX7_container := by decide +kernel
  have ct112 : Cond.constantLong RX7 112 (3) ∈ wsX7_container := by decide +kernel
  refine g_iload_n Z dX7_container_0 rfl ?_
  refine g_csI Z (c_X7_isSet F.l F.D F.cy F.nw _ _) 1 gX7_container_X7_isSet rfl (by decide +kernel) (by rw [hRf, hRl]; decide) rfl rfl (Nat.le_of_ble_eq_true rfl) dX7_container_1 (by rw [hRc, hRs]; omega) (fun r T hp => ?_)
  obtain ⟨rfl, his⟩ := hp
  refine g_if_eq Z 37 dX7_container_4 (by decide) (fun h4 => ?_) (fun h4 => ?_)
  · refine g_bipush (v := (-2)) Z dX7_container_37 (by decide) ?_
    exact g_iret Z dX7_container_39 (by omega) (by omega) ⟨rfl, Or.inr ⟨his.f' h4, rfl⟩⟩
  · obtain ⟨s, hs, rfl⟩ := his.is h4
    have hs8 : s < 8 := by omega
    have hMs := hM s hs8
    have hn0 := hMs.1
    have en := hMs.2.1
    refine g_iload_n Z dX7_container_7 rfl ?_
    refine g_i2l Z dX7_container_8 ?_
    refine g_lconst (v := 0) Z dX7_container_9 (by decide) ?_
    refine g_aload_n Z dX7_container_10 rfl ?_
    refine m_ref_mn Z in6 lk7 dX7_container_11 ?_
    refine g_iload_n Z dX7_container_14 rfl ?_
    refine m_ald_mn Z ho dX7_container_15 (by exact vp_in_nI (by omega) (by decide)) ?_
    rw [nI_clamp (by omega), en]
    refine g_iconst (v := 1) Z dX7_container_16 (by decide) ?_
    refine g_isub Z dX7_container_17 ?_
    refine g_i2l Z dX7_container_18 ?_
    refine g_csI Z (c_X7_in F.l F.D F.cy F.nw _ _ _ _) 3 gX7_container_X7_in rfl (by decide +kernel) (by rw [hRf, hRl]; decide) rfl rfl (Nat.le_of_ble_eq_true rfl) dX7_container_19 (by rw [hRc, hRs]; omega) (fun r2 T2 hp => ?_)
    obtain ⟨rfl, hi0⟩ := hp
    refine g_if_eq Z 37 dX7_container_22 (by decide) (fun h22 => ?_) (fun h22 => ?_)
    · refine g_bipush (v := (-2)) Z dX7_container_37 (by decide) ?_
      exact g_iret Z dX7_container_39 (by omega) (by omega) ⟨rfl, Or.inl ⟨s, hs8, rfl, Or.inr ⟨in_mNf (by omega) hi0 h22, rfl⟩⟩⟩
    · obtain ⟨k, hk, rfl⟩ := in_m1 hn0 hi0 h22
      obtain ⟨hky, hkd, hsz, hcb⟩ := hMs.2.2 k hk
      refine g_iload_n Z dX7_container_25 rfl ?_
      refine g_i2l Z dX7_container_26 ?_
      refine g_lconst (v := 0) Z dX7_container_27 (by decide) ?_
      refine g_ldc2 (v := 3) Z dX7_container_28 ct112 ?_
      refine g_csI Z (c_X7_in F.l F.D F.cy F.nw _ _ _ _) 3 gX7_container_X7_in rfl (by decide +kernel) (by rw [hRf, hRl]; decide) rfl rfl (Nat.le_of_ble_eq_true rfl) dX7_container_31 (by rw [hRc, hRs]; omega) (fun r3 T3 hp => ?_)
      obtain ⟨rfl, hin⟩ := hp
      have hin := in_R (a := 0) (b := 3) (by decide) (by decide) hin
      refine g_if_ne Z 40 dX7_container_34 (by decide) (fun h34 => ?_) (fun h34 => ?_)
      · refine g_bipush (v := 6) Z dX7_container_40 (by decide) ?_
        refine g_iload_n Z dX7_container_42 rfl ?_
        refine g_imul Z dX7_container_43 ?_
        refine g_iload_n Z dX7_container_44 rfl ?_
        refine g_iadd Z dX7_container_45 ?_
        rw [ix6]
        refine g_istore Z dX7_container_46 (by decide) ?_
        refine g_iload_n Z dX7_container_48 rfl ?_
        refine g_if_ne Z 62 dX7_container_49 (by decide) (fun h49 => ?_) (fun h49 => ?_)
        · refine g_iload_n Z dX7_container_62 rfl ?_
          refine g_iconst (v := 1) Z dX7_container_63 (by decide) ?_
          refine g_icmp_ne Z 77 dX7_container_64 (by decide) (fun h64 => ?_) (fun h64 => ?_)
          · refine g_iload_n Z dX7_container_77 rfl ?_
            refine g_iconst (v := 2) Z dX7_container_78 (by decide) ?_
            refine g_icmp_ne Z 92 dX7_container_79 (by decide) (fun h79 => ?_) (fun h79 => ?_)
            · refine g_aload_n Z dX7_container_92 rfl ?_
              refine g_iload Z dX7_container_93 rfl ?_
              refine g_cvI Z (c_X7_runsOf F.l F.D F.cy F.nw A x ho _ _ _ (by omega)) 1 gX7_container_X7_runsOf rfl (by decide +kernel) (by rw [hRf, hRl]; decide) (by exact mP_x) (κ := 6) (by exact mP_Kx) rfl (by decide) rfl rfl (Nat.le_of_ble_eq_true rfl) dX7_container_95 (by rw [hRc, hRs]; omega) (fun r4 T4 hp => ?_)
              obtain ⟨rfl, e3⟩ := hp
              exact g_iret Z dX7_container_98 (by omega) (by omega) ⟨rfl, Or.inl ⟨s, hs8, rfl, Or.inl ⟨k, hk, rfl, e3.trans ((congrArg nI ((rn_congr 65536 hcb).1.trans (rnT_eq _).symm)).trans (con_3 (by rcases hin with ⟨-, q, -, hq, e⟩ | ⟨e, -⟩; rcases (show q = 0 ∨ q = 1 ∨ q = 2 ∨ q = 3 by omega) with rfl | rfl | rfl | rfl; exact absurd e h49; exact absurd e h64; exact absurd e h79; exact e; exact absurd e h34)).symm)⟩⟩⟩
            · refine g_aload_n Z dX7_container_82 rfl ?_
              refine m_ref_sz Z in6 lk19 dX7_container_83 ?_
              refine g_iload Z dX7_container_86 rfl ?_
              refine m_ald_sz Z ho dX7_container_88 (by exact vp_in_nI (by omega) (by decide)) ?_
              rw [nI_clamp (by omega)]
              refine g_goto Z 98 dX7_container_89 (by decide) ?_
              exact g_iret Z dX7_container_98 (by omega) (by omega) ⟨rfl, Or.inl ⟨s, hs8, rfl, Or.inl ⟨k, hk, rfl, hsz.trans (con_2 h79).symm⟩⟩⟩
          · refine g_aload_n Z dX7_container_67 rfl ?_
            refine m_ref_kd Z in6 lk16 dX7_container_68 ?_
            refine g_iload Z dX7_container_71 rfl ?_
            refine m_ald_kd Z ho dX7_container_73 (by exact vp_in_nI (by omega) (by decide)) ?_
            rw [nI_clamp (by omega)]
            refine g_goto Z 98 dX7_container_74 (by decide) ?_
            exact g_iret Z dX7_container_98 (by omega) (by omega) ⟨rfl, Or.inl ⟨s, hs8, rfl, Or.inl ⟨k, hk, rfl, hkd.trans (con_1 h64).symm⟩⟩⟩
        · refine g_aload_n Z dX7_container_52 rfl ?_
          refine m_ref_ky Z in6 lk13 dX7_container_53 ?_
          refine g_iload Z dX7_container_56 rfl ?_
          refine m_ald_ky Z ho dX7_container_58 (by exact vp_in_nI (by omega) (by decide)) ?_
          rw [nI_clamp (by omega)]
          refine g_goto Z 98 dX7_container_59 (by decide) ?_
          exact g_iret Z dX7_container_98 (by omega) (by omega) ⟨rfl, Or.inl ⟨s, hs8, rfl, Or.inl ⟨k, hk, rfl, hky.trans (con_0 h49).symm⟩⟩⟩
      · refine g_bipush (v := (-2)) Z dX7_container_37 (by decide) ?_
        exact g_iret Z dX7_container_39 (by omega) (by omega) ⟨rfl, Or.inl ⟨s, hs8, rfl, Or.inl ⟨k, hk, rfl, (con_n (fun e => by rcases hin with ⟨q, -⟩ | ⟨-, q⟩; exact absurd (q.symm.trans h34) (by decide); exact q ⟨0, by decide, by decide, e⟩) (fun e => by rcases hin with ⟨q, -⟩ | ⟨-, q⟩; exact absurd (q.symm.trans h34) (by decide); exact q ⟨1, by decide, by decide, e⟩) (fun e => by rcases hin with ⟨q, -⟩ | ⟨-, q⟩; exact absurd (q.symm.trans h34) (by decide); exact q ⟨2, by decide, by decide, e⟩) (fun e => by rcases hin with ⟨q, -⟩ | ⟨-, q⟩; exact absurd (q.symm.trans h34) (by decide); exact q ⟨3, by decide, by decide, e⟩)).symm⟩⟩⟩
