/-- what the reference's questions need -/
def OkD (C : C5) : Prop := ∀ s, s < 8 → ∃ k, k ≤ 6 ∧ C.mn s = nI k
def InvD (C : C5) : Prop := OkD C ∧ ∀ s, s < 8 → Gd C s
theorem OkD.mnk {C : C5} (h : OkD C) {s : Nat} (hs : s < 8) : ∃ k, k ≤ 6 ∧ C.mn s = nI k := h s hs
theorem MV.inv {C : C5} {V : Nat → Sv} (h : MV C V) : InvD C := ⟨fun s hs => ⟨(V s).1, (h s hs).1, (h s hs).2.1⟩, fun s hs => ⟨(V s).1, (h s hs).1, (h s hs).2.1, fun i hi => ((h s hs).mc hi).gc⟩⟩

set_option maxRecDepth 100000 in
set_option maxHeartbeats 2000000 in
/-- how many numbers a set has -/
theorem s_X7_all (l : Launch) (D : va_G) (cy : Nat → ClassId) (nw : Nat) (A : Nat → Nat) (x : Nat) (ho : mOk A x) (C : C5) (R : MR) (hO : OkD C) (s : Nat) (hs : s < 8) : kI l yX7_all wsX7_all 0 0 D cy nw [.ref x, .int (nI s)] (mP A x (C, R)) (fun _ T => (mP A x (C, R)) = T) 0 0 := by
  refine enterI (cc := cX7_all) (nL := 4) (ret := (some .int)) (by decide +kernel) rfl (Nat.le_of_ble_eq_true rfl) ?_
  intro F Z hl hR hD hcy hnw hnm
  subst hl hD hcy hnw
  have hRf : F.R.frames = 0 := by rw [hR]
  have hRc : F.R.cells = 0 := by rw [hR]
  have hRs : F.R.slots = 0 := by rw [hR]
  have hRl : F.R.locals = 0 := by rw [hR]
  have in6 : ∀ w ∈ u_ws RX7 TX7 16, w ∈ wsX7_all := by decide +kernel
  have lk7 : Cond.fieldLink RX7 7 (TX7 0).1 (TX7 0).2.1 (TX7 0).2.2.1 ∈ wsX7_all := by decide +kernel
  have lk19 : Cond.fieldLink RX7 19 (TX7 3).1 (TX7 3).2.1 (TX7 3).2.2.1 ∈ wsX7_all := by decide +kernel
  obtain ⟨n0, hn0, en0⟩ := hO.mnk hs
  have loop : ∀ (n : Nat) (k : Nat) (y : Int32), n0 - k < n → (k ≤ n0) → G F 4 (mP A x (C, R)) 0 0 (QI F (fun _ T => (mP A x (C, R)) = T) 0 0) 4 [(0, .ref x), (1, .int (nI s)), (2, .int y), (3, .int (nI k))] [] := by
    intro n
    induction n with
    | zero => intros; omega
    | succ n ih =>
      intro k y hn hk
      refine g_iload_n Z dX7_all_4 rfl ?_
      refine g_aload_n Z dX7_all_5 rfl ?_
      refine m_ref_mn Z in6 lk7 dX7_all_6 ?_
      refine g_iload_n Z dX7_all_9 rfl ?_
      refine m_ald_mn Z ho dX7_all_10 (by exact vp_in_nI (by omega) (by decide)) ?_
      rw [nI_clamp (by omega), en0]
      refine g_icmp_ge Z 34 dX7_all_11 (by decide) (fun h11 => ?_) (fun h11 => ?_)
      · refine g_iload_n Z dX7_all_34 rfl ?_
        exact g_iret Z dX7_all_35 (by omega) (by omega) (rfl)
      · have hlt : k < n0 := ge_f (by omega) (by omega) h11
        refine g_iload_n Z dX7_all_14 rfl ?_
        refine g_aload_n Z dX7_all_15 rfl ?_
        refine m_ref_sz Z in6 lk19 dX7_all_16 ?_
        refine g_bipush (v := 6) Z dX7_all_19 (by decide) ?_
        refine g_iload_n Z dX7_all_21 rfl ?_
        refine g_imul Z dX7_all_22 ?_
        refine g_iload_n Z dX7_all_23 rfl ?_
        refine g_iadd Z dX7_all_24 ?_
        rw [ix6]
        refine m_ald_sz Z ho dX7_all_25 (by exact vp_in_nI (by omega) (by decide)) ?_
        rw [nI_clamp (by omega)]
        refine g_iadd Z dX7_all_26 ?_
        refine g_istore_n Z dX7_all_27 (by decide) ?_
        refine g_iinc (c := 1) Z dX7_all_28 rfl (by decide) (by decide) ?_
        rw [nI_1]
        refine g_goto Z 4 dX7_all_31 (by decide) ?_
        exact g_lv (by (repeat (first | exact trivial | refine And.intro rfl ?_)); done) (ih (k + 1) _ (by omega) (by omega))
  refine g_iconst (v := 0) Z dX7_all_0 (by decide) ?_
  refine g_istore_n Z dX7_all_1 (by decide) ?_
  refine g_iconst (v := 0) Z dX7_all_2 (by decide) ?_
  refine g_istore_n Z dX7_all_3 (by decide) ?_
  exact g_lv (by (repeat (first | exact trivial | refine And.intro rfl ?_)); done) (loop (n0 + 1) 0 _ (by omega) (by omega))

set_option maxRecDepth 100000 in
set_option maxHeartbeats 2000000 in
/-- whether a number is in -/
theorem s_X7_has (l : Launch) (D : va_G) (cy : Nat → ClassId) (nw : Nat) (A : Nat → Nat) (x : Nat) (ho : mOk A x) (C : C5) (R : MR) (hI : InvD C) (a v : Int32) : kI l yX7_has wsX7_has 2 45 D cy nw [.ref x, .int a, .int v] (mP A x (C, R)) (fun _ T => (mP A x (C, R)) = T) 0 0 := by
  refine enterI (cc := cX7_has) (nL := 4) (ret := (some .int)) (by decide +kernel) rfl (Nat.le_of_ble_eq_true rfl) ?_
  intro F Z hl hR hD hcy hnw hnm
  subst hl hD hcy hnw
  have hRf : F.R.frames = 2 := by rw [hR]
  have hRc : F.R.cells = 0 := by rw [hR]
  have hRs : F.R.slots = 0 := by rw [hR]
  have hRl : F.R.locals = 45 := by rw [hR]
  have in6 : ∀ w ∈ u_ws RX7 TX7 16, w ∈ wsX7_has := by decide +kernel
  have ct74 : Cond.constant RX7 74 (65535) ∈ wsX7_has := by decide +kernel
  obtain ⟨key, hkey, ekey⟩ := key16 v
  obtain ⟨b, hb, eb⟩ := low16 v
  refine g_iload_n Z dX7_has_0 rfl ?_
  refine g_csI Z (c_X7_isSet F.l F.D F.cy F.nw _ _) 1 gX7_has_X7_isSet rfl (by decide +kernel) (by rw [hRf, hRl]; decide) rfl rfl (Nat.le_of_ble_eq_true rfl) dX7_has_1 (by rw [hRc, hRs]; omega) (fun r T hp => ?_)
  obtain ⟨rfl, his⟩ := hp
  refine g_if_ne Z 10 dX7_has_4 (by decide) (fun h4 => ?_) (fun h4 => ?_)
  · obtain ⟨s, hs, rfl⟩ := his.is h4
    obtain ⟨n0, hn0, en, hg⟩ := hI.2 s (by omega)
    refine g_aload_n Z dX7_has_10 rfl ?_
    refine g_iload_n Z dX7_has_11 rfl ?_
    refine g_iload_n Z dX7_has_12 rfl ?_
    refine g_bipush (v := 16) Z dX7_has_13 (by decide) ?_
    refine g_iushr Z dX7_has_15 ?_
    refine g_cvI Z (c_X7_containerOf F.l F.D F.cy F.nw A x ho _ _ s (by omega) n0 hn0 en _) 2 gX7_has_X7_containerOf rfl (by decide +kernel) (by rw [hRf, hRl]; decide) (by exact mP_x) (κ := 6) (by exact mP_Kx) rfl (by decide) rfl rfl (Nat.le_of_ble_eq_true rfl) dX7_has_16 (by rw [hRc, hRs]; omega) (fun r T1 hp => ?_)
    obtain ⟨rfl, hr⟩ := hp
    refine g_istore_n Z dX7_has_19 (by decide) ?_
    refine g_iload_n Z dX7_has_20 rfl ?_
    refine g_iconst (v := (-1)) Z dX7_has_21 (by decide) ?_
    refine g_icmp_eq Z 41 dX7_has_22 (by decide) (fun h22 => ?_) (fun h22 => ?_)
    · refine g_iconst (v := 0) Z dX7_has_41 (by decide) ?_
      exact g_iret Z dX7_has_42 (by omega) (by omega) (rfl)
    · obtain ⟨j, hj, rfl⟩ : ∃ j, j < n0 ∧ r = nI (6 * s + j) := by rcases hr with e | e; exact absurd e h22; exact e
      refine g_aload_n Z dX7_has_25 rfl ?_
      refine g_iload_n Z dX7_has_26 rfl ?_
      refine g_iload_n Z dX7_has_27 rfl ?_
      refine g_ldc (v := 65535) Z dX7_has_28 ct74 ?_
      refine g_iand Z dX7_has_30 ?_
      rw [eb]
      refine g_cvI Z (c_X7_hasLow F.l F.D F.cy F.nw A x ho _ _ _ _ (by omega) hb) 2 gX7_has_X7_hasLow rfl (by decide +kernel) (by rw [hRf, hRl]; decide) (by exact mP_x) (κ := 6) (by exact mP_Kx) rfl (by decide) rfl rfl (Nat.le_of_ble_eq_true rfl) dX7_has_31 (by rw [hRc, hRs]; omega) (fun r2 T2 hp => ?_)
      obtain ⟨rfl, -⟩ := hp
      refine g_if_eq Z 41 dX7_has_34 (by decide) (fun h34 => ?_) (fun h34 => ?_)
      · refine g_iconst (v := 0) Z dX7_has_41 (by decide) ?_
        exact g_iret Z dX7_has_42 (by omega) (by omega) (rfl)
      · refine g_iconst (v := 1) Z dX7_has_37 (by decide) ?_
        refine g_goto Z 42 dX7_has_38 (by decide) ?_
        exact g_iret Z dX7_has_42 (by omega) (by omega) (rfl)
  · refine g_bipush (v := (-2)) Z dX7_has_7 (by decide) ?_
    exact g_iret Z dX7_has_9 (by omega) (by omega) (rfl)

set_option maxRecDepth 100000 in
set_option maxHeartbeats 2000000 in
/-- how many are up to a number -/
theorem s_X7_rank (l : Launch) (D : va_G) (cy : Nat → ClassId) (nw : Nat) (A : Nat → Nat) (x : Nat) (ho : mOk A x) (C : C5) (R : MR) (hI : InvD C) (a v : Int32) : kI l yX7_rank wsX7_rank 2 45 D cy nw [.ref x, .int a, .int v] (mP A x (C, R)) (fun _ T => (mP A x (C, R)) = T) 0 0 := by
  refine enterI (cc := cX7_rank) (nL := 9) (ret := (some .int)) (by decide +kernel) rfl (Nat.le_of_ble_eq_true rfl) ?_
  intro F Z hl hR hD hcy hnw hnm
  subst hl hD hcy hnw
  have hRf : F.R.frames = 2 := by rw [hR]
  have hRc : F.R.cells = 0 := by rw [hR]
  have hRs : F.R.slots = 0 := by rw [hR]
  have hRl : F.R.locals = 45 := by rw [hR]
  have in6 : ∀ w ∈ u_ws RX7 TX7 16, w ∈ wsX7_rank := by decide +kernel
  have lk7 : Cond.fieldLink RX7 7 (TX7 0).1 (TX7 0).2.1 (TX7 0).2.2.1 ∈ wsX7_rank := by decide +kernel
  have lk13 : Cond.fieldLink RX7 13 (TX7 1).1 (TX7 1).2.1 (TX7 1).2.2.1 ∈ wsX7_rank := by decide +kernel
  have lk19 : Cond.fieldLink RX7 19 (TX7 3).1 (TX7 3).2.1 (TX7 3).2.2.1 ∈ wsX7_rank := by decide +kernel
  have lk23 : Cond.fieldLink RX7 23 (TX7 4).1 (TX7 4).2.1 (TX7 4).2.2.1 ∈ wsX7_rank := by decide +kernel
  have ct74 : Cond.constant RX7 74 (65535) ∈ wsX7_rank := by decide +kernel
  obtain ⟨b, hb, eb⟩ := low16 v
  have loop : ∀ (n s n0 : Nat), s < 8 → n0 ≤ 6 → C.mn s = nI n0 → ∀ (k : Nat) (y ky : Int32), n0 - k < n → k ≤ n0 → G F 9 (mP A x (C, R)) 0 0 (QI F (fun _ T => (mP A x (C, R)) = T) 0 0) 27 [(0, .ref x), (1, .int (nI s)), (3, .int y), (4, .int ky), (5, .int (nI b)), (6, .int (nI k))] [] := by
    intro n s n0 hs hn0 en
    induction n with
    | zero => intros; omega
    | succ n ih =>
      intro k y0 ky hn hk
      have nx : ∀ (y : Int32), k < n0 → G F 9 (mP A x (C, R)) 0 0 (QI F (fun _ T => (mP A x (C, R)) = T) 0 0) 165 [(0, .ref x), (1, .int (nI s)), (3, .int y), (4, .int ky), (5, .int (nI b)), (6, .int (nI k))] [] := by
        intro y hlt
        refine g_iinc (c := 1) Z dX7_rank_165 rfl (by decide) (by decide) ?_
        rw [nI_1]
        refine g_goto Z 27 dX7_rank_168 (by decide) ?_
        exact g_lv (by (repeat (first | exact trivial | refine And.intro rfl ?_)); done) (ih (k + 1) y ky (by omega) (by omega))
      have lp2 : ∀ (i q : Nat) (y : Int32), 65536 - q < i → k < n0 → q ≤ 65536 → G F 9 (mP A x (C, R)) 0 0 (QI F (fun _ T => (mP A x (C, R)) = T) 0 0) 133 [(0, .ref x), (1, .int (nI s)), (3, .int y), (4, .int ky), (5, .int (nI b)), (6, .int (nI k)), (7, .int (nI (6 * s + k))), (8, .int (nI q))] [] := by
        intro i
        induction i with
        | zero => intros; omega
        | succ i ih2 =>
          intro q y hi hlt hq
          have j157 : ∀ (u z : Int32), q ≤ b → G F 9 (mP A x (C, R)) 0 0 (QI F (fun _ T => (mP A x (C, R)) = T) 0 0) 157 [(0, .ref x), (1, .int (nI s)), (3, .int y), (4, .int ky), (5, .int (nI b)), (6, .int (nI k)), (7, .int (nI (6 * s + k))), (8, .int (nI q))] [.int u, .int z] := by
            intro u z hqb
            refine g_iadd Z dX7_rank_157 ?_
            refine g_istore_n Z dX7_rank_158 (by decide) ?_
            refine g_iinc (c := 1) Z dX7_rank_159 rfl (by decide) (by decide) ?_
            rw [nI_1]
            refine g_goto Z 133 dX7_rank_162 (by decide) ?_
            exact g_lv (by (repeat (first | exact trivial | refine And.intro rfl ?_)); done) (ih2 (q + 1) _ (by omega) hlt (by omega))
          refine g_iload Z dX7_rank_133 rfl ?_
          refine g_iload Z dX7_rank_135 rfl ?_
          refine g_icmp_gt Z 165 dX7_rank_137 (by decide) (fun h137 => ?_) (fun h137 => ?_)
          · exact g_lv (by (repeat (first | exact trivial | refine And.intro rfl ?_)); done) (nx _ hlt)
          · have hqb : q ≤ b := gt_f (by omega) (by omega) h137
            refine g_iload_n Z dX7_rank_140 rfl ?_
            refine g_aload_n Z dX7_rank_141 rfl ?_
            refine g_iload Z dX7_rank_142 rfl ?_
            refine g_iload Z dX7_rank_144 rfl ?_
            refine g_cvI Z (c_X7_hasLow F.l F.D F.cy F.nw A x ho _ _ _ _ (by omega) (by omega)) 2 gX7_rank_X7_hasLow rfl (by decide +kernel) (by rw [hRf, hRl]; decide) (by exact mP_x) (κ := 6) (by exact mP_Kx) rfl (by decide) rfl rfl (Nat.le_of_ble_eq_true rfl) dX7_rank_146 (by rw [hRc, hRs]; omega) (fun r T hp => ?_)
            obtain ⟨rfl, -⟩ := hp
            refine g_if_eq Z 156 dX7_rank_149 (by decide) (fun h149 => ?_) (fun h149 => ?_)
            · refine g_iconst (v := 0) Z dX7_rank_156 (by decide) ?_
              exact g_lv (by (repeat (first | exact trivial | refine And.intro rfl ?_)); done) (j157 _ _ hqb)
            · refine g_iconst (v := 1) Z dX7_rank_152 (by decide) ?_
              refine g_goto Z 157 dX7_rank_153 (by decide) ?_
              exact g_lv (by (repeat (first | exact trivial | refine And.intro rfl ?_)); done) (j157 _ _ hqb)
      have lp1 : ∀ (i q : Nat) (y : Int32), 1024 - q < i → k < n0 → q ≤ 1024 → G F 9 (mP A x (C, R)) 0 0 (QI F (fun _ T => (mP A x (C, R)) = T) 0 0) 87 [(0, .ref x), (1, .int (nI s)), (3, .int y), (4, .int ky), (5, .int (nI b)), (6, .int (nI k)), (7, .int (nI (6 * s + k))), (8, .int (nI q))] [] := by
        intro i
        induction i with
        | zero => intros; omega
        | succ i ih2 =>
          intro q y hi hlt hq
          refine g_iload Z dX7_rank_87 rfl ?_
          refine g_iload Z dX7_rank_89 rfl ?_
          refine g_bipush (v := 64) Z dX7_rank_91 (by decide) ?_
          refine g_idiv Z dX7_rank_93 (by decide) ?_
          rw [d64 (by omega)]
          refine g_icmp_ge Z 123 dX7_rank_94 (by decide) (fun h94 => ?_) (fun h94 => ?_)
          · refine g_iload Z dX7_rank_123 rfl ?_
            refine g_bipush (v := 64) Z dX7_rank_125 (by decide) ?_
            refine g_idiv Z dX7_rank_127 (by decide) ?_
            rw [d64 (by omega)]
            refine g_bipush (v := 64) Z dX7_rank_128 (by decide) ?_
            refine g_imul Z dX7_rank_130 ?_
            rw [show nI (b / 64) * 64 = nI (b / 64 * 64) from pk_mul _ 64]
            refine g_istore Z dX7_rank_131 (by decide) ?_
            exact g_lv (by (repeat (first | exact trivial | refine And.intro rfl ?_)); done) (lp2 65537 (b / 64 * 64) _ (by omega) hlt (by omega))
          · have hqb : q < b / 64 := ge_f (by omega) (by omega) h94
            refine g_iload_n Z dX7_rank_97 rfl ?_
            refine g_aload_n Z dX7_rank_98 rfl ?_
            refine m_ref_wd Z in6 lk23 dX7_rank_99 ?_
            refine g_sipush (v := 1024) Z dX7_rank_102 (by decide) ?_
            refine g_iload Z dX7_rank_105 rfl ?_
            refine g_imul Z dX7_rank_107 ?_
            refine g_iload Z dX7_rank_108 rfl ?_
            refine g_iadd Z dX7_rank_110 ?_
            rw [ixw]
            refine m_ald_wd Z ho dX7_rank_111 (by exact vp_in_nI (by omega) (by decide)) ?_
            rw [nI_clamp (by omega)]
            refine g_csI Z (c_X7_bitsOf F.l F.D F.cy F.nw _ _) 1 gX7_rank_X7_bitsOf rfl (by decide +kernel) (by rw [hRf, hRl]; decide) rfl rfl (Nat.le_of_ble_eq_true rfl) dX7_rank_112 (by rw [hRc, hRs]; omega) (fun r T hp => ?_)
            obtain ⟨rfl, -⟩ := hp
            refine g_iadd Z dX7_rank_115 ?_
            refine g_istore_n Z dX7_rank_116 (by decide) ?_
            refine g_iinc (c := 1) Z dX7_rank_117 rfl (by decide) (by decide) ?_
            rw [nI_1]
            refine g_goto Z 87 dX7_rank_120 (by decide) ?_
            exact g_lv (by (repeat (first | exact trivial | refine And.intro rfl ?_)); done) (ih2 (q + 1) _ (by omega) hlt (by omega))
      refine g_iload Z dX7_rank_27 rfl ?_
      refine g_aload_n Z dX7_rank_29 rfl ?_
      refine m_ref_mn Z in6 lk7 dX7_rank_30 ?_
      refine g_iload_n Z dX7_rank_33 rfl ?_
      refine m_ald_mn Z ho dX7_rank_34 (by exact vp_in_nI (by omega) (by decide)) ?_
      rw [nI_clamp (by omega), en]
      refine g_icmp_ge Z 171 dX7_rank_35 (by decide) (fun h35 => ?_) (fun h35 => ?_)
      · refine g_iload_n Z dX7_rank_171 rfl ?_
        exact g_iret Z dX7_rank_172 (by omega) (by omega) (rfl)
      · have hlt : k < n0 := ge_f (by omega) (by omega) h35
        refine g_bipush (v := 6) Z dX7_rank_38 (by decide) ?_
        refine g_iload_n Z dX7_rank_40 rfl ?_
        refine g_imul Z dX7_rank_41 ?_
        refine g_iload Z dX7_rank_42 rfl ?_
        refine g_iadd Z dX7_rank_44 ?_
        rw [ix6]
        refine g_istore Z dX7_rank_45 (by decide) ?_
        refine g_aload_n Z dX7_rank_47 rfl ?_
        refine m_ref_ky Z in6 lk13 dX7_rank_48 ?_
        refine g_iload Z dX7_rank_51 rfl ?_
        refine m_ald_ky Z ho dX7_rank_53 (by exact vp_in_nI (by omega) (by decide)) ?_
        rw [nI_clamp (by omega)]
        refine g_iload Z dX7_rank_54 rfl ?_
        refine g_icmp_ge Z 72 dX7_rank_56 (by decide) (fun h56 => ?_) (fun h56 => ?_)
        · refine g_aload_n Z dX7_rank_72 rfl ?_
          refine m_ref_ky Z in6 lk13 dX7_rank_73 ?_
          refine g_iload Z dX7_rank_76 rfl ?_
          refine m_ald_ky Z ho dX7_rank_78 (by exact vp_in_nI (by omega) (by decide)) ?_
          rw [nI_clamp (by omega)]
          refine g_iload Z dX7_rank_79 rfl ?_
          refine g_icmp_ne Z 165 dX7_rank_81 (by decide) (fun h81 => ?_) (fun h81 => ?_)
          · exact g_lv (by (repeat (first | exact trivial | refine And.intro rfl ?_)); done) (nx _ hlt)
          · refine g_iconst (v := 0) Z dX7_rank_84 (by decide) ?_
            refine g_istore Z dX7_rank_85 (by decide) ?_
            exact g_lv (by (repeat (first | exact trivial | refine And.intro rfl ?_)); done) (lp1 1025 0 _ (by omega) hlt (by omega))
        · refine g_iload_n Z dX7_rank_59 rfl ?_
          refine g_aload_n Z dX7_rank_60 rfl ?_
          refine m_ref_sz Z in6 lk19 dX7_rank_61 ?_
          refine g_iload Z dX7_rank_64 rfl ?_
          refine m_ald_sz Z ho dX7_rank_66 (by exact vp_in_nI (by omega) (by decide)) ?_
          rw [nI_clamp (by omega)]
          refine g_iadd Z dX7_rank_67 ?_
          refine g_istore_n Z dX7_rank_68 (by decide) ?_
          refine g_goto Z 165 dX7_rank_69 (by decide) ?_
          exact g_lv (by (repeat (first | exact trivial | refine And.intro rfl ?_)); done) (nx _ hlt)
  refine g_iload_n Z dX7_rank_0 rfl ?_
  refine g_csI Z (c_X7_isSet F.l F.D F.cy F.nw _ _) 1 gX7_rank_X7_isSet rfl (by decide +kernel) (by rw [hRf, hRl]; decide) rfl rfl (Nat.le_of_ble_eq_true rfl) dX7_rank_1 (by rw [hRc, hRs]; omega) (fun r T hp => ?_)
  obtain ⟨rfl, his⟩ := hp
  refine g_if_ne Z 10 dX7_rank_4 (by decide) (fun h4 => ?_) (fun h4 => ?_)
  · obtain ⟨s, hs, rfl⟩ := his.is h4
    obtain ⟨n0, hn0, en, hg⟩ := hI.2 s (by omega)
    refine g_iconst (v := 0) Z dX7_rank_10 (by decide) ?_
    refine g_istore_n Z dX7_rank_11 (by decide) ?_
    refine g_iload_n Z dX7_rank_12 rfl ?_
    refine g_bipush (v := 16) Z dX7_rank_13 (by decide) ?_
    refine g_iushr Z dX7_rank_15 ?_
    refine g_istore Z dX7_rank_16 (by decide) ?_
    refine g_iload_n Z dX7_rank_18 rfl ?_
    refine g_ldc (v := 65535) Z dX7_rank_19 ct74 ?_
    refine g_iand Z dX7_rank_21 ?_
    rw [eb]
    refine g_istore Z dX7_rank_22 (by decide) ?_
    refine g_iconst (v := 0) Z dX7_rank_24 (by decide) ?_
    refine g_istore Z dX7_rank_25 (by decide) ?_
    exact g_lv (by (repeat (first | exact trivial | refine And.intro rfl ?_)); done) (loop (n0 + 1) s n0 (by omega) hn0 en 0 _ _ (by omega) (by omega))
  · refine g_bipush (v := (-2)) Z dX7_rank_7 (by decide) ?_
    exact g_iret Z dX7_rank_9 (by omega) (by omega) (rfl)

set_option maxRecDepth 100000 in
set_option maxHeartbeats 2000000 in
/-- the number at a rank -/
theorem s_X7_select (l : Launch) (D : va_G) (cy : Nat → ClassId) (nw : Nat) (A : Nat → Nat) (x : Nat) (ho : mOk A x) (C : C5) (R : MR) (hI : InvD C) (a v : Int32) : kL l yX7_select wsX7_select 2 45 D cy nw [.ref x, .int a, .int v] (mP A x (C, R)) (fun _ T => (mP A x (C, R)) = T) 0 0 := by
  refine enterL (cc := cX7_select) (nL := 8) (ret := (some .long)) (by decide +kernel) rfl (Nat.le_of_ble_eq_true rfl) ?_
  intro F Z hl hR hD hcy hnw hnm
  subst hl hD hcy hnw
  have hRf : F.R.frames = 2 := by rw [hR]
  have hRc : F.R.cells = 0 := by rw [hR]
  have hRs : F.R.slots = 0 := by rw [hR]
  have hRl : F.R.locals = 45 := by rw [hR]
  have in6 : ∀ w ∈ u_ws RX7 TX7 16, w ∈ wsX7_select := by decide +kernel
  have lk7 : Cond.fieldLink RX7 7 (TX7 0).1 (TX7 0).2.1 (TX7 0).2.2.1 ∈ wsX7_select := by decide +kernel
  have lk19 : Cond.fieldLink RX7 19 (TX7 3).1 (TX7 3).2.1 (TX7 3).2.2.1 ∈ wsX7_select := by decide +kernel
  have lk23 : Cond.fieldLink RX7 23 (TX7 4).1 (TX7 4).2.1 (TX7 4).2.2.1 ∈ wsX7_select := by decide +kernel
  have ct52 : Cond.constantLong RX7 52 (-1) ∈ wsX7_select := by decide +kernel
  have ct142 : Cond.constantLong RX7 142 (-2) ∈ wsX7_select := by decide +kernel
  have bits : ∀ (n c w : Nat), c < 102 → w < 1024 → ∀ (q lf : Nat), 64 * w + 64 - q < n → lf < 2 ^ 31 → ct C.wd c q + lf < ct C.wd c (64 * (w + 1)) → G F 8 (mP A x (C, R)) 0 0 (QL F (fun _ T => (mP A x (C, R)) = T) 0 0) 112 [(0, .ref x), (3, .int (nI lf)), (5, .int (nI c)), (7, .int (nI q))] [] := by
    intro n c w hc hw
    induction n with
    | zero => intro q lf hn hl h; exact absurd (ct_mono' C.wd c (show 64 * (w + 1) ≤ q by omega)) (by omega)
    | succ n ih =>
      intro q lf hn hl h
      have hq : q < 64 * w + 64 := Decidable.byContradiction (fun z => absurd (ct_mono' C.wd c (show 64 * (w + 1) ≤ q by omega)) (by omega))
      have hs : ct C.wd c (q + 1) = ct C.wd c q + cb C.wd c q := rfl
      have j127 : (1 ≤ lf ∨ cb C.wd c q = 0) → G F 8 (mP A x (C, R)) 0 0 (QL F (fun _ T => (mP A x (C, R)) = T) 0 0) 127 [(0, .ref x), (3, .int (nI lf)), (5, .int (nI c)), (7, .int (nI q))] [] := by
        intro hor
        refine g_iload_n Z dX7_select_127 rfl ?_
        refine g_aload_n Z dX7_select_128 rfl ?_
        refine g_iload Z dX7_select_129 rfl ?_
        refine g_iload Z dX7_select_131 rfl ?_
        refine g_cvI Z (c_X7_hasLow F.l F.D F.cy F.nw A x ho _ _ _ _ (by omega) (by omega)) 2 gX7_select_X7_hasLow rfl (by decide +kernel) (by rw [hRf, hRl]; decide) (by exact mP_x) (κ := 6) (by exact mP_Kx) rfl (by decide) rfl rfl (Nat.le_of_ble_eq_true rfl) dX7_select_133 (by rw [hRc, hRs]; omega) (fun r T hp => ?_)
        obtain ⟨rfl, rfl⟩ := hp
        refine g_if_eq Z 143 dX7_select_136 (by decide) (fun h136 => ?_) (fun h136 => ?_)
        · have e0 := cb0 h136
          refine g_iconst (v := 0) Z dX7_select_143 (by decide) ?_
          refine g_isub Z dX7_select_144 ?_
          rw [show nI lf - 0 = nI (lf - 0) from pk_sub (b := 0) (by omega)]
          refine g_istore_n Z dX7_select_145 (by decide) ?_
          refine g_iinc (c := 1) Z dX7_select_146 rfl (by decide) (by decide) ?_
          rw [nI_1]
          refine g_goto Z 112 dX7_select_149 (by decide) ?_
          exact g_lv (by (repeat (first | exact trivial | refine And.intro rfl ?_)); done) (ih (q + 1) (lf - 0) (by omega) (by omega) (by omega))
        · have e1 := cb1 h136
          refine g_iconst (v := 1) Z dX7_select_139 (by decide) ?_
          refine g_goto Z 144 dX7_select_140 (by decide) ?_
          refine g_isub Z dX7_select_144 ?_
          rw [show nI lf - 1 = nI (lf - 1) from pk_sub (b := 1) (by omega)]
          refine g_istore_n Z dX7_select_145 (by decide) ?_
          refine g_iinc (c := 1) Z dX7_select_146 rfl (by decide) (by decide) ?_
          rw [nI_1]
          refine g_goto Z 112 dX7_select_149 (by decide) ?_
          exact g_lv (by (repeat (first | exact trivial | refine And.intro rfl ?_)); done) (ih (q + 1) (lf - 1) (by omega) (by omega) (by omega))
      refine g_iload_n Z dX7_select_112 rfl ?_
      refine g_if_gt Z 127 dX7_select_113 (by decide) (fun h113 => ?_) (fun h113 => ?_)
      · have h1 : 1 ≤ lf := Nat.pos_of_ne_zero (fun e => absurd h113 (by rw [e]; decide))
        first | exact g_lv (by (repeat (first | exact trivial | refine And.intro rfl ?_)); done) (j127 (Or.inl h1)) | exact g_lv (by (repeat (first | exact trivial | refine And.intro rfl ?_)); done) (j127 (Or.inr e0))
      · refine g_aload_n Z dX7_select_116 rfl ?_
        refine g_iload Z dX7_select_117 rfl ?_
        refine g_iload Z dX7_select_119 rfl ?_
        refine g_cvI Z (c_X7_hasLow F.l F.D F.cy F.nw A x ho _ _ _ _ (by omega) (by omega)) 2 gX7_select_X7_hasLow rfl (by decide +kernel) (by rw [hRf, hRl]; decide) (by exact mP_x) (κ := 6) (by exact mP_Kx) rfl (by decide) rfl rfl (Nat.le_of_ble_eq_true rfl) dX7_select_121 (by rw [hRc, hRs]; omega) (fun r T hp => ?_)
        obtain ⟨rfl, rfl⟩ := hp
        refine g_if_ne Z 152 dX7_select_124 (by decide) (fun h124 => ?_) (fun h124 => ?_)
        · refine g_aload_n Z dX7_select_152 rfl ?_
          refine g_iload Z dX7_select_153 rfl ?_
          refine g_iload Z dX7_select_155 rfl ?_
          refine g_cvL Z (c_X7_numberOf F.l F.D F.cy F.nw A x ho _ _ _ (by omega) _) 2 gX7_select_X7_numberOf rfl (by decide +kernel) (by rw [hRf, hRl]; decide) (by exact mP_x) (κ := 6) (by exact mP_Kx) rfl (by decide) rfl rfl (Nat.le_of_ble_eq_true rfl) dX7_select_157 (by rw [hRc, hRs]; omega) (fun r T hp => ?_)
          subst hp
          exact g_lret Z dX7_select_160 (by omega) (by omega) (rfl)
        · have e0 := cb0 h124
          first | exact g_lv (by (repeat (first | exact trivial | refine And.intro rfl ?_)); done) (j127 (Or.inl h1)) | exact g_lv (by (repeat (first | exact trivial | refine And.intro rfl ?_)); done) (j127 (Or.inr e0))
  have wds : ∀ (n c : Nat), c < 102 → ∀ (w lf : Nat), 1024 - w < n → w ≤ 1024 → lf < 2 ^ 31 → ct C.wd c (64 * w) + lf < ct C.wd c 65536 → G F 8 (mP A x (C, R)) 0 0 (QL F (fun _ T => (mP A x (C, R)) = T) 0 0) 58 [(0, .ref x), (3, .int (nI lf)), (5, .int (nI c)), (6, .int (nI w))] [] := by
    intro n c hc
    induction n with
    | zero => intros; omega
    | succ n ih =>
      intro w lf hn hw hl h
      have hlt := lt1024 hw h
      have hx := ct_next C.wd c w
      have hp64 := pc_le (C.wd (1024 * c + w))
      refine g_iload_n Z dX7_select_58 rfl ?_
      refine g_aload_n Z dX7_select_59 rfl ?_
      refine m_ref_wd Z in6 lk23 dX7_select_60 ?_
      refine g_sipush (v := 1024) Z dX7_select_63 (by decide) ?_
      refine g_iload Z dX7_select_66 rfl ?_
      refine g_imul Z dX7_select_68 ?_
      refine g_iload Z dX7_select_69 rfl ?_
      refine g_iadd Z dX7_select_71 ?_
      rw [ixw]
      refine m_ald_wd Z ho dX7_select_72 (by exact vp_in_nI (by omega) (by decide)) ?_
      rw [nI_clamp (by omega)]
      refine g_csI Z (c_X7_bitsOf F.l F.D F.cy F.nw _ _) 1 gX7_select_X7_bitsOf rfl (by decide +kernel) (by rw [hRf, hRl]; decide) rfl rfl (Nat.le_of_ble_eq_true rfl) dX7_select_73 (by rw [hRc, hRs]; omega) (fun r1 T1 hp => ?_)
      obtain ⟨rfl, rfl⟩ := hp
      refine g_icmp_lt Z 105 dX7_select_76 (by decide) (fun h76 => ?_) (fun h76 => ?_)
      · have hb : lf < pc (C.wd (1024 * c + w)) := lt_t (by omega) (by omega) h76
        refine g_bipush (v := 64) Z dX7_select_105 (by decide) ?_
        refine g_iload Z dX7_select_107 rfl ?_
        refine g_imul Z dX7_select_109 ?_
        rw [show (64 : Int32) * nI w = nI (64 * w) from pk_mul 64 w]
        refine g_istore Z dX7_select_110 (by decide) ?_
        exact g_lv (by (repeat (first | exact trivial | refine And.intro rfl ?_)); done) (bits 65 c w hc hlt (64 * w) lf (by omega) hl (by omega))
      · have hb : pc (C.wd (1024 * c + w)) ≤ lf := lt_f (by omega) (by omega) h76
        refine g_iload_n Z dX7_select_79 rfl ?_
        refine g_aload_n Z dX7_select_80 rfl ?_
        refine m_ref_wd Z in6 lk23 dX7_select_81 ?_
        refine g_sipush (v := 1024) Z dX7_select_84 (by decide) ?_
        refine g_iload Z dX7_select_87 rfl ?_
        refine g_imul Z dX7_select_89 ?_
        refine g_iload Z dX7_select_90 rfl ?_
        refine g_iadd Z dX7_select_92 ?_
        rw [ixw]
        refine m_ald_wd Z ho dX7_select_93 (by exact vp_in_nI (by omega) (by decide)) ?_
        rw [nI_clamp (by omega)]
        refine g_csI Z (c_X7_bitsOf F.l F.D F.cy F.nw _ _) 1 gX7_select_X7_bitsOf rfl (by decide +kernel) (by rw [hRf, hRl]; decide) rfl rfl (Nat.le_of_ble_eq_true rfl) dX7_select_94 (by rw [hRc, hRs]; omega) (fun r2 T2 hp => ?_)
        obtain ⟨rfl, rfl⟩ := hp
        refine g_isub Z dX7_select_97 ?_
        rw [pk_sub hb]
        refine g_istore_n Z dX7_select_98 (by decide) ?_
        refine g_iinc (c := 1) Z dX7_select_99 rfl (by decide) (by decide) ?_
        rw [nI_1]
        refine g_goto Z 58 dX7_select_102 (by decide) ?_
        exact g_lv (by (repeat (first | exact trivial | refine And.intro rfl ?_)); done) (ih (w + 1) _ (by omega) (by omega) (by omega) (by omega))
  have loop : ∀ (n s n0 : Nat), s < 8 → n0 ≤ 6 → C.mn s = nI n0 → (∀ i, i < n0 → gc C (6 * s + i)) → ∀ (k lf : Nat), n0 - k < n → k ≤ n0 → lf < 2 ^ 31 → G F 8 (mP A x (C, R)) 0 0 (QL F (fun _ T => (mP A x (C, R)) = T) 0 0) 24 [(0, .ref x), (1, .int (nI s)), (3, .int (nI lf)), (4, .int (nI k))] [] := by
    intro n s n0 hs hn0 en hg
    induction n with
    | zero => intros; omega
    | succ n ih =>
      intro k lf hn hk hl
      refine g_iload Z dX7_select_24 rfl ?_
      refine g_aload_n Z dX7_select_26 rfl ?_
      refine m_ref_mn Z in6 lk7 dX7_select_27 ?_
      refine g_iload_n Z dX7_select_30 rfl ?_
      refine m_ald_mn Z ho dX7_select_31 (by exact vp_in_nI (by omega) (by decide)) ?_
      rw [nI_clamp (by omega), en]
      refine g_icmp_ge Z 177 dX7_select_32 (by decide) (fun h32 => ?_) (fun h32 => ?_)
      · refine g_ldc2 (v := -1) Z dX7_select_177 ct52 ?_
        exact g_lret Z dX7_select_180 (by omega) (by omega) (rfl)
      · have hlt : k < n0 := ge_f (by omega) (by omega) h32
        have hct := ct_le C.wd (6 * s + k) 65536
        refine g_bipush (v := 6) Z dX7_select_35 (by decide) ?_
        refine g_iload_n Z dX7_select_37 rfl ?_
        refine g_imul Z dX7_select_38 ?_
        refine g_iload Z dX7_select_39 rfl ?_
        refine g_iadd Z dX7_select_41 ?_
        rw [ix6]
        refine g_istore Z dX7_select_42 (by decide) ?_
        refine g_iload_n Z dX7_select_44 rfl ?_
        refine g_aload_n Z dX7_select_45 rfl ?_
        refine m_ref_sz Z in6 lk19 dX7_select_46 ?_
        refine g_iload Z dX7_select_49 rfl ?_
        refine m_ald_sz Z ho dX7_select_51 (by exact vp_in_nI (by omega) (by decide)) ?_
        rw [nI_clamp (by omega), show C.sz (6 * s + k) = nI (ct C.wd (6 * s + k) 65536) from hg k hlt]
        refine g_icmp_ge Z 161 dX7_select_52 (by decide) (fun h52 => ?_) (fun h52 => ?_)
        · have hb : ct C.wd (6 * s + k) 65536 ≤ lf := ge_t (by omega) (by omega) h52
          refine g_iload_n Z dX7_select_161 rfl ?_
          refine g_aload_n Z dX7_select_162 rfl ?_
          refine m_ref_sz Z in6 lk19 dX7_select_163 ?_
          refine g_iload Z dX7_select_166 rfl ?_
          refine m_ald_sz Z ho dX7_select_168 (by exact vp_in_nI (by omega) (by decide)) ?_
          rw [nI_clamp (by omega), show C.sz (6 * s + k) = nI (ct C.wd (6 * s + k) 65536) from hg k hlt]
          refine g_isub Z dX7_select_169 ?_
          rw [pk_sub hb]
          refine g_istore_n Z dX7_select_170 (by decide) ?_
          refine g_iinc (c := 1) Z dX7_select_171 rfl (by decide) (by decide) ?_
          rw [nI_1]
          refine g_goto Z 24 dX7_select_174 (by decide) ?_
          exact g_lv (by (repeat (first | exact trivial | refine And.intro rfl ?_)); done) (ih (k + 1) _ (by omega) (by omega) (by omega))
        · have hb : lf < ct C.wd (6 * s + k) 65536 := ge_f (by omega) (by omega) h52
          refine g_iconst (v := 0) Z dX7_select_55 (by decide) ?_
          refine g_istore Z dX7_select_56 (by decide) ?_
          exact g_lv (by (repeat (first | exact trivial | refine And.intro rfl ?_)); done) (wds 1025 (6 * s + k) (by omega) 0 lf (by omega) (by omega) hl (by show 0 + lf < _; omega))
  refine g_iload_n Z dX7_select_0 rfl ?_
  refine g_csI Z (c_X7_isSet F.l F.D F.cy F.nw _ _) 1 gX7_select_X7_isSet rfl (by decide +kernel) (by rw [hRf, hRl]; decide) rfl rfl (Nat.le_of_ble_eq_true rfl) dX7_select_1 (by rw [hRc, hRs]; omega) (fun r T hp => ?_)
  obtain ⟨rfl, his⟩ := hp
  refine g_if_ne Z 11 dX7_select_4 (by decide) (fun h4 => ?_) (fun h4 => ?_)
  · obtain ⟨s, hs, rfl⟩ := his.is h4
    obtain ⟨n0, hn0, en, hg⟩ := hI.2 s (by omega)
    refine g_iload_n Z dX7_select_11 rfl ?_
    refine g_if_ge Z 19 dX7_select_12 (by decide) (fun h12 => ?_) (fun h12 => ?_)
    · obtain ⟨lf, hl, rfl⟩ := nI_of (x := v) (Int32.not_lt.mpr h12)
      refine g_iload_n Z dX7_select_19 rfl ?_
      refine g_istore_n Z dX7_select_20 (by decide) ?_
      refine g_iconst (v := 0) Z dX7_select_21 (by decide) ?_
      refine g_istore Z dX7_select_22 (by decide) ?_
      exact g_lv (by (repeat (first | exact trivial | refine And.intro rfl ?_)); done) (loop (n0 + 1) s n0 (by omega) hn0 en hg 0 lf (by omega) (by omega) hl)
    · refine g_ldc2 (v := -1) Z dX7_select_15 ct52 ?_
      exact g_lret Z dX7_select_18 (by omega) (by omega) (rfl)
  · refine g_ldc2 (v := -2) Z dX7_select_7 ct142 ?_
    exact g_lret Z dX7_select_10 (by omega) (by omega) (rfl)

set_option maxRecDepth 100000 in
set_option maxHeartbeats 2000000 in
/-- the next number -/
theorem s_X7_next (l : Launch) (D : va_G) (cy : Nat → ClassId) (nw : Nat) (A : Nat → Nat) (x : Nat) (ho : mOk A x) (C : C5) (R : MR) (hI : InvD C) (a v : Int32) : kL l yX7_next wsX7_next 2 45 D cy nw [.ref x, .int a, .int v] (mP A x (C, R)) (fun _ T => (mP A x (C, R)) = T) 0 0 := by
  refine enterL (cc := cX7_next) (nL := 7) (ret := (some .long)) (by decide +kernel) rfl (Nat.le_of_ble_eq_true rfl) ?_
  intro F Z hl hR hD hcy hnw hnm
  subst hl hD hcy hnw
  have hRf : F.R.frames = 2 := by rw [hR]
  have hRc : F.R.cells = 0 := by rw [hR]
  have hRs : F.R.slots = 0 := by rw [hR]
  have hRl : F.R.locals = 45 := by rw [hR]
  have in6 : ∀ w ∈ u_ws RX7 TX7 16, w ∈ wsX7_next := by decide +kernel
  have lk7 : Cond.fieldLink RX7 7 (TX7 0).1 (TX7 0).2.1 (TX7 0).2.2.1 ∈ wsX7_next := by decide +kernel
  have lk13 : Cond.fieldLink RX7 13 (TX7 1).1 (TX7 1).2.1 (TX7 1).2.2.1 ∈ wsX7_next := by decide +kernel
  have ct52 : Cond.constantLong RX7 52 (-1) ∈ wsX7_next := by decide +kernel
  have ct74 : Cond.constant RX7 74 (65535) ∈ wsX7_next := by decide +kernel
  have ct107 : Cond.constant RX7 107 (65536) ∈ wsX7_next := by decide +kernel
  have ct142 : Cond.constantLong RX7 142 (-2) ∈ wsX7_next := by decide +kernel
  obtain ⟨b, hb, eb⟩ := low16 v
  have loop : ∀ (n s n0 : Nat), s < 8 → n0 ≤ 6 → C.mn s = nI n0 → ∀ (k : Nat) (ky : Int32), n0 - k < n → k ≤ n0 → G F 7 (mP A x (C, R)) 0 0 (QL F (fun _ T => (mP A x (C, R)) = T) 0 0) 19 [(0, .ref x), (1, .int (nI s)), (2, .int v), (3, .int ky), (4, .int (nI k))] [] := by
    intro n s n0 hs hn0 en
    induction n with
    | zero => intros; omega
    | succ n ih =>
      intro k ky hn hk
      have j100 : ∀ (q : Nat), q ≤ 65536 → k < n0 → G F 7 (mP A x (C, R)) 0 0 (QL F (fun _ T => (mP A x (C, R)) = T) 0 0) 100 [(0, .ref x), (1, .int (nI s)), (2, .int v), (3, .int ky), (4, .int (nI k)), (5, .int (nI (6 * s + k))), (6, .int (nI q))] [] := by
        intro q hq hlt
        refine g_iload Z dX7_next_100 rfl ?_
        refine g_ldc (v := 65536) Z dX7_next_102 ct107 ?_
        refine g_icmp_ge Z 116 dX7_next_104 (by decide) (fun h104 => ?_) (fun h104 => ?_)
        · refine g_iinc (c := 1) Z dX7_next_116 rfl (by decide) (by decide) ?_
          rw [nI_1]
          refine g_goto Z 19 dX7_next_119 (by decide) ?_
          exact g_lv (by (repeat (first | exact trivial | refine And.intro rfl ?_)); done) (ih (k + 1) ky (by omega) (by omega))
        · refine g_aload_n Z dX7_next_107 rfl ?_
          refine g_iload Z dX7_next_108 rfl ?_
          refine g_iload Z dX7_next_110 rfl ?_
          refine g_cvL Z (c_X7_numberOf F.l F.D F.cy F.nw A x ho _ _ _ (by omega) _) 2 gX7_next_X7_numberOf rfl (by decide +kernel) (by rw [hRf, hRl]; decide) (by exact mP_x) (κ := 6) (by exact mP_Kx) rfl (by decide) rfl rfl (Nat.le_of_ble_eq_true rfl) dX7_next_112 (by rw [hRc, hRs]; omega) (fun r T hp => ?_)
          subst hp
          exact g_lret Z dX7_next_115 (by omega) (by omega) (rfl)
      have lp : ∀ (i q : Nat), 65536 - q < i → q ≤ 65536 → k < n0 → G F 7 (mP A x (C, R)) 0 0 (QL F (fun _ T => (mP A x (C, R)) = T) 0 0) 76 [(0, .ref x), (1, .int (nI s)), (2, .int v), (3, .int ky), (4, .int (nI k)), (5, .int (nI (6 * s + k))), (6, .int (nI q))] [] := by
        intro i
        induction i with
        | zero => intros; omega
        | succ i ih2 =>
          intro q hi hq hlt
          refine g_iload Z dX7_next_76 rfl ?_
          refine g_ldc (v := 65536) Z dX7_next_78 ct107 ?_
          refine g_icmp_ge Z 100 dX7_next_80 (by decide) (fun h80 => ?_) (fun h80 => ?_)
          · exact g_lv (by (repeat (first | exact trivial | refine And.intro rfl ?_)); done) (j100 q hq hlt)
          · have hq2 : q < 65536 := ge_f (N := 65536) (by omega) (by decide) h80
            refine g_aload_n Z dX7_next_83 rfl ?_
            refine g_iload Z dX7_next_84 rfl ?_
            refine g_iload Z dX7_next_86 rfl ?_
            refine g_cvI Z (c_X7_hasLow F.l F.D F.cy F.nw A x ho _ _ _ _ (by omega) (by omega)) 2 gX7_next_X7_hasLow rfl (by decide +kernel) (by rw [hRf, hRl]; decide) (by exact mP_x) (κ := 6) (by exact mP_Kx) rfl (by decide) rfl rfl (Nat.le_of_ble_eq_true rfl) dX7_next_88 (by rw [hRc, hRs]; omega) (fun r T hp => ?_)
            obtain ⟨rfl, -⟩ := hp
            refine g_if_ne Z 100 dX7_next_91 (by decide) (fun h91 => ?_) (fun h91 => ?_)
            · exact g_lv (by (repeat (first | exact trivial | refine And.intro rfl ?_)); done) (j100 q hq hlt)
            · refine g_iinc (c := 1) Z dX7_next_94 rfl (by decide) (by decide) ?_
              rw [nI_1]
              refine g_goto Z 76 dX7_next_97 (by decide) ?_
              exact g_lv (by (repeat (first | exact trivial | refine And.intro rfl ?_)); done) (ih2 (q + 1) (by omega) (by omega) hlt)
      refine g_iload Z dX7_next_19 rfl ?_
      refine g_aload_n Z dX7_next_21 rfl ?_
      refine m_ref_mn Z in6 lk7 dX7_next_22 ?_
      refine g_iload_n Z dX7_next_25 rfl ?_
      refine m_ald_mn Z ho dX7_next_26 (by exact vp_in_nI (by omega) (by decide)) ?_
      rw [nI_clamp (by omega), en]
      refine g_icmp_ge Z 122 dX7_next_27 (by decide) (fun h27 => ?_) (fun h27 => ?_)
      · refine g_ldc2 (v := -1) Z dX7_next_122 ct52 ?_
        exact g_lret Z dX7_next_125 (by omega) (by omega) (rfl)
      · have hlt : k < n0 := ge_f (by omega) (by omega) h27
        refine g_bipush (v := 6) Z dX7_next_30 (by decide) ?_
        refine g_iload_n Z dX7_next_32 rfl ?_
        refine g_imul Z dX7_next_33 ?_
        refine g_iload Z dX7_next_34 rfl ?_
        refine g_iadd Z dX7_next_36 ?_
        rw [ix6]
        refine g_istore Z dX7_next_37 (by decide) ?_
        refine g_aload_n Z dX7_next_39 rfl ?_
        refine m_ref_ky Z in6 lk13 dX7_next_40 ?_
        refine g_iload Z dX7_next_43 rfl ?_
        refine m_ald_ky Z ho dX7_next_45 (by exact vp_in_nI (by omega) (by decide)) ?_
        rw [nI_clamp (by omega)]
        refine g_iload_n Z dX7_next_46 rfl ?_
        refine g_icmp_ge Z 55 dX7_next_47 (by decide) (fun h47 => ?_) (fun h47 => ?_)
        · refine g_aload_n Z dX7_next_55 rfl ?_
          refine m_ref_ky Z in6 lk13 dX7_next_56 ?_
          refine g_iload Z dX7_next_59 rfl ?_
          refine m_ald_ky Z ho dX7_next_61 (by exact vp_in_nI (by omega) (by decide)) ?_
          rw [nI_clamp (by omega)]
          refine g_iload_n Z dX7_next_62 rfl ?_
          refine g_icmp_ne Z 73 dX7_next_63 (by decide) (fun h63 => ?_) (fun h63 => ?_)
          · refine g_iconst (v := 0) Z dX7_next_73 (by decide) ?_
            refine g_istore Z dX7_next_74 (by decide) ?_
            exact g_lv (by (repeat (first | exact trivial | refine And.intro rfl ?_)); done) (lp 65537 0 (by omega) (by omega) hlt)
          · refine g_iload_n Z dX7_next_66 rfl ?_
            refine g_ldc (v := 65535) Z dX7_next_67 ct74 ?_
            refine g_iand Z dX7_next_69 ?_
            rw [eb]
            refine g_goto Z 74 dX7_next_70 (by decide) ?_
            refine g_istore Z dX7_next_74 (by decide) ?_
            exact g_lv (by (repeat (first | exact trivial | refine And.intro rfl ?_)); done) (lp 65537 b (by omega) (by omega) hlt)
        · refine g_ldc (v := 65536) Z dX7_next_50 ct107 ?_
          refine g_goto Z 74 dX7_next_52 (by decide) ?_
          refine g_istore Z dX7_next_74 (by decide) ?_
          exact g_lv (by (repeat (first | exact trivial | refine And.intro rfl ?_)); done) (lp 65537 65536 (by omega) (by omega) hlt)
  refine g_iload_n Z dX7_next_0 rfl ?_
  refine g_csI Z (c_X7_isSet F.l F.D F.cy F.nw _ _) 1 gX7_next_X7_isSet rfl (by decide +kernel) (by rw [hRf, hRl]; decide) rfl rfl (Nat.le_of_ble_eq_true rfl) dX7_next_1 (by rw [hRc, hRs]; omega) (fun r T hp => ?_)
  obtain ⟨rfl, his⟩ := hp
  refine g_if_ne Z 11 dX7_next_4 (by decide) (fun h4 => ?_) (fun h4 => ?_)
  · obtain ⟨s, hs, rfl⟩ := his.is h4
    obtain ⟨n0, hn0, en, hg⟩ := hI.2 s (by omega)
    refine g_iload_n Z dX7_next_11 rfl ?_
    refine g_bipush (v := 16) Z dX7_next_12 (by decide) ?_
    refine g_iushr Z dX7_next_14 ?_
    refine g_istore_n Z dX7_next_15 (by decide) ?_
    refine g_iconst (v := 0) Z dX7_next_16 (by decide) ?_
    refine g_istore Z dX7_next_17 (by decide) ?_
    exact g_lv (by (repeat (first | exact trivial | refine And.intro rfl ?_)); done) (loop (n0 + 1) s n0 (by omega) hn0 en 0 _ (by omega) (by omega))
  · refine g_ldc2 (v := -2) Z dX7_next_7 ct142 ?_
    exact g_lret Z dX7_next_10 (by omega) (by omega) (rfl)

set_option maxRecDepth 100000 in
set_option maxHeartbeats 2000000 in
/-- how many -/
theorem s_X7_count (l : Launch) (D : va_G) (cy : Nat → ClassId) (nw : Nat) (A : Nat → Nat) (x : Nat) (ho : mOk A x) (C : C5) (R : MR) (hI : InvD C) (a v : Int32) : kI l yX7_count wsX7_count 2 45 D cy nw [.ref x, .int a, .int v] (mP A x (C, R)) (fun _ T => (mP A x (C, R)) = T) 0 0 := by
  refine enterI (cc := cX7_count) (nL := 5) (ret := (some .int)) (by decide +kernel) rfl (Nat.le_of_ble_eq_true rfl) ?_
  intro F Z hl hR hD hcy hnw hnm
  subst hl hD hcy hnw
  have hRf : F.R.frames = 2 := by rw [hR]
  have hRc : F.R.cells = 0 := by rw [hR]
  have hRs : F.R.slots = 0 := by rw [hR]
  have hRl : F.R.locals = 45 := by rw [hR]
  have in6 : ∀ w ∈ u_ws RX7 TX7 16, w ∈ wsX7_count := by decide +kernel
  have lk7 : Cond.fieldLink RX7 7 (TX7 0).1 (TX7 0).2.1 (TX7 0).2.2.1 ∈ wsX7_count := by decide +kernel
  have lk16 : Cond.fieldLink RX7 16 (TX7 2).1 (TX7 2).2.1 (TX7 2).2.2.1 ∈ wsX7_count := by decide +kernel
  have ct148 : Cond.constantLong RX7 148 (4) ∈ wsX7_count := by decide +kernel
  have loop : ∀ (n s n0 : Nat), s < 8 → n0 ≤ 6 → C.mn s = nI n0 → ∀ (k : Nat) (y : Int32), n0 - k < n → k ≤ n0 → G F 5 (mP A x (C, R)) 0 0 (QI F (fun _ T => (mP A x (C, R)) = T) 0 0) 37 [(0, .ref x), (1, .int (nI s)), (2, .int v), (3, .int y), (4, .int (nI k))] [] := by
    intro n s n0 hs hn0 en
    induction n with
    | zero => intros; omega
    | succ n ih =>
      intro k y hn hk
      refine g_iload Z dX7_count_37 rfl ?_
      refine g_aload_n Z dX7_count_39 rfl ?_
      refine m_ref_mn Z in6 lk7 dX7_count_40 ?_
      refine g_iload_n Z dX7_count_43 rfl ?_
      refine m_ald_mn Z ho dX7_count_44 (by exact vp_in_nI (by omega) (by decide)) ?_
      rw [nI_clamp (by omega), en]
      refine g_icmp_ge Z 85 dX7_count_45 (by decide) (fun h45 => ?_) (fun h45 => ?_)
      · refine g_iload_n Z dX7_count_85 rfl ?_
        exact g_iret Z dX7_count_86 (by omega) (by omega) (rfl)
      · have hlt : k < n0 := ge_f (by omega) (by omega) h45
        refine g_iload_n Z dX7_count_48 rfl ?_
        refine g_iload_n Z dX7_count_49 rfl ?_
        refine g_iconst (v := 1) Z dX7_count_50 (by decide) ?_
        refine g_icmp_eq Z 72 dX7_count_51 (by decide) (fun h51 => ?_) (fun h51 => ?_)
        · refine g_iconst (v := 1) Z dX7_count_72 (by decide) ?_
          refine g_goto Z 77 dX7_count_73 (by decide) ?_
          refine g_iadd Z dX7_count_77 ?_
          refine g_istore_n Z dX7_count_78 (by decide) ?_
          refine g_iinc (c := 1) Z dX7_count_79 rfl (by decide) (by decide) ?_
          rw [nI_1]
          refine g_goto Z 37 dX7_count_82 (by decide) ?_
          exact g_lv (by (repeat (first | exact trivial | refine And.intro rfl ?_)); done) (ih (k + 1) _ (by omega) (by omega))
        · refine g_aload_n Z dX7_count_54 rfl ?_
          refine m_ref_kd Z in6 lk16 dX7_count_55 ?_
          refine g_bipush (v := 6) Z dX7_count_58 (by decide) ?_
          refine g_iload_n Z dX7_count_60 rfl ?_
          refine g_imul Z dX7_count_61 ?_
          refine g_iload Z dX7_count_62 rfl ?_
          refine g_iadd Z dX7_count_64 ?_
          rw [ix6]
          refine m_ald_kd Z ho dX7_count_65 (by exact vp_in_nI (by omega) (by decide)) ?_
          rw [nI_clamp (by omega)]
          refine g_iload_n Z dX7_count_66 rfl ?_
          refine g_iconst (v := 2) Z dX7_count_67 (by decide) ?_
          refine g_isub Z dX7_count_68 ?_
          refine g_icmp_ne Z 76 dX7_count_69 (by decide) (fun h69 => ?_) (fun h69 => ?_)
          · refine g_iconst (v := 0) Z dX7_count_76 (by decide) ?_
            refine g_iadd Z dX7_count_77 ?_
            refine g_istore_n Z dX7_count_78 (by decide) ?_
            refine g_iinc (c := 1) Z dX7_count_79 rfl (by decide) (by decide) ?_
            rw [nI_1]
            refine g_goto Z 37 dX7_count_82 (by decide) ?_
            exact g_lv (by (repeat (first | exact trivial | refine And.intro rfl ?_)); done) (ih (k + 1) _ (by omega) (by omega))
          · refine g_iconst (v := 1) Z dX7_count_72 (by decide) ?_
            refine g_goto Z 77 dX7_count_73 (by decide) ?_
            refine g_iadd Z dX7_count_77 ?_
            refine g_istore_n Z dX7_count_78 (by decide) ?_
            refine g_iinc (c := 1) Z dX7_count_79 rfl (by decide) (by decide) ?_
            rw [nI_1]
            refine g_goto Z 37 dX7_count_82 (by decide) ?_
            exact g_lv (by (repeat (first | exact trivial | refine And.intro rfl ?_)); done) (ih (k + 1) _ (by omega) (by omega))
  refine g_iload_n Z dX7_count_0 rfl ?_
  refine g_csI Z (c_X7_isSet F.l F.D F.cy F.nw _ _) 1 gX7_count_X7_isSet rfl (by decide +kernel) (by rw [hRf, hRl]; decide) rfl rfl (Nat.le_of_ble_eq_true rfl) dX7_count_1 (by rw [hRc, hRs]; omega) (fun r T hp => ?_)
  obtain ⟨rfl, his⟩ := hp
  refine g_if_eq Z 19 dX7_count_4 (by decide) (fun h4 => ?_) (fun h4 => ?_)
  · refine g_bipush (v := (-2)) Z dX7_count_19 (by decide) ?_
    exact g_iret Z dX7_count_21 (by omega) (by omega) (rfl)
  · obtain ⟨s, hs, rfl⟩ := his.is h4
    obtain ⟨n0, hn0, en, hg⟩ := hI.2 s (by omega)
    refine g_iload_n Z dX7_count_7 rfl ?_
    refine g_i2l Z dX7_count_8 ?_
    refine g_lconst (v := 0) Z dX7_count_9 (by decide) ?_
    refine g_ldc2 (v := 4) Z dX7_count_10 ct148 ?_
    refine g_csI Z (c_X7_in F.l F.D F.cy F.nw _ _ _ _) 3 gX7_count_X7_in rfl (by decide +kernel) (by rw [hRf, hRl]; decide) rfl rfl (Nat.le_of_ble_eq_true rfl) dX7_count_13 (by rw [hRc, hRs]; omega) (fun r T hp => ?_)
    obtain ⟨rfl, -⟩ := hp
    refine g_if_ne Z 22 dX7_count_16 (by decide) (fun h16 => ?_) (fun h16 => ?_)
    · refine g_iload_n Z dX7_count_22 rfl ?_
      refine g_if_ne Z 32 dX7_count_23 (by decide) (fun h23 => ?_) (fun h23 => ?_)
      · refine g_iconst (v := 0) Z dX7_count_32 (by decide) ?_
        refine g_istore_n Z dX7_count_33 (by decide) ?_
        refine g_iconst (v := 0) Z dX7_count_34 (by decide) ?_
        refine g_istore Z dX7_count_35 (by decide) ?_
        exact g_lv (by (repeat (first | exact trivial | refine And.intro rfl ?_)); done) (loop (n0 + 1) s n0 (by omega) hn0 en 0 _ (by omega) (by omega))
      · refine g_aload_n Z dX7_count_26 rfl ?_
        refine g_iload_n Z dX7_count_27 rfl ?_
        refine g_cvI Z (s_X7_all F.l F.D F.cy F.nw A x ho _ _ hI.1 _ (by omega)) 1 gX7_count_X7_all rfl (by decide +kernel) (by rw [hRf, hRl]; decide) (by exact mP_x) (κ := 6) (by exact mP_Kx) rfl (by decide) rfl rfl (Nat.le_of_ble_eq_true rfl) dX7_count_28 (by rw [hRc, hRs]; omega) (fun r T hp => ?_)
        subst hp
        exact g_iret Z dX7_count_31 (by omega) (by omega) (rfl)
    · refine g_bipush (v := (-2)) Z dX7_count_19 (by decide) ?_
      exact g_iret Z dX7_count_21 (by omega) (by omega) (rfl)

set_option maxRecDepth 100000 in
set_option maxHeartbeats 2000000 in
/-- what is known of a container -/
theorem s_X7_container (l : Launch) (D : va_G) (cy : Nat → ClassId) (nw : Nat) (A : Nat → Nat) (x : Nat) (ho : mOk A x) (C : C5) (R : MR) (hI : InvD C) (a b v : Int32) : kI l yX7_container wsX7_container 2 50 D cy nw [.ref x, .int a, .int b, .int v] (mP A x (C, R)) (fun _ T => (mP A x (C, R)) = T) 0 0 := by
  refine enterI (cc := cX7_container) (nL := 5) (ret := (some .int)) (by decide +kernel) rfl (Nat.le_of_ble_eq_true rfl) ?_
  intro F Z hl hR hD hcy hnw hnm
  subst hl hD hcy hnw
  have hRf : F.R.frames = 2 := by rw [hR]
  have hRc : F.R.cells = 0 := by rw [hR]
  have hRs : F.R.slots = 0 := by rw [hR]
  have hRl : F.R.locals = 50 := by rw [hR]
  have in6 : ∀ w ∈ u_ws RX7 TX7 16, w ∈ wsX7_container := by decide +kernel
  have lk7 : Cond.fieldLink RX7 7 (TX7 0).1 (TX7 0).2.1 (TX7 0).2.2.1 ∈ wsX7_container := by decide +kernel
  have lk13 : Cond.fieldLink RX7 13 (TX7 1).1 (TX7 1).2.1 (TX7 1).2.2.1 ∈ wsX7_container := by decide +kernel
  have lk16 : Cond.fieldLink RX7 16 (TX7 2).1 (TX7 2).2.1 (TX7 2).2.2.1 ∈ wsX7_container := by decide +kernel
  have lk19 : Cond.fieldLink RX7 19 (TX7 3).1 (TX7 3).2.1 (TX7 3).2.2.1 ∈ wsX7_container := by decide +kernel
  have ct112 : Cond.constantLong RX7 112 (3) ∈ wsX7_container := by decide +kernel
  refine g_iload_n Z dX7_container_0 rfl ?_
  refine g_csI Z (c_X7_isSet F.l F.D F.cy F.nw _ _) 1 gX7_container_X7_isSet rfl (by decide +kernel) (by rw [hRf, hRl]; decide) rfl rfl (Nat.le_of_ble_eq_true rfl) dX7_container_1 (by rw [hRc, hRs]; omega) (fun r T hp => ?_)
  obtain ⟨rfl, his⟩ := hp
  refine g_if_eq Z 37 dX7_container_4 (by decide) (fun h4 => ?_) (fun h4 => ?_)
  · refine g_bipush (v := (-2)) Z dX7_container_37 (by decide) ?_
    exact g_iret Z dX7_container_39 (by omega) (by omega) (rfl)
  · obtain ⟨s, hs, rfl⟩ := his.is h4
    obtain ⟨n0, hn0, en, hg⟩ := hI.2 s (by omega)
    refine g_iload_n Z dX7_container_7 rfl ?_
    refine g_i2l Z dX7_container_8 ?_
    refine g_lconst (v := 0) Z dX7_container_9 (by decide) ?_
    refine g_aload_n Z dX7_container_10 rfl ?_
    refine m_ref_mn Z in6 lk7 dX7_container_11 ?_
    refine g_iload_n Z dX7_container_14 rfl ?_
    refine m_ald_mn Z ho dX7_container_15 (by exact vp_in_nI (by omega) (by decide)) ?_
    rw [nI_clamp (by omega), en]
    refine g_iconst (v := 1) Z dX7_container_16 (by decide) ?_
    refine g_isub Z dX7_container_17 ?_
    refine g_i2l Z dX7_container_18 ?_
    refine g_csI Z (c_X7_in F.l F.D F.cy F.nw _ _ _ _) 3 gX7_container_X7_in rfl (by decide +kernel) (by rw [hRf, hRl]; decide) rfl rfl (Nat.le_of_ble_eq_true rfl) dX7_container_19 (by rw [hRc, hRs]; omega) (fun r2 T2 hp => ?_)
    obtain ⟨rfl, hi0⟩ := hp
    refine g_if_eq Z 37 dX7_container_22 (by decide) (fun h22 => ?_) (fun h22 => ?_)
    · refine g_bipush (v := (-2)) Z dX7_container_37 (by decide) ?_
      exact g_iret Z dX7_container_39 (by omega) (by omega) (rfl)
    · obtain ⟨k, hk, rfl⟩ := in_m1 hn0 hi0 h22
      refine g_iload_n Z dX7_container_25 rfl ?_
      refine g_i2l Z dX7_container_26 ?_
      refine g_lconst (v := 0) Z dX7_container_27 (by decide) ?_
      refine g_ldc2 (v := 3) Z dX7_container_28 ct112 ?_
      refine g_csI Z (c_X7_in F.l F.D F.cy F.nw _ _ _ _) 3 gX7_container_X7_in rfl (by decide +kernel) (by rw [hRf, hRl]; decide) rfl rfl (Nat.le_of_ble_eq_true rfl) dX7_container_31 (by rw [hRc, hRs]; omega) (fun r3 T3 hp => ?_)
      obtain ⟨rfl, -⟩ := hp
      refine g_if_ne Z 40 dX7_container_34 (by decide) (fun h34 => ?_) (fun h34 => ?_)
      · refine g_bipush (v := 6) Z dX7_container_40 (by decide) ?_
        refine g_iload_n Z dX7_container_42 rfl ?_
        refine g_imul Z dX7_container_43 ?_
        refine g_iload_n Z dX7_container_44 rfl ?_
        refine g_iadd Z dX7_container_45 ?_
        rw [ix6]
        refine g_istore Z dX7_container_46 (by decide) ?_
        refine g_iload_n Z dX7_container_48 rfl ?_
        refine g_if_ne Z 62 dX7_container_49 (by decide) (fun h49 => ?_) (fun h49 => ?_)
        · refine g_iload_n Z dX7_container_62 rfl ?_
          refine g_iconst (v := 1) Z dX7_container_63 (by decide) ?_
          refine g_icmp_ne Z 77 dX7_container_64 (by decide) (fun h64 => ?_) (fun h64 => ?_)
          · refine g_iload_n Z dX7_container_77 rfl ?_
            refine g_iconst (v := 2) Z dX7_container_78 (by decide) ?_
            refine g_icmp_ne Z 92 dX7_container_79 (by decide) (fun h79 => ?_) (fun h79 => ?_)
            · refine g_aload_n Z dX7_container_92 rfl ?_
              refine g_iload Z dX7_container_93 rfl ?_
              refine g_cvI Z (c_X7_runsOf F.l F.D F.cy F.nw A x ho _ _ _ (by omega)) 1 gX7_container_X7_runsOf rfl (by decide +kernel) (by rw [hRf, hRl]; decide) (by exact mP_x) (κ := 6) (by exact mP_Kx) rfl (by decide) rfl rfl (Nat.le_of_ble_eq_true rfl) dX7_container_95 (by rw [hRc, hRs]; omega) (fun r4 T4 hp => ?_)
              obtain ⟨rfl, -⟩ := hp
              exact g_iret Z dX7_container_98 (by omega) (by omega) (rfl)
            · refine g_aload_n Z dX7_container_82 rfl ?_
              refine m_ref_sz Z in6 lk19 dX7_container_83 ?_
              refine g_iload Z dX7_container_86 rfl ?_
              refine m_ald_sz Z ho dX7_container_88 (by exact vp_in_nI (by omega) (by decide)) ?_
              rw [nI_clamp (by omega)]
              refine g_goto Z 98 dX7_container_89 (by decide) ?_
              exact g_iret Z dX7_container_98 (by omega) (by omega) (rfl)
          · refine g_aload_n Z dX7_container_67 rfl ?_
            refine m_ref_kd Z in6 lk16 dX7_container_68 ?_
            refine g_iload Z dX7_container_71 rfl ?_
            refine m_ald_kd Z ho dX7_container_73 (by exact vp_in_nI (by omega) (by decide)) ?_
            rw [nI_clamp (by omega)]
            refine g_goto Z 98 dX7_container_74 (by decide) ?_
            exact g_iret Z dX7_container_98 (by omega) (by omega) (rfl)
        · refine g_aload_n Z dX7_container_52 rfl ?_
          refine m_ref_ky Z in6 lk13 dX7_container_53 ?_
          refine g_iload Z dX7_container_56 rfl ?_
          refine m_ald_ky Z ho dX7_container_58 (by exact vp_in_nI (by omega) (by decide)) ?_
          rw [nI_clamp (by omega)]
          refine g_goto Z 98 dX7_container_59 (by decide) ?_
          exact g_iret Z dX7_container_98 (by omega) (by omega) (rfl)
      · refine g_bipush (v := (-2)) Z dX7_container_37 (by decide) ?_
        exact g_iret Z dX7_container_39 (by omega) (by omega) (rfl)

set_option maxRecDepth 100000 in
set_option maxHeartbeats 2000000 in
/-- how many are in both -/
theorem s_X7_both (l : Launch) (D : va_G) (cy : Nat → ClassId) (nw : Nat) (A : Nat → Nat) (x : Nat) (ho : mOk A x) (C : C5) (R : MR) (hO : OkD C) (a b : Nat) (ha : a < 8) (hb : b < 8) : kI l yX7_both wsX7_both 1 24 D cy nw [.ref x, .int (nI a), .int (nI b)] (mP A x (C, R)) (fun _ T => (mP A x (C, R)) = T) 0 0 := by
  refine enterI (cc := cX7_both) (nL := 8) (ret := (some .int)) (by decide +kernel) rfl (Nat.le_of_ble_eq_true rfl) ?_
  intro F Z hl hR hD hcy hnw hnm
  subst hl hD hcy hnw
  have hRf : F.R.frames = 1 := by rw [hR]
  have hRc : F.R.cells = 0 := by rw [hR]
  have hRs : F.R.slots = 0 := by rw [hR]
  have hRl : F.R.locals = 24 := by rw [hR]
  have in6 : ∀ w ∈ u_ws RX7 TX7 16, w ∈ wsX7_both := by decide +kernel
  have lk7 : Cond.fieldLink RX7 7 (TX7 0).1 (TX7 0).2.1 (TX7 0).2.2.1 ∈ wsX7_both := by decide +kernel
  have lk13 : Cond.fieldLink RX7 13 (TX7 1).1 (TX7 1).2.1 (TX7 1).2.2.1 ∈ wsX7_both := by decide +kernel
  have lk23 : Cond.fieldLink RX7 23 (TX7 4).1 (TX7 4).2.1 (TX7 4).2.2.1 ∈ wsX7_both := by decide +kernel
  obtain ⟨n0, hn0, en⟩ := hO.mnk (s := a) (by omega)
  obtain ⟨n2, hn2, en2⟩ := hO.mnk (s := b) (by omega)
  have loop : ∀ (n : Nat) (k : Nat) (y : Int32), n0 - k < n → k ≤ n0 → G F 8 (mP A x (C, R)) 0 0 (QI F (fun _ T => (mP A x (C, R)) = T) 0 0) 5 [(0, .ref x), (1, .int (nI a)), (2, .int (nI b)), (3, .int y), (4, .int (nI k))] [] := by
    intro n
    induction n with
    | zero => intros; omega
    | succ n ih =>
      intro k y0 hn hk
      have nx : ∀ (y : Int32), k < n0 → G F 8 (mP A x (C, R)) 0 0 (QI F (fun _ T => (mP A x (C, R)) = T) 0 0) 97 [(0, .ref x), (1, .int (nI a)), (2, .int (nI b)), (3, .int y), (4, .int (nI k))] [] := by
        intro y hlt
        refine g_iinc (c := 1) Z dX7_both_97 rfl (by decide) (by decide) ?_
        rw [nI_1]
        refine g_goto Z 5 dX7_both_100 (by decide) ?_
        exact g_lv (by (repeat (first | exact trivial | refine And.intro rfl ?_)); done) (ih (k + 1) y (by omega) (by omega))
      have lp : ∀ (i : Nat) (d : Int32), cOr d → k < n0 → ∀ (q : Nat) (y : Int32), 1024 - q < i → q ≤ 1024 → G F 8 (mP A x (C, R)) 0 0 (QI F (fun _ T => (mP A x (C, R)) = T) 0 0) 42 [(0, .ref x), (1, .int (nI a)), (2, .int (nI b)), (3, .int y), (4, .int (nI k)), (5, .int (nI (6 * a + k))), (6, .int d), (7, .int (nI q))] [] := by
        intro i d hd hlt
        induction i with
        | zero => intros; omega
        | succ i ih2 =>
          intro q y hi hq
          refine g_iload Z dX7_both_42 rfl ?_
          refine g_sipush (v := 1024) Z dX7_both_44 (by decide) ?_
          refine g_icmp_ge Z 97 dX7_both_47 (by decide) (fun h47 => ?_) (fun h47 => ?_)
          · exact g_lv (by (repeat (first | exact trivial | refine And.intro rfl ?_)); done) (nx _ hlt)
          · have hq2 : q < 1024 := ge_f (by omega) (by decide) h47
            refine g_iload Z dX7_both_50 rfl ?_
            refine g_iconst (v := (-1)) Z dX7_both_52 (by decide) ?_
            refine g_icmp_eq Z 97 dX7_both_53 (by decide) (fun h53 => ?_) (fun h53 => ?_)
            · exact g_lv (by (repeat (first | exact trivial | refine And.intro rfl ?_)); done) (nx _ hlt)
            · obtain ⟨d', hd', rfl⟩ := hd.nn h53
              refine g_iload_n Z dX7_both_56 rfl ?_
              refine g_aload_n Z dX7_both_57 rfl ?_
              refine m_ref_wd Z in6 lk23 dX7_both_58 ?_
              refine g_sipush (v := 1024) Z dX7_both_61 (by decide) ?_
              refine g_iload Z dX7_both_64 rfl ?_
              refine g_imul Z dX7_both_66 ?_
              refine g_iload Z dX7_both_67 rfl ?_
              refine g_iadd Z dX7_both_69 ?_
              rw [ixw]
              refine m_ald_wd Z ho dX7_both_70 (by exact vp_in_nI (by omega) (by decide)) ?_
              rw [nI_clamp (by omega)]
              refine g_aload_n Z dX7_both_71 rfl ?_
              refine m_ref_wd Z in6 lk23 dX7_both_72 ?_
              refine g_sipush (v := 1024) Z dX7_both_75 (by decide) ?_
              refine g_iload Z dX7_both_78 rfl ?_
              refine g_imul Z dX7_both_80 ?_
              refine g_iload Z dX7_both_81 rfl ?_
              refine g_iadd Z dX7_both_83 ?_
              rw [ixw]
              refine m_ald_wd Z ho dX7_both_84 (by exact vp_in_nI (by omega) (by decide)) ?_
              rw [nI_clamp (by omega)]
              refine g_land Z dX7_both_85 ?_
              refine g_csI Z (c_X7_bitsOf F.l F.D F.cy F.nw _ _) 1 gX7_both_X7_bitsOf rfl (by decide +kernel) (by rw [hRf, hRl]; decide) rfl rfl (Nat.le_of_ble_eq_true rfl) dX7_both_86 (by rw [hRc, hRs]; omega) (fun r T hp => ?_)
              obtain ⟨rfl, -⟩ := hp
              refine g_iadd Z dX7_both_89 ?_
              refine g_istore_n Z dX7_both_90 (by decide) ?_
              refine g_iinc (c := 1) Z dX7_both_91 rfl (by decide) (by decide) ?_
              rw [nI_1]
              refine g_goto Z 42 dX7_both_94 (by decide) ?_
              exact g_lv (by (repeat (first | exact trivial | refine And.intro rfl ?_)); done) (ih2 (q + 1) _ (by omega) (by omega))
      refine g_iload Z dX7_both_5 rfl ?_
      refine g_aload_n Z dX7_both_7 rfl ?_
      refine m_ref_mn Z in6 lk7 dX7_both_8 ?_
      refine g_iload_n Z dX7_both_11 rfl ?_
      refine m_ald_mn Z ho dX7_both_12 (by exact vp_in_nI (by omega) (by decide)) ?_
      rw [nI_clamp (by omega), en]
      refine g_icmp_ge Z 103 dX7_both_13 (by decide) (fun h13 => ?_) (fun h13 => ?_)
      · refine g_iload_n Z dX7_both_103 rfl ?_
        exact g_iret Z dX7_both_104 (by omega) (by omega) (rfl)
      · have hlt : k < n0 := ge_f (by omega) (by omega) h13
        refine g_bipush (v := 6) Z dX7_both_16 (by decide) ?_
        refine g_iload_n Z dX7_both_18 rfl ?_
        refine g_imul Z dX7_both_19 ?_
        refine g_iload Z dX7_both_20 rfl ?_
        refine g_iadd Z dX7_both_22 ?_
        rw [ix6]
        refine g_istore Z dX7_both_23 (by decide) ?_
        refine g_aload_n Z dX7_both_25 rfl ?_
        refine g_iload_n Z dX7_both_26 rfl ?_
        refine g_aload_n Z dX7_both_27 rfl ?_
        refine m_ref_ky Z in6 lk13 dX7_both_28 ?_
        refine g_iload Z dX7_both_31 rfl ?_
        refine m_ald_ky Z ho dX7_both_33 (by exact vp_in_nI (by omega) (by decide)) ?_
        rw [nI_clamp (by omega)]
        refine g_cvI Z (c_X7_containerOf F.l F.D F.cy F.nw A x ho _ _ b (by omega) n2 hn2 en2 _) 2 gX7_both_X7_containerOf rfl (by decide +kernel) (by rw [hRf, hRl]; decide) (by exact mP_x) (κ := 6) (by exact mP_Kx) rfl (by decide) rfl rfl (Nat.le_of_ble_eq_true rfl) dX7_both_34 (by rw [hRc, hRs]; omega) (fun r T hp => ?_)
        obtain ⟨rfl, hr⟩ := hp
        have hd : cOr r := by rcases hr with e | ⟨j, hj, e⟩; exact Or.inl e; exact Or.inr ⟨_, by omega, e⟩
        refine g_istore Z dX7_both_37 (by decide) ?_
        refine g_iconst (v := 0) Z dX7_both_39 (by decide) ?_
        refine g_istore Z dX7_both_40 (by decide) ?_
        exact g_lv (by (repeat (first | exact trivial | refine And.intro rfl ?_)); done) (lp 1025 _ hd hlt 0 _ (by omega) (by omega))
  refine g_iconst (v := 0) Z dX7_both_0 (by decide) ?_
  refine g_istore_n Z dX7_both_1 (by decide) ?_
  refine g_iconst (v := 0) Z dX7_both_2 (by decide) ?_
  refine g_istore Z dX7_both_3 (by decide) ?_
  exact g_lv (by (repeat (first | exact trivial | refine And.intro rfl ?_)); done) (loop (n0 + 1) 0 _ (by omega) (by omega))

set_option maxRecDepth 100000 in
set_option maxHeartbeats 2000000 in
/-- two sets are compared -/
theorem s_X7_compare (l : Launch) (D : va_G) (cy : Nat → ClassId) (nw : Nat) (A : Nat → Nat) (x : Nat) (ho : mOk A x) (C : C5) (R : MR) (hI : InvD C) (a b : Int32) : kI l yX7_compare wsX7_compare 2 51 D cy nw [.ref x, .int a, .int b] (mP A x (C, R)) (fun _ T => (mP A x (C, R)) = T) 0 0 := by
  refine enterI (cc := cX7_compare) (nL := 6) (ret := (some .int)) (by decide +kernel) rfl (Nat.le_of_ble_eq_true rfl) ?_
  intro F Z hl hR hD hcy hnw hnm
  subst hl hD hcy hnw
  have hRf : F.R.frames = 2 := by rw [hR]
  have hRc : F.R.cells = 0 := by rw [hR]
  have hRs : F.R.slots = 0 := by rw [hR]
  have hRl : F.R.locals = 51 := by rw [hR]
  have in6 : ∀ w ∈ u_ws RX7 TX7 16, w ∈ wsX7_compare := by decide +kernel
  refine g_iload_n Z dX7_compare_0 rfl ?_
  refine g_csI Z (c_X7_isSet F.l F.D F.cy F.nw _ _) 1 gX7_compare_X7_isSet rfl (by decide +kernel) (by rw [hRf, hRl]; decide) rfl rfl (Nat.le_of_ble_eq_true rfl) dX7_compare_1 (by rw [hRc, hRs]; omega) (fun r T hp => ?_)
  obtain ⟨rfl, hia⟩ := hp
  refine g_if_eq Z 14 dX7_compare_4 (by decide) (fun h4 => ?_) (fun h4 => ?_)
  · refine g_bipush (v := (-2)) Z dX7_compare_14 (by decide) ?_
    exact g_iret Z dX7_compare_16 (by omega) (by omega) (rfl)
  · obtain ⟨a', ha, rfl⟩ := hia.is h4
    refine g_iload_n Z dX7_compare_7 rfl ?_
    refine g_csI Z (c_X7_isSet F.l F.D F.cy F.nw _ _) 1 gX7_compare_X7_isSet rfl (by decide +kernel) (by rw [hRf, hRl]; decide) rfl rfl (Nat.le_of_ble_eq_true rfl) dX7_compare_8 (by rw [hRc, hRs]; omega) (fun r T hp => ?_)
    obtain ⟨rfl, hib⟩ := hp
    refine g_if_ne Z 17 dX7_compare_11 (by decide) (fun h11 => ?_) (fun h11 => ?_)
    · obtain ⟨b', hb, rfl⟩ := hib.is h11
      refine g_aload_n Z dX7_compare_17 rfl ?_
      refine g_iload_n Z dX7_compare_18 rfl ?_
      refine g_iload_n Z dX7_compare_19 rfl ?_
      refine g_cvI Z (s_X7_both F.l F.D F.cy F.nw A x ho _ _ hI.1 _ _ (by omega) (by omega)) 2 gX7_compare_X7_both rfl (by decide +kernel) (by rw [hRf, hRl]; decide) (by exact mP_x) (κ := 6) (by exact mP_Kx) rfl (by decide) rfl rfl (Nat.le_of_ble_eq_true rfl) dX7_compare_20 (by rw [hRc, hRs]; omega) (fun r3 T3 hp => ?_)
      subst hp
      refine g_istore_n Z dX7_compare_23 (by decide) ?_
      refine g_aload_n Z dX7_compare_24 rfl ?_
      refine g_iload_n Z dX7_compare_25 rfl ?_
      refine g_cvI Z (s_X7_all F.l F.D F.cy F.nw A x ho _ _ hI.1 _ (by omega)) 1 gX7_compare_X7_all rfl (by decide +kernel) (by rw [hRf, hRl]; decide) (by exact mP_x) (κ := 6) (by exact mP_Kx) rfl (by decide) rfl rfl (Nat.le_of_ble_eq_true rfl) dX7_compare_26 (by rw [hRc, hRs]; omega) (fun r4 T4 hp => ?_)
      subst hp
      refine g_istore Z dX7_compare_29 (by decide) ?_
      refine g_aload_n Z dX7_compare_31 rfl ?_
      refine g_iload_n Z dX7_compare_32 rfl ?_
      refine g_cvI Z (s_X7_all F.l F.D F.cy F.nw A x ho _ _ hI.1 _ (by omega)) 1 gX7_compare_X7_all rfl (by decide +kernel) (by rw [hRf, hRl]; decide) (by exact mP_x) (κ := 6) (by exact mP_Kx) rfl (by decide) rfl rfl (Nat.le_of_ble_eq_true rfl) dX7_compare_33 (by rw [hRc, hRs]; omega) (fun r5 T5 hp => ?_)
      subst hp
      refine g_istore Z dX7_compare_36 (by decide) ?_
      refine g_iload_n Z dX7_compare_38 rfl ?_
      refine g_iload Z dX7_compare_39 rfl ?_
      refine g_icmp_ne Z 54 dX7_compare_41 (by decide) (fun h41 => ?_) (fun h41 => ?_)
      · refine g_iload_n Z dX7_compare_54 rfl ?_
        refine g_iload Z dX7_compare_55 rfl ?_
        refine g_icmp_ne Z 64 dX7_compare_57 (by decide) (fun h57 => ?_) (fun h57 => ?_)
        · refine g_iload_n Z dX7_compare_64 rfl ?_
          refine g_iload Z dX7_compare_65 rfl ?_
          refine g_icmp_ne Z 74 dX7_compare_67 (by decide) (fun h67 => ?_) (fun h67 => ?_)
          · refine g_iload_n Z dX7_compare_74 rfl ?_
            refine g_if_ne Z 82 dX7_compare_75 (by decide) (fun h75 => ?_) (fun h75 => ?_)
            · refine g_iconst (v := 1) Z dX7_compare_82 (by decide) ?_
              exact g_iret Z dX7_compare_83 (by omega) (by omega) (rfl)
            · refine g_iconst (v := 0) Z dX7_compare_78 (by decide) ?_
              refine g_goto Z 83 dX7_compare_79 (by decide) ?_
              exact g_iret Z dX7_compare_83 (by omega) (by omega) (rfl)
          · refine g_iconst (v := 4) Z dX7_compare_70 (by decide) ?_
            refine g_goto Z 83 dX7_compare_71 (by decide) ?_
            exact g_iret Z dX7_compare_83 (by omega) (by omega) (rfl)
        · refine g_iconst (v := 3) Z dX7_compare_60 (by decide) ?_
          refine g_goto Z 83 dX7_compare_61 (by decide) ?_
          exact g_iret Z dX7_compare_83 (by omega) (by omega) (rfl)
      · refine g_iload_n Z dX7_compare_44 rfl ?_
        refine g_iload Z dX7_compare_45 rfl ?_
        refine g_icmp_ne Z 54 dX7_compare_47 (by decide) (fun h47 => ?_) (fun h47 => ?_)
        · refine g_iload_n Z dX7_compare_54 rfl ?_
          refine g_iload Z dX7_compare_55 rfl ?_
          refine g_icmp_ne Z 64 dX7_compare_57 (by decide) (fun h57 => ?_) (fun h57 => ?_)
          · refine g_iload_n Z dX7_compare_64 rfl ?_
            refine g_iload Z dX7_compare_65 rfl ?_
            refine g_icmp_ne Z 74 dX7_compare_67 (by decide) (fun h67 => ?_) (fun h67 => ?_)
            · refine g_iload_n Z dX7_compare_74 rfl ?_
              refine g_if_ne Z 82 dX7_compare_75 (by decide) (fun h75 => ?_) (fun h75 => ?_)
              · refine g_iconst (v := 1) Z dX7_compare_82 (by decide) ?_
                exact g_iret Z dX7_compare_83 (by omega) (by omega) (rfl)
              · refine g_iconst (v := 0) Z dX7_compare_78 (by decide) ?_
                refine g_goto Z 83 dX7_compare_79 (by decide) ?_
                exact g_iret Z dX7_compare_83 (by omega) (by omega) (rfl)
            · refine g_iconst (v := 4) Z dX7_compare_70 (by decide) ?_
              refine g_goto Z 83 dX7_compare_71 (by decide) ?_
              exact g_iret Z dX7_compare_83 (by omega) (by omega) (rfl)
          · refine g_iconst (v := 3) Z dX7_compare_60 (by decide) ?_
            refine g_goto Z 83 dX7_compare_61 (by decide) ?_
            exact g_iret Z dX7_compare_83 (by omega) (by omega) (rfl)
        · refine g_iconst (v := 2) Z dX7_compare_50 (by decide) ?_
          refine g_goto Z 83 dX7_compare_51 (by decide) ?_
          exact g_iret Z dX7_compare_83 (by omega) (by omega) (rfl)
    · refine g_bipush (v := (-2)) Z dX7_compare_14 (by decide) ?_
      exact g_iret Z dX7_compare_16 (by omega) (by omega) (rfl)

