/-! count -/
def cq (V : Sv) (v : Int32) (k : Nat) : Nat := if v = 1 then k else kN V (v - 2) k
noncomputable def cntV (V : Sv) (v : Int32) : Int32 := if v = 0 then nI (sT V V.1) else if 0 < v.toInt ∧ v.toInt ≤ 4 then nI (cq V v V.1) else -2
theorem cnt_0 {V : Sv} {v : Int32} (h : v.toInt = 0) : cntV V v = nI (sT V V.1) := by
  have e : v = 0 := Int32.toInt_inj.mp (by rw [h]; decide)
  unfold cntV; rw [if_pos e]
theorem cnt_q {V : Sv} {v : Int32} (h1 : 0 < v.toInt) (h2 : v.toInt ≤ 4) : cntV V v = nI (cq V v V.1) := by
  have e : ¬ v = 0 := fun e => by rw [e] at h1; exact absurd h1 (by decide)
  unfold cntV; rw [if_neg e, if_pos ⟨h1, h2⟩]
theorem cnt_n {V : Sv} {v : Int32} (h : v.toInt < 0 ∨ 4 < v.toInt) : cntV V v = -2 := by
  have e : ¬ v = 0 := fun e => by rw [e] at h; exact absurd h (by decide)
  unfold cntV; rw [if_neg e, if_neg (by omega)]
theorem cnt_1 {V : Sv} {v : Int32} (h : v.toInt = 1) : cntV V v = nI V.1 := by
  rw [cnt_q (by omega) (by omega)]
  have e : v = 1 := Int32.toInt_inj.mp (by rw [h]; decide)
  unfold cq; rw [if_pos e]
theorem cnt_k {V : Sv} {v d : Int32} (h1 : 1 < v.toInt) (h2 : v.toInt ≤ 4) (hd : v - 2 = d) : cntV V v = nI (kN V d V.1) := by
  rw [cnt_q (by omega) (by omega)]
  have e : ¬ v = 1 := fun e => by rw [e] at h1; exact absurd h1 (by decide)
  unfold cq; rw [if_neg e, hd]
theorem cq_0 (V : Sv) (v : Int32) : cq V v 0 = 0 := by unfold cq; split <;> rfl
theorem of_ti {v d : Int32} (h : v.toInt = d.toInt) : v = d := Int32.toInt_inj.mp h

set_option maxRecDepth 100000 in
set_option maxHeartbeats 2000000 in
theorem f_X6_count (l : Launch) (D : va_G) (cy : Nat → ClassId) (nw : Nat) (S : PS) (x sa pl la br h n u rd rk rt w fa : Nat) (so O : Nat → Nat) (V : Nat → Sv) (B : Nat → Nat) (hx : FX S nw x sa pl la br h n u rd rk rt w fa so O V B) (a v : Int32) : kI l yX6_count wsX6_count 1 23 D cy nw [.ref x, .int a, .int v] S (fun r T => S = T ∧ ((∃ j, j < 8 ∧ a = nI j ∧ r = cntV (V j) v) ∨ (¬ isS a ∧ r = -2))) 0 0 := by
  refine enterI (cc := cX6_count) (nL := 3) (ret := (some .int)) (by decide +kernel) rfl (Nat.le_of_ble_eq_true rfl) ?_
  intro F Z hl hR hD hcy hnw hnm
  subst hl hD hcy hnw
  have hRf : F.R.frames = 1 := by rw [hR]
  have hRc : F.R.cells = 0 := by rw [hR]
  have hRs : F.R.slots = 0 := by rw [hR]
  have hRl : F.R.locals = 23 := by rw [hR]
  have in2 : ∀ w ∈ u_ws RX2 TX2 2, w ∈ wsX6_count := by decide +kernel
  have in5 : ∀ w ∈ u_ws RX6 TX6 6, w ∈ wsX6_count := by decide +kernel
  have lk11 : Cond.fieldLink RX6 11 (TX6 0).1 (TX6 0).2.1 (TX6 0).2.2.1 ∈ wsX6_count := by decide +kernel
  have lk71 : Cond.fieldLink RX6 71 (TX2 1).1 (TX2 1).2.1 (TX2 1).2.2.1 ∈ wsX6_count := by decide +kernel
  obtain ⟨hFO, hGV, hVok⟩ := id hx
  obtain ⟨hFx, hSa, -, -, -⟩ := id hFO
  obtain ⟨hxL, hxK, hxO, hsa, hsp, hpl, hbr, hrd, hxw, hw3⟩ := id hFx
  obtain ⟨hsaL, hsaK, hsal, hsas, hsaO⟩ := id hSa
  obtain ⟨be, it, C, hgx⟩ := id hGV
  refine g_iload_n Z dX6_count_0 rfl ?_
  refine g_csI Z (c_X6_isNoSet F.l F.D F.cy F.nw _ _) 1 gX6_count_X6_isNoSet rfl (by decide +kernel) (by rw [hRf, hRl]; decide) rfl rfl (Nat.le_of_ble_eq_true rfl) dX6_count_1 (by rw [hRc, hRs]; omega) (fun r0 T0 hq0 => ?_)
  obtain ⟨rfl, hi⟩ := hq0
  refine g_if_eq Z 10 dX6_count_4 (by decide) (fun h4 => ?_) (fun h4 => ?_)
  · obtain ⟨j, hj, rfl⟩ := isIx_0 hi h4
    have hsv := (hgx.1 j (by omega)).1
    have hss := hsv.at
    have hus := hsv.2.2.2.1
    have hcj : (nI j).toNatClampNeg = j := nI_clamp (by omega)
    have hsL := hss.1
    have hsK := hss.2.1
    refine g_iload_n Z dX6_count_10 rfl ?_
    by_cases hr : v.toInt < 0 ∨ 4 < v.toInt
    · refine g_tableOut Z 97 dX6_count_11 hr (by decide) ?_
      refine g_bipush (v := (-2)) Z dX6_count_97 (by decide) ?_
      exact g_iret Z dX6_count_99 (by omega) (by omega) ⟨rfl, Or.inl ⟨j, hj, rfl, (cnt_n hr).symm⟩⟩
    · have hv5 : v.toInt = 0 ∨ v.toInt = 1 ∨ v.toInt = 2 ∨ v.toInt = 3 ∨ v.toInt = 4 := by omega
      rcases hv5 with hv5 | hv5 | hv5 | hv5 | hv5
      · refine g_tableIn Z 44 dX6_count_11 (by omega) (by omega) (by rw [hv5]; rfl) (by decide) ?_
        refine g_aload_n Z dX6_count_44 rfl ?_
        refine g_getr Z 5 0 rfl (by decide) in5 lk11 dX6_count_45 (by assumption) (by assumption) (by assumption) ?_
        refine g_iload_n Z dX6_count_48 rfl ?_
        refine g_aald11 Z dX6_count_49 (by assumption) (by assumption) (by exact vin_of hsal (by omega) (by decide)) (by rw [hcj]; exact hsas j hj) ?_
        refine g_cvI Z (f_X2_total F.l F.D F.cy F.nw S O (be j) (so j) (it j) (C j) (V j) hsv) 0 gX6_count_X2_total rfl (by decide +kernel) (by rw [hRf, hRl]; decide) (by assumption) (κ := 2) (by assumption) rfl (by decide) rfl rfl (Nat.le_of_ble_eq_true rfl) dX6_count_50 (by rw [hRc, hRs]; omega) (fun r3 T3 hq3 => ?_)
        obtain ⟨rfl, e3⟩ := hq3
        exact g_iret Z dX6_count_53 (by omega) (by omega) ⟨rfl, Or.inl ⟨j, hj, rfl, e3.trans (cnt_0 hv5).symm⟩⟩
      · refine g_tableIn Z 54 dX6_count_11 (by omega) (by omega) (by rw [hv5]; rfl) (by decide) ?_
        refine g_aload_n Z dX6_count_54 rfl ?_
        refine g_getr Z 5 0 rfl (by decide) in5 lk11 dX6_count_55 (by assumption) (by assumption) (by assumption) ?_
        refine g_iload_n Z dX6_count_58 rfl ?_
        refine g_aald11 Z dX6_count_59 (by assumption) (by assumption) (by exact vin_of hsal (by omega) (by decide)) (by rw [hcj]; exact hsas j hj) ?_
        refine g_geti Z 2 1 rfl (by decide) in2 lk71 dX6_count_60 (by assumption) (by assumption) ?_
        exact g_iret Z dX6_count_63 (by omega) (by omega) ⟨rfl, Or.inl ⟨j, hj, rfl, (hus).trans (cnt_1 hv5).symm⟩⟩
      · refine g_tableIn Z 64 dX6_count_11 (by omega) (by omega) (by rw [hv5]; rfl) (by decide) ?_
        refine g_aload_n Z dX6_count_64 rfl ?_
        refine g_getr Z 5 0 rfl (by decide) in5 lk11 dX6_count_65 (by assumption) (by assumption) (by assumption) ?_
        refine g_iload_n Z dX6_count_68 rfl ?_
        refine g_aald11 Z dX6_count_69 (by assumption) (by assumption) (by exact vin_of hsal (by omega) (by decide)) (by rw [hcj]; exact hsas j hj) ?_
        refine g_iconst (v := 0) Z dX6_count_70 (by decide) ?_
        refine g_cvI Z (c_X2_totalOfKind F.l F.D F.cy F.nw _ (so j) (it j) (V j).1 hss _) 1 gX6_count_X2_totalOfKind rfl (by decide +kernel) (by rw [hRf, hRl]; decide) (by assumption) (κ := 2) (by assumption) rfl (by decide) rfl rfl (Nat.le_of_ble_eq_true rfl) dX6_count_71 (by rw [hRc, hRs]; omega) (fun r3 T3 hq3 => ?_)
        obtain ⟨rfl, e3⟩ := hq3
        exact g_iret Z dX6_count_74 (by omega) (by omega) ⟨rfl, Or.inl ⟨j, hj, rfl, (e3.trans (hsv.sq.tk _ _ (Nat.le_refl _))).trans (cnt_k (by omega) (by omega) (by rw [of_ti (d := 2) (hv5.trans (by decide))]; decide)).symm⟩⟩
      · refine g_tableIn Z 75 dX6_count_11 (by omega) (by omega) (by rw [hv5]; rfl) (by decide) ?_
        refine g_aload_n Z dX6_count_75 rfl ?_
        refine g_getr Z 5 0 rfl (by decide) in5 lk11 dX6_count_76 (by assumption) (by assumption) (by assumption) ?_
        refine g_iload_n Z dX6_count_79 rfl ?_
        refine g_aald11 Z dX6_count_80 (by assumption) (by assumption) (by exact vin_of hsal (by omega) (by decide)) (by rw [hcj]; exact hsas j hj) ?_
        refine g_iconst (v := 1) Z dX6_count_81 (by decide) ?_
        refine g_cvI Z (c_X2_totalOfKind F.l F.D F.cy F.nw _ (so j) (it j) (V j).1 hss _) 1 gX6_count_X2_totalOfKind rfl (by decide +kernel) (by rw [hRf, hRl]; decide) (by assumption) (κ := 2) (by assumption) rfl (by decide) rfl rfl (Nat.le_of_ble_eq_true rfl) dX6_count_82 (by rw [hRc, hRs]; omega) (fun r3 T3 hq3 => ?_)
        obtain ⟨rfl, e3⟩ := hq3
        exact g_iret Z dX6_count_85 (by omega) (by omega) ⟨rfl, Or.inl ⟨j, hj, rfl, (e3.trans (hsv.sq.tk _ _ (Nat.le_refl _))).trans (cnt_k (by omega) (by omega) (by rw [of_ti (d := 3) (hv5.trans (by decide))]; decide)).symm⟩⟩
      · refine g_tableIn Z 86 dX6_count_11 (by omega) (by omega) (by rw [hv5]; rfl) (by decide) ?_
        refine g_aload_n Z dX6_count_86 rfl ?_
        refine g_getr Z 5 0 rfl (by decide) in5 lk11 dX6_count_87 (by assumption) (by assumption) (by assumption) ?_
        refine g_iload_n Z dX6_count_90 rfl ?_
        refine g_aald11 Z dX6_count_91 (by assumption) (by assumption) (by exact vin_of hsal (by omega) (by decide)) (by rw [hcj]; exact hsas j hj) ?_
        refine g_iconst (v := 2) Z dX6_count_92 (by decide) ?_
        refine g_cvI Z (c_X2_totalOfKind F.l F.D F.cy F.nw _ (so j) (it j) (V j).1 hss _) 1 gX6_count_X2_totalOfKind rfl (by decide +kernel) (by rw [hRf, hRl]; decide) (by assumption) (κ := 2) (by assumption) rfl (by decide) rfl rfl (Nat.le_of_ble_eq_true rfl) dX6_count_93 (by rw [hRc, hRs]; omega) (fun r3 T3 hq3 => ?_)
        obtain ⟨rfl, e3⟩ := hq3
        exact g_iret Z dX6_count_96 (by omega) (by omega) ⟨rfl, Or.inl ⟨j, hj, rfl, (e3.trans (hsv.sq.tk _ _ (Nat.le_refl _))).trans (cnt_k (by omega) (by omega) (by rw [of_ti (d := 4) (hv5.trans (by decide))]; decide)).symm⟩⟩
  · have hno := isIx_1 (by decide) hi h4
    refine g_bipush (v := (-2)) Z dX6_count_7 (by decide) ?_
    exact g_iret Z dX6_count_9 (by omega) (by omega) ⟨rfl, Or.inr ⟨hno, rfl⟩⟩

set_option maxRecDepth 100000 in
set_option maxHeartbeats 2000000 in
theorem f_X7_count (l : Launch) (D : va_G) (cy : Nat → ClassId) (nw : Nat) (A : Nat → Nat) (x : Nat) (ho : mOk A x) (C : C5) (R : MR) (V : Nat → Sv) (hM : MV C V) (a v : Int32) : kI l yX7_count wsX7_count 2 45 D cy nw [.ref x, .int a, .int v] (mP A x (C, R)) (fun r T => (mP A x (C, R)) = T ∧ ((∃ j, j < 8 ∧ a = nI j ∧ r = cntV (V j) v) ∨ (¬ isS a ∧ r = -2))) 0 0 := by
  refine enterI (cc := cX7_count) (nL := 5) (ret := (some .int)) (by decide +kernel) rfl (Nat.le_of_ble_eq_true rfl) ?_
  intro F Z hl hR hD hcy hnw hnm
  subst hl hD hcy hnw
  have hRf : F.R.frames = 2 := by rw [hR]
  have hRc : F.R.cells = 0 := by rw [hR]
  have hRs : F.R.slots = 0 := by rw [hR]
  have hRl : F.R.locals = 45 := by rw [hR]
  have in6 : ∀ w ∈ u_ws RX7 TX7 16, w ∈ wsX7_count := by decide +kernel
  have lk7 : Cond.fieldLink RX7 7 (TX7 0).1 (TX7 0).2.1 (TX7 0).2.2.1 ∈ wsX7_count := by decide +kernel
  have lk16 : Cond.fieldLink RX7 16 (TX7 2).1 (TX7 2).2.1 (TX7 2).2.2.1 ∈ wsX7_count := by decide +kernel
  have ct148 : Cond.constantLong RX7 148 (4) ∈ wsX7_count := by decide +kernel
  have loop : ∀ (n s n0 : Nat), s < 8 → n0 ≤ 6 → C.mn s = nI n0 → (∀ i, i < n0 → C.kd (6 * s + i) = ((V s).2 i).2.1) → (∀ r, r = nI (cq (V s) v n0) → (∃ j, j < 8 ∧ a = nI j ∧ r = cntV (V j) v) ∨ (¬ isS a ∧ r = -2)) → ∀ (k : Nat), n0 - k < n → k ≤ n0 → G F 5 (mP A x (C, R)) 0 0 (QI F (fun r T => (mP A x (C, R)) = T ∧ ((∃ j, j < 8 ∧ a = nI j ∧ r = cntV (V j) v) ∨ (¬ isS a ∧ r = -2))) 0 0) 37 [(0, .ref x), (1, .int (nI s)), (2, .int v), (3, .int (nI (cq (V s) v k))), (4, .int (nI k))] [] := by
    intro n s n0 hs hn0 en hkd hQ
    induction n with
    | zero => intros; omega
    | succ n ih =>
      intro k hn hk
      refine g_iload Z dX7_count_37 rfl ?_
      refine g_aload_n Z dX7_count_39 rfl ?_
      refine m_ref_mn Z in6 lk7 dX7_count_40 ?_
      refine g_iload_n Z dX7_count_43 rfl ?_
      refine m_ald_mn Z ho dX7_count_44 (by exact vp_in_nI (by omega) (by decide)) ?_
      rw [nI_clamp (by omega), en]
      refine g_icmp_ge Z 85 dX7_count_45 (by decide) (fun h45 => ?_) (fun h45 => ?_)
      · have hge : n0 ≤ k := ge_t (by omega) (by omega) h45
        refine g_iload_n Z dX7_count_85 rfl ?_
        exact g_iret Z dX7_count_86 (by omega) (by omega) ⟨rfl, hQ _ (by rw [show k = n0 by omega])⟩
      · have hlt : k < n0 := ge_f (by omega) (by omega) h45
        refine g_iload_n Z dX7_count_48 rfl ?_
        refine g_iload_n Z dX7_count_49 rfl ?_
        refine g_iconst (v := 1) Z dX7_count_50 (by decide) ?_
        refine g_icmp_eq Z 72 dX7_count_51 (by decide) (fun h51 => ?_) (fun h51 => ?_)
        · refine g_iconst (v := 1) Z dX7_count_72 (by decide) ?_
          refine g_goto Z 77 dX7_count_73 (by decide) ?_
          refine g_iadd Z dX7_count_77 ?_
          rw [show nI (cq (V s) v k) + 1 = nI (cq (V s) v (k + 1)) by rw [nI_1]; unfold cq; rw [if_pos h51, if_pos h51]]
          refine g_istore_n Z dX7_count_78 (by decide) ?_
          refine g_iinc (c := 1) Z dX7_count_79 rfl (by decide) (by decide) ?_
          rw [nI_1]
          refine g_goto Z 37 dX7_count_82 (by decide) ?_
          exact g_lv (by (repeat (first | exact trivial | refine And.intro rfl ?_)); done) (ih (k + 1) (by omega) (by omega))
        · refine g_aload_n Z dX7_count_54 rfl ?_
          refine m_ref_kd Z in6 lk16 dX7_count_55 ?_
          refine g_bipush (v := 6) Z dX7_count_58 (by decide) ?_
          refine g_iload_n Z dX7_count_60 rfl ?_
          refine g_imul Z dX7_count_61 ?_
          refine g_iload Z dX7_count_62 rfl ?_
          refine g_iadd Z dX7_count_64 ?_
          rw [ix6]
          refine m_ald_kd Z ho dX7_count_65 (by exact vp_in_nI (by omega) (by decide)) ?_
          rw [nI_clamp (by omega)]
          refine g_iload_n Z dX7_count_66 rfl ?_
          refine g_iconst (v := 2) Z dX7_count_67 (by decide) ?_
          refine g_isub Z dX7_count_68 ?_
          refine g_icmp_ne Z 76 dX7_count_69 (by decide) (fun h69 => ?_) (fun h69 => ?_)
          · refine g_iconst (v := 0) Z dX7_count_76 (by decide) ?_
            refine g_iadd Z dX7_count_77 ?_
            rw [show nI (cq (V s) v k) + 0 = nI (cq (V s) v (k + 1)) by rw [Int32.add_zero]; unfold cq; rw [if_neg h51, if_neg h51]; exact congrArg nI (if_neg (by rw [← hkd k hlt]; exact h69)).symm]
            refine g_istore_n Z dX7_count_78 (by decide) ?_
            refine g_iinc (c := 1) Z dX7_count_79 rfl (by decide) (by decide) ?_
            rw [nI_1]
            refine g_goto Z 37 dX7_count_82 (by decide) ?_
            exact g_lv (by (repeat (first | exact trivial | refine And.intro rfl ?_)); done) (ih (k + 1) (by omega) (by omega))
          · refine g_iconst (v := 1) Z dX7_count_72 (by decide) ?_
            refine g_goto Z 77 dX7_count_73 (by decide) ?_
            refine g_iadd Z dX7_count_77 ?_
            rw [show nI (cq (V s) v k) + 1 = nI (cq (V s) v (k + 1)) by rw [nI_1]; unfold cq; rw [if_neg h51, if_neg h51]; exact congrArg nI (if_pos (by rw [← hkd k hlt]; exact h69)).symm]
            refine g_istore_n Z dX7_count_78 (by decide) ?_
            refine g_iinc (c := 1) Z dX7_count_79 rfl (by decide) (by decide) ?_
            rw [nI_1]
            refine g_goto Z 37 dX7_count_82 (by decide) ?_
            exact g_lv (by (repeat (first | exact trivial | refine And.intro rfl ?_)); done) (ih (k + 1) (by omega) (by omega))
  refine g_iload_n Z dX7_count_0 rfl ?_
  refine g_csI Z (c_X7_isSet F.l F.D F.cy F.nw _ _) 1 gX7_count_X7_isSet rfl (by decide +kernel) (by rw [hRf, hRl]; decide) rfl rfl (Nat.le_of_ble_eq_true rfl) dX7_count_1 (by rw [hRc, hRs]; omega) (fun r T hp => ?_)
  obtain ⟨rfl, his⟩ := hp
  refine g_if_eq Z 19 dX7_count_4 (by decide) (fun h4 => ?_) (fun h4 => ?_)
  · have hno := his.f' h4
    refine g_bipush (v := (-2)) Z dX7_count_19 (by decide) ?_
    exact g_iret Z dX7_count_21 (by omega) (by omega) ⟨rfl, Or.inr ⟨hno, rfl⟩⟩
  · obtain ⟨s, hs, rfl⟩ := his.is h4
    have hs8 : s < 8 := by omega
    have hMs := hM s hs8
    have hn0 := hMs.1
    refine g_iload_n Z dX7_count_7 rfl ?_
    refine g_i2l Z dX7_count_8 ?_
    refine g_lconst (v := 0) Z dX7_count_9 (by decide) ?_
    refine g_ldc2 (v := 4) Z dX7_count_10 ct148 ?_
    refine g_csI Z (c_X7_in F.l F.D F.cy F.nw _ _ _ _) 3 gX7_count_X7_in rfl (by decide +kernel) (by rw [hRf, hRl]; decide) rfl rfl (Nat.le_of_ble_eq_true rfl) dX7_count_13 (by rw [hRc, hRs]; omega) (fun r T hp => ?_)
    obtain ⟨rfl, hin⟩ := hp
    have hin := in_R (a := 0) (b := 4) (by decide) (by decide) hin
    refine g_if_ne Z 22 dX7_count_16 (by decide) (fun h16 => ?_) (fun h16 => ?_)
    · have hv : 0 ≤ v.toInt ∧ v.toInt ≤ 4 := by
        rcases hin with ⟨-, q, -, hq, e⟩ | ⟨e, -⟩
        · rw [e, nI_toInt (by omega)]; omega
        · exact absurd e h16
      refine g_iload_n Z dX7_count_22 rfl ?_
      refine g_if_ne Z 32 dX7_count_23 (by decide) (fun h23 => ?_) (fun h23 => ?_)
      · refine g_iconst (v := 0) Z dX7_count_32 (by decide) ?_
        refine g_istore_n Z dX7_count_33 (by decide) ?_
        refine g_iconst (v := 0) Z dX7_count_34 (by decide) ?_
        refine g_istore Z dX7_count_35 (by decide) ?_
        have hlp := (loop ((V s).1 + 1) s (V s).1 hs8 hn0 hMs.2.1 (fun i h => (hMs.2.2 i h).2.1) (fun r e => Or.inl ⟨s, hs8, rfl, e.trans (cnt_q (by rcases Int.lt_or_eq_of_le hv.1 with q | q; exact q; exact absurd (of_ti (q.symm.trans (by decide))) h23) hv.2).symm⟩) 0 (by omega) (by omega))
        rw [cq_0] at hlp
        exact g_lv (by (repeat (first | exact trivial | refine And.intro rfl ?_)); done) hlp
      · refine g_aload_n Z dX7_count_26 rfl ?_
        refine g_iload_n Z dX7_count_27 rfl ?_
        refine g_cvI Z (f_X7_all F.l F.D F.cy F.nw A x ho _ _ s (by omega) (V s) hMs) 1 gX7_count_X7_all rfl (by decide +kernel) (by rw [hRf, hRl]; decide) (by exact mP_x) (κ := 6) (by exact mP_Kx) rfl (by decide) rfl rfl (Nat.le_of_ble_eq_true rfl) dX7_count_28 (by rw [hRc, hRs]; omega) (fun r T hp => ?_)
        obtain ⟨rfl, e3⟩ := hp
        exact g_iret Z dX7_count_31 (by omega) (by omega) ⟨rfl, Or.inl ⟨s, hs8, rfl, e3.trans (cnt_0 (by rw [h23]; decide)).symm⟩⟩
    · have hv : v.toInt < 0 ∨ 4 < v.toInt := by
        rcases hin with ⟨e, -⟩ | ⟨-, hn⟩
        · exact absurd e (by rw [h16]; decide)
        · by_cases q : v.toInt < 0
          · exact Or.inl q
          · by_cases q2 : 4 < v.toInt
            · exact Or.inr q2
            · exact absurd ⟨v.toInt.toNat, Nat.zero_le _, by omega, of_ti (by rw [nI_toInt (by omega)]; omega)⟩ hn
      refine g_bipush (v := (-2)) Z dX7_count_19 (by decide) ?_
      exact g_iret Z dX7_count_21 (by omega) (by omega) ⟨rfl, Or.inl ⟨s, hs8, rfl, (cnt_n hv).symm⟩⟩
