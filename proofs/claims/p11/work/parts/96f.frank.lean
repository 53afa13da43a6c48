/-! rank -/
noncomputable def rkN (V : Sv) (key low : Nat) : Nat → Nat
  | 0 => 0
  | k + 1 => rkN V key low k + (if (V.2 k).1 < key then tot (V.2 k).2.2 else if (V.2 k).1 = key then ct (V.2 k).2.2 0 (low + 1) else 0)
theorem rkN_lt {V : Sv} {key low k : Nat} (h : (V.2 k).1 < key) : rkN V key low k + tot (V.2 k).2.2 = rkN V key low (k + 1) := by
  show _ = rkN V key low k + _
  rw [if_pos h]
theorem rkN_eq {V : Sv} {key low k : Nat} (h : (V.2 k).1 = key) : rkN V key low k + ct (V.2 k).2.2 0 (low + 1) = rkN V key low (k + 1) := by
  show _ = rkN V key low k + _
  rw [if_neg (by omega), if_pos h]
theorem rkN_gt {V : Sv} {key low k : Nat} (h : key < (V.2 k).1) : rkN V key low k = rkN V key low (k + 1) := by
  show _ = rkN V key low k + _
  rw [if_neg (by omega), if_neg (by omega), Nat.add_zero]
theorem rkN_stop {V : Sv} (hs : Srt V) {key low j : Nat} (h : key < (V.2 j).1) : ∀ n, j + n ≤ V.1 → rkN V key low j = rkN V key low (j + n)
  | 0, _ => rfl
  | n + 1, hn => by
    rw [rkN_stop hs h n (by omega)]
    refine rkN_gt (V := V) (k := j + n) ?_
    rcases Nat.eq_zero_or_pos n with e | e
    · rw [e]; exact h
    · have := hs j (j + n) (by omega) (by omega); omega

set_option maxRecDepth 100000 in
set_option maxHeartbeats 2000000 in
theorem f_X2_totalUpTo (l : Launch) (D : va_G) (cy : Nat → ClassId) (nw : Nat) (S : PS) (O : Nat → Nat) (b s it : Nat) (C : Nat → Nat) (V : Sv) (hv : SV S nw O b s it C V) (hst : Srt V) (key : Nat) (hkey : key < 65536) (y : Nat) (hy : y < 65536) : kI l yX2_totalUpTo wsX2_totalUpTo 2 45 D cy nw [.ref s, .int (nI key), .int (nI y)] S (fun r T => S = T ∧ r = nI (rkN V key y V.1)) 0 0 := by
  refine enterI (cc := cX2_totalUpTo) (nL := 5) (ret := (some .int)) (by decide +kernel) rfl (Nat.le_of_ble_eq_true rfl) ?_
  intro F Z hl hR hD hcy hnw hnm
  subst hl hD hcy hnw
  have hRf : F.R.frames = 2 := by rw [hR]
  have hRc : F.R.cells = 0 := by rw [hR]
  have hRs : F.R.slots = 0 := by rw [hR]
  have hRl : F.R.locals = 45 := by rw [hR]
  have in1 : ∀ w ∈ u_ws RX1 TX1 4, w ∈ wsX2_totalUpTo := by decide +kernel
  have in2 : ∀ w ∈ u_ws RX2 TX2 2, w ∈ wsX2_totalUpTo := by decide +kernel
  have lk11 : Cond.fieldLink RX2 11 (TX2 0).1 (TX2 0).2.1 (TX2 0).2.2.1 ∈ wsX2_totalUpTo := by decide +kernel
  have lk18 : Cond.fieldLink RX2 18 (TX2 1).1 (TX2 1).2.1 (TX2 1).2.2.1 ∈ wsX2_totalUpTo := by decide +kernel
  have lk26 : Cond.fieldLink RX2 26 (TX1 0).1 (TX1 0).2.1 (TX1 0).2.2.1 ∈ wsX2_totalUpTo := by decide +kernel
  have lk63 : Cond.fieldLink RX2 63 (TX1 2).1 (TX1 2).2.1 (TX1 2).2.2.1 ∈ wsX2_totalUpTo := by decide +kernel
  obtain ⟨hsL, hsK, hsit, hitL, hitK, hitl, -, hu7, hsw, hsr⟩ := id hv.at
  have hsu := hv.2.2.2.1
  have hV7 := hv.2.2.2.2.1
  have loop : ∀ (n : Nat) (j : Nat), 8 - j < n → j ≤ V.1 → G F 5 S 0 0 (QI F (fun r T => S = T ∧ r = nI (rkN V key y V.1)) 0 0) 5 [(0, .ref s), (1, .int (nI key)), (2, .int (nI y)), (3, .int (nI (rkN V key y j))), (4, .int (nI j))] [] := by
    intro n
    induction n with
    | zero => intros; omega
    | succ n ih =>
      intro j hn hj
      refine g_iload Z dX2_totalUpTo_5 rfl ?_
      refine g_aload_n Z dX2_totalUpTo_7 rfl ?_
      refine g_geti Z 2 1 rfl (by decide) in2 lk18 dX2_totalUpTo_8 (by assumption) (by assumption) ?_
      rw [hsu]
      refine g_icmp_ge Z 75 dX2_totalUpTo_11 (by decide) (fun h11 => ?_) (fun h11 => ?_)
      · have hge : V.1 ≤ j := ge_t (by omega) (by omega) h11
        refine g_iload_n Z dX2_totalUpTo_75 rfl ?_
        exact g_iret Z dX2_totalUpTo_76 (by omega) (by omega) ⟨rfl, by rw [show j = V.1 by omega]⟩
      · have hlt : j < V.1 := ge_f (by omega) (by omega) h11
        have hc := hv.rr (j := j) (by omega)
        have hcv := hv.cv hlt
        have hcr := hcv.cr
        obtain ⟨hcL, hcK, -, -⟩ := id hcr
        have hkj := hcv.ky
        have htt := hcv.tt
        have hcl : (nI j).toNatClampNeg = j := nI_clamp (by omega)
        refine g_aload_n Z dX2_totalUpTo_14 rfl ?_
        refine g_getr Z 2 0 rfl (by decide) in2 lk11 dX2_totalUpTo_15 (by assumption) (by assumption) (by assumption) ?_
        refine g_iload Z dX2_totalUpTo_18 rfl ?_
        refine g_aald10 Z dX2_totalUpTo_20 (by assumption) (by assumption) (by exact vin_of hitl (by omega) (by decide)) (by rw [hcl]; exact hc) ?_
        refine g_geti Z 1 0 rfl (by decide) in1 lk26 dX2_totalUpTo_21 (by assumption) (by assumption) ?_
        refine g_iload_n Z dX2_totalUpTo_24 rfl ?_
        rw [hkj.1]
        refine g_icmp_gt Z 75 dX2_totalUpTo_25 (by decide) (fun h25 => ?_) (fun h25 => ?_)
        · have hgt : key < (V.2 j).1 := lt_t (by omega) (by omega) h25
          refine g_iload_n Z dX2_totalUpTo_75 rfl ?_
          exact g_iret Z dX2_totalUpTo_76 (by omega) (by omega) ⟨rfl, by have e := rkN_stop (low := y) hst hgt (V.1 - j) (by omega); rw [show j + (V.1 - j) = V.1 by omega] at e; rw [e]⟩
        · refine g_iload_n Z dX2_totalUpTo_28 rfl ?_
          refine g_aload_n Z dX2_totalUpTo_29 rfl ?_
          refine g_getr Z 2 0 rfl (by decide) in2 lk11 dX2_totalUpTo_30 (by assumption) (by assumption) (by assumption) ?_
          refine g_iload Z dX2_totalUpTo_33 rfl ?_
          refine g_aald10 Z dX2_totalUpTo_35 (by assumption) (by assumption) (by exact vin_of hitl (by omega) (by decide)) (by rw [hcl]; exact hc) ?_
          refine g_geti Z 1 0 rfl (by decide) in1 lk26 dX2_totalUpTo_36 (by assumption) (by assumption) ?_
          refine g_iload_n Z dX2_totalUpTo_39 rfl ?_
          rw [hkj.1]
          refine g_icmp_ge Z 56 dX2_totalUpTo_40 (by decide) (fun h40 => ?_) (fun h40 => ?_)
          · have hek : (V.2 j).1 = key := by
              have h1 := gt_f (by omega) (by omega) h25
              have h2 := ge_t (by omega) (by omega) h40
              omega
            refine g_aload_n Z dX2_totalUpTo_56 rfl ?_
            refine g_getr Z 2 0 rfl (by decide) in2 lk11 dX2_totalUpTo_57 (by assumption) (by assumption) (by assumption) ?_
            refine g_iload Z dX2_totalUpTo_60 rfl ?_
            refine g_aald10 Z dX2_totalUpTo_62 (by assumption) (by assumption) (by exact vin_of hitl (by omega) (by decide)) (by rw [hcl]; exact hc) ?_
            refine g_iload_n Z dX2_totalUpTo_63 rfl ?_
            refine g_cvI Z (f_X1_lowsUpTo F.l F.D F.cy F.nw _ (C j) (V.2 j) hcv y hy) 1 gX2_totalUpTo_X1_lowsUpTo rfl (by decide +kernel) (by rw [hRf, hRl]; decide) (by assumption) (κ := 1) (by assumption) rfl (by decide) rfl rfl (Nat.le_of_ble_eq_true rfl) dX2_totalUpTo_64 (by rw [hRc, hRs]; omega) (fun r2 U hp => ?_)
            obtain ⟨rfl, e3⟩ := hp
            refine g_iadd Z dX2_totalUpTo_67 ?_
            rw [e3, nI_add, rkN_eq hek]
            refine g_istore_n Z dX2_totalUpTo_68 (by decide) ?_
            refine g_iinc (c := 1) Z dX2_totalUpTo_69 rfl (by decide) (by decide) ?_
            rw [nI_1]
            refine g_goto Z 5 dX2_totalUpTo_72 (by decide) ?_
            exact g_lv (by (repeat (first | exact trivial | refine And.intro rfl ?_)); done) (ih (j + 1) (by omega) (by omega))
          · have hlk : (V.2 j).1 < key := ge_f (by omega) (by omega) h40
            refine g_aload_n Z dX2_totalUpTo_43 rfl ?_
            refine g_getr Z 2 0 rfl (by decide) in2 lk11 dX2_totalUpTo_44 (by assumption) (by assumption) (by assumption) ?_
            refine g_iload Z dX2_totalUpTo_47 rfl ?_
            refine g_aald10 Z dX2_totalUpTo_49 (by assumption) (by assumption) (by exact vin_of hitl (by omega) (by decide)) (by rw [hcl]; exact hc) ?_
            refine g_geti Z 1 2 rfl (by decide) in1 lk63 dX2_totalUpTo_50 (by assumption) (by assumption) ?_
            refine g_goto Z 67 dX2_totalUpTo_53 (by decide) ?_
            refine g_iadd Z dX2_totalUpTo_67 ?_
            rw [htt, nI_add, rkN_lt hlk]
            refine g_istore_n Z dX2_totalUpTo_68 (by decide) ?_
            refine g_iinc (c := 1) Z dX2_totalUpTo_69 rfl (by decide) (by decide) ?_
            rw [nI_1]
            refine g_goto Z 5 dX2_totalUpTo_72 (by decide) ?_
            exact g_lv (by (repeat (first | exact trivial | refine And.intro rfl ?_)); done) (ih (j + 1) (by omega) (by omega))
  refine g_iconst (v := 0) Z dX2_totalUpTo_0 (by decide) ?_
  refine g_istore_n Z dX2_totalUpTo_1 (by decide) ?_
  refine g_iconst (v := 0) Z dX2_totalUpTo_2 (by decide) ?_
  refine g_istore Z dX2_totalUpTo_3 (by decide) ?_
  exact g_lv (by (repeat (first | exact trivial | refine And.intro rfl ?_)); done) (loop 9 0 (by omega) (by omega))

set_option maxRecDepth 100000 in
set_option maxHeartbeats 2000000 in
theorem f_X6_rank (l : Launch) (D : va_G) (cy : Nat → ClassId) (nw : Nat) (S : PS) (x sa pl la br h n u rd rk rt w fa : Nat) (so O : Nat → Nat) (V : Nat → Sv) (B : Nat → Nat) (hx : FX S nw x sa pl la br h n u rd rk rt w fa so O V B) (a v : Int32) : kI l yX6_rank wsX6_rank 3 69 D cy nw [.ref x, .int a, .int v] S (fun r T => S = T ∧ ((∃ j, j < 8 ∧ a = nI j ∧ r = nI (rkN (V j) (kyI v) (loI v) (V j).1)) ∨ (¬ isS a ∧ r = -2))) 0 0 := by
  refine enterI (cc := cX6_rank) (nL := 3) (ret := (some .int)) (by decide +kernel) rfl (Nat.le_of_ble_eq_true rfl) ?_
  intro F Z hl hR hD hcy hnw hnm
  subst hl hD hcy hnw
  have hRf : F.R.frames = 3 := by rw [hR]
  have hRc : F.R.cells = 0 := by rw [hR]
  have hRs : F.R.slots = 0 := by rw [hR]
  have hRl : F.R.locals = 69 := by rw [hR]
  have in5 : ∀ w ∈ u_ws RX6 TX6 6, w ∈ wsX6_rank := by decide +kernel
  have lk11 : Cond.fieldLink RX6 11 (TX6 0).1 (TX6 0).2.1 (TX6 0).2.2.1 ∈ wsX6_rank := by decide +kernel
  obtain ⟨hFO, hGV, hVok⟩ := id hx
  obtain ⟨hFx, hSa, -, -, -⟩ := id hFO
  obtain ⟨hxL, hxK, hxO, hsa, hsp, hpl, hbr, hrd, hxw, hw3⟩ := id hFx
  obtain ⟨hsaL, hsaK, hsal, hsas, hsaO⟩ := id hSa
  obtain ⟨be, it, C, hgx⟩ := id hGV
  refine g_iload_n Z dX6_rank_0 rfl ?_
  refine g_csI Z (c_X6_isNoSet F.l F.D F.cy F.nw _ _) 1 gX6_rank_X6_isNoSet rfl (by decide +kernel) (by rw [hRf, hRl]; decide) rfl rfl (Nat.le_of_ble_eq_true rfl) dX6_rank_1 (by rw [hRc, hRs]; omega) (fun r0 T0 hq0 => ?_)
  obtain ⟨rfl, hi⟩ := hq0
  refine g_if_eq Z 12 dX6_rank_4 (by decide) (fun h4 => ?_) (fun h4 => ?_)
  · obtain ⟨j, hj, rfl⟩ := isIx_0 hi h4
    have hss := (hgx.1 j (by omega)).1
    have hcj : (nI j).toNatClampNeg = j := nI_clamp (by omega)
    have hsL := hss.1
    have hsK := hss.2.1
    refine g_aload_n Z dX6_rank_12 rfl ?_
    refine g_getr Z 5 0 rfl (by decide) in5 lk11 dX6_rank_13 (by assumption) (by assumption) (by assumption) ?_
    refine g_iload_n Z dX6_rank_16 rfl ?_
    refine g_aald11 Z dX6_rank_17 (by assumption) (by assumption) (by exact vin_of hsal (by omega) (by decide)) (by rw [hcj]; exact hsas j hj) ?_
    refine g_iload_n Z dX6_rank_18 rfl ?_
    refine g_csI Z (c_X6_keyOf F.l F.D F.cy F.nw _ _) 1 gX6_rank_X6_keyOf rfl (by decide +kernel) (by rw [hRf, hRl]; decide) rfl rfl (Nat.le_of_ble_eq_true rfl) dX6_rank_19 (by rw [hRc, hRs]; omega) (fun r1 T1 hq1 => ?_)
    obtain ⟨rfl, rfl⟩ := hq1
    rw [kyI_eq]
    refine g_iload_n Z dX6_rank_22 rfl ?_
    refine g_csI Z (c_X6_lowOf F.l F.D F.cy F.nw _ _) 1 gX6_rank_X6_lowOf rfl (by decide +kernel) (by rw [hRf, hRl]; decide) rfl rfl (Nat.le_of_ble_eq_true rfl) dX6_rank_23 (by rw [hRc, hRs]; omega) (fun r1 T1 hq1 => ?_)
    obtain ⟨rfl, rfl⟩ := hq1
    rw [loI_eq]
    refine g_cvI Z (f_X2_totalUpTo F.l F.D F.cy F.nw S O (be j) (so j) (it j) (C j) (V j) hss (hVok j hj).2.1 (kyI v) (kyI_lt v) (loI v) (loI_lt v)) 2 gX6_rank_X2_totalUpTo rfl (by decide +kernel) (by rw [hRf, hRl]; decide) (by assumption) (κ := 2) (by assumption) rfl (by decide) rfl rfl (Nat.le_of_ble_eq_true rfl) dX6_rank_26 (by rw [hRc, hRs]; omega) (fun r3 T3 hq3 => ?_)
    obtain ⟨rfl, e3⟩ := hq3
    exact g_iret Z dX6_rank_29 (by omega) (by omega) ⟨rfl, Or.inl ⟨j, hj, rfl, e3⟩⟩
  · have hno := isIx_1 (by decide) hi h4
    refine g_bipush (v := (-2)) Z dX6_rank_7 (by decide) ?_
    refine g_goto Z 29 dX6_rank_9 (by decide) ?_
    exact g_iret Z dX6_rank_29 (by omega) (by omega) ⟨rfl, Or.inr ⟨hno, rfl⟩⟩

set_option maxRecDepth 100000 in
set_option maxHeartbeats 2000000 in
theorem f_X7_rank (l : Launch) (D : va_G) (cy : Nat → ClassId) (nw : Nat) (A : Nat → Nat) (x : Nat) (ho : mOk A x) (C : C5) (R : MR) (V : Nat → Sv) (hM : MV C V) (hV : ∀ s, s < 8 → Vok (V s)) (a v : Int32) : kI l yX7_rank wsX7_rank 2 45 D cy nw [.ref x, .int a, .int v] (mP A x (C, R)) (fun r T => (mP A x (C, R)) = T ∧ ((∃ j, j < 8 ∧ a = nI j ∧ r = nI (rkN (V j) (kyI v) (loI v) (V j).1)) ∨ (¬ isS a ∧ r = -2))) 0 0 := by
  refine enterI (cc := cX7_rank) (nL := 9) (ret := (some .int)) (by decide +kernel) rfl (Nat.le_of_ble_eq_true rfl) ?_
  intro F Z hl hR hD hcy hnw hnm
  subst hl hD hcy hnw
  have hRf : F.R.frames = 2 := by rw [hR]
  have hRc : F.R.cells = 0 := by rw [hR]
  have hRs : F.R.slots = 0 := by rw [hR]
  have hRl : F.R.locals = 45 := by rw [hR]
  have in6 : ∀ w ∈ u_ws RX7 TX7 16, w ∈ wsX7_rank := by decide +kernel
  have lk7 : Cond.fieldLink RX7 7 (TX7 0).1 (TX7 0).2.1 (TX7 0).2.2.1 ∈ wsX7_rank := by decide +kernel
  have lk13 : Cond.fieldLink RX7 13 (TX7 1).1 (TX7 1).2.1 (TX7 1).2.2.1 ∈ wsX7_rank := by decide +kernel
  have lk19 : Cond.fieldLink RX7 19 (TX7 3).1 (TX7 3).2.1 (TX7 3).2.2.1 ∈ wsX7_rank := by decide +kernel
  have lk23 : Cond.fieldLink RX7 23 (TX7 4).1 (TX7 4).2.1 (TX7 4).2.2.1 ∈ wsX7_rank := by decide +kernel
  have ct74 : Cond.constant RX7 74 (65535) ∈ wsX7_rank := by decide +kernel
  obtain ⟨b, hb, eb, ebl⟩ : ∃ b, b < 65536 ∧ v &&& 65535 = nI b ∧ b = loI v := ⟨loI v, loI_lt v, loI_eq v, rfl⟩
  obtain ⟨key, hkey, ekey, ekl⟩ : ∃ k, k < 65536 ∧ nI (kyI v) = nI k ∧ k = kyI v := ⟨kyI v, kyI_lt v, rfl, rfl⟩
  have loop : ∀ (n s n0 : Nat), s < 8 → n0 ≤ 6 → C.mn s = nI n0 → (∀ i, i < n0 → Mc C (6 * s + i) ((V s).2 i) ∧ ((V s).2 i).1 < 65536) → (∀ r, r = nI (rkN (V s) key b n0) → (∃ j, j < 8 ∧ a = nI j ∧ r = nI (rkN (V j) (kyI v) (loI v) (V j).1)) ∨ (¬ isS a ∧ r = -2)) → ∀ (k : Nat), n0 - k < n → k ≤ n0 → G F 9 (mP A x (C, R)) 0 0 (QI F (fun r T => (mP A x (C, R)) = T ∧ ((∃ j, j < 8 ∧ a = nI j ∧ r = nI (rkN (V j) (kyI v) (loI v) (V j).1)) ∨ (¬ isS a ∧ r = -2))) 0 0) 27 [(0, .ref x), (1, .int (nI s)), (3, .int (nI (rkN (V s) key b k))), (4, .int (nI key)), (5, .int (nI b)), (6, .int (nI k))] [] := by
    intro n s n0 hs hn0 en hMc hQ
    induction n with
    | zero => intros; omega
    | succ n ih =>
      intro k hn hk
      have nx : ∀ (y : Int32), y = nI (rkN (V s) key b (k + 1)) → k < n0 → G F 9 (mP A x (C, R)) 0 0 (QI F (fun r T => (mP A x (C, R)) = T ∧ ((∃ j, j < 8 ∧ a = nI j ∧ r = nI (rkN (V j) (kyI v) (loI v) (V j).1)) ∨ (¬ isS a ∧ r = -2))) 0 0) 165 [(0, .ref x), (1, .int (nI s)), (3, .int y), (4, .int (nI key)), (5, .int (nI b)), (6, .int (nI k))] [] := by
        intro y ey hlt
        subst ey
        refine g_iinc (c := 1) Z dX7_rank_165 rfl (by decide) (by decide) ?_
        rw [nI_1]
        refine g_goto Z 27 dX7_rank_168 (by decide) ?_
        exact g_lv (by (repeat (first | exact trivial | refine And.intro rfl ?_)); done) (ih (k + 1) (by omega) (by omega))
      have lp2 : ∀ (i q : Nat) (y : Int32), 65536 - q < i → k < n0 → q ≤ b + 1 → y = nI (rkN (V s) key b k + ct C.wd (6 * s + k) q) → ((V s).2 k).1 = key → G F 9 (mP A x (C, R)) 0 0 (QI F (fun r T => (mP A x (C, R)) = T ∧ ((∃ j, j < 8 ∧ a = nI j ∧ r = nI (rkN (V j) (kyI v) (loI v) (V j).1)) ∨ (¬ isS a ∧ r = -2))) 0 0) 133 [(0, .ref x), (1, .int (nI s)), (3, .int y), (4, .int (nI key)), (5, .int (nI b)), (6, .int (nI k)), (7, .int (nI (6 * s + k))), (8, .int (nI q))] [] := by
        intro i
        induction i with
        | zero => intros; omega
        | succ i ih2 =>
          intro q y hi hlt hq ey hek
          subst ey
          have hcb := (hMc k hlt).1.2.2.2
          have j157 : ∀ (u z : Int32), z + u = nI (rkN (V s) key b k + ct C.wd (6 * s + k) (q + 1)) → q ≤ b → G F 9 (mP A x (C, R)) 0 0 (QI F (fun r T => (mP A x (C, R)) = T ∧ ((∃ j, j < 8 ∧ a = nI j ∧ r = nI (rkN (V j) (kyI v) (loI v) (V j).1)) ∨ (¬ isS a ∧ r = -2))) 0 0) 157 [(0, .ref x), (1, .int (nI s)), (3, .int (nI (rkN (V s) key b k + ct C.wd (6 * s + k) q))), (4, .int (nI key)), (5, .int (nI b)), (6, .int (nI k)), (7, .int (nI (6 * s + k))), (8, .int (nI q))] [.int u, .int z] := by
            intro u z ez hqb
            refine g_iadd Z dX7_rank_157 ?_
            rw [ez]
            refine g_istore_n Z dX7_rank_158 (by decide) ?_
            refine g_iinc (c := 1) Z dX7_rank_159 rfl (by decide) (by decide) ?_
            rw [nI_1]
            refine g_goto Z 133 dX7_rank_162 (by decide) ?_
            exact g_lv (by (repeat (first | exact trivial | refine And.intro rfl ?_)); done) (ih2 (q + 1) _ (by omega) hlt (by omega) rfl hek)
          refine g_iload Z dX7_rank_133 rfl ?_
          refine g_iload Z dX7_rank_135 rfl ?_
          refine g_icmp_gt Z 165 dX7_rank_137 (by decide) (fun h137 => ?_) (fun h137 => ?_)
          · have hbq : b < q := lt_t (by omega) (by omega) h137
            exact g_lv (by (repeat (first | exact trivial | refine And.intro rfl ?_)); done) (nx _ (by rw [show q = b + 1 by omega, ct_congr (d := 0) (g := ((V s).2 k).2.2) (b + 1) (fun l hl => hcb l (by omega)), rkN_eq hek]) hlt)
          · have hqb : q ≤ b := gt_f (by omega) (by omega) h137
            refine g_iload_n Z dX7_rank_140 rfl ?_
            refine g_aload_n Z dX7_rank_141 rfl ?_
            refine g_iload Z dX7_rank_142 rfl ?_
            refine g_iload Z dX7_rank_144 rfl ?_
            refine g_cvI Z (c_X7_hasLow F.l F.D F.cy F.nw A x ho _ _ _ _ (by omega) (by omega)) 2 gX7_rank_X7_hasLow rfl (by decide +kernel) (by rw [hRf, hRl]; decide) (by exact mP_x) (κ := 6) (by exact mP_Kx) rfl (by decide) rfl rfl (Nat.le_of_ble_eq_true rfl) dX7_rank_146 (by rw [hRc, hRs]; omega) (fun r T hp => ?_)
            obtain ⟨rfl, e3⟩ := hp
            refine g_if_eq Z 156 dX7_rank_149 (by decide) (fun h149 => ?_) (fun h149 => ?_)
            · refine g_iconst (v := 0) Z dX7_rank_156 (by decide) ?_
              exact g_lv (by (repeat (first | exact trivial | refine And.intro rfl ?_)); done) (j157 0 _ (by show nI (rkN (V s) key b k + ct C.wd (6 * s + k) q) + 0 = nI (rkN (V s) key b k + (ct C.wd (6 * s + k) q + cb C.wd (6 * s + k) q)); rw [show (0 : Int32) = nI (cb C.wd (6 * s + k) q) from h149.symm.trans e3, nI_add, Nat.add_assoc]) hqb)
            · refine g_iconst (v := 1) Z dX7_rank_152 (by decide) ?_
              refine g_goto Z 157 dX7_rank_153 (by decide) ?_
              exact g_lv (by (repeat (first | exact trivial | refine And.intro rfl ?_)); done) (j157 1 _ (by show nI (rkN (V s) key b k + ct C.wd (6 * s + k) q) + 1 = nI (rkN (V s) key b k + (ct C.wd (6 * s + k) q + cb C.wd (6 * s + k) q)); rw [show (1 : Int32) = nI (cb C.wd (6 * s + k) q) from (cb_1 (by rw [← e3]; exact h149)).symm, nI_add, Nat.add_assoc]) hqb)
      have lp1 : ∀ (i q : Nat) (y : Int32), 1024 - q < i → k < n0 → q ≤ b / 64 → y = nI (rkN (V s) key b k + ct C.wd (6 * s + k) (64 * q)) → ((V s).2 k).1 = key → G F 9 (mP A x (C, R)) 0 0 (QI F (fun r T => (mP A x (C, R)) = T ∧ ((∃ j, j < 8 ∧ a = nI j ∧ r = nI (rkN (V j) (kyI v) (loI v) (V j).1)) ∨ (¬ isS a ∧ r = -2))) 0 0) 87 [(0, .ref x), (1, .int (nI s)), (3, .int y), (4, .int (nI key)), (5, .int (nI b)), (6, .int (nI k)), (7, .int (nI (6 * s + k))), (8, .int (nI q))] [] := by
        intro i
        induction i with
        | zero => intros; omega
        | succ i ih2 =>
          intro q y hi hlt hq ey hek
          subst ey
          have hcb := (hMc k hlt).1.2.2.2
          refine g_iload Z dX7_rank_87 rfl ?_
          refine g_iload Z dX7_rank_89 rfl ?_
          refine g_bipush (v := 64) Z dX7_rank_91 (by decide) ?_
          refine g_idiv Z dX7_rank_93 (by decide) ?_
          rw [d64 (by omega)]
          refine g_icmp_ge Z 123 dX7_rank_94 (by decide) (fun h94 => ?_) (fun h94 => ?_)
          · refine g_iload Z dX7_rank_123 rfl ?_
            refine g_bipush (v := 64) Z dX7_rank_125 (by decide) ?_
            refine g_idiv Z dX7_rank_127 (by decide) ?_
            rw [d64 (by omega)]
            refine g_bipush (v := 64) Z dX7_rank_128 (by decide) ?_
            refine g_imul Z dX7_rank_130 ?_
            rw [show nI (b / 64) * 64 = nI (b / 64 * 64) from pk_mul _ 64]
            refine g_istore Z dX7_rank_131 (by decide) ?_
            exact g_lv (by (repeat (first | exact trivial | refine And.intro rfl ?_)); done) (lp2 65537 (b / 64 * 64) _ (by omega) hlt (by omega) (by rw [show q = b / 64 by have := ge_t (by omega) (by omega) h94; omega, Nat.mul_comm (b / 64) 64]) hek)
          · have hqb : q < b / 64 := ge_f (by omega) (by omega) h94
            refine g_iload_n Z dX7_rank_97 rfl ?_
            refine g_aload_n Z dX7_rank_98 rfl ?_
            refine m_ref_wd Z in6 lk23 dX7_rank_99 ?_
            refine g_sipush (v := 1024) Z dX7_rank_102 (by decide) ?_
            refine g_iload Z dX7_rank_105 rfl ?_
            refine g_imul Z dX7_rank_107 ?_
            refine g_iload Z dX7_rank_108 rfl ?_
            refine g_iadd Z dX7_rank_110 ?_
            rw [ixw]
            refine m_ald_wd Z ho dX7_rank_111 (by exact vp_in_nI (by omega) (by decide)) ?_
            rw [nI_clamp (by omega)]
            refine g_csI Z (c_X7_bitsOf F.l F.D F.cy F.nw _ _) 1 gX7_rank_X7_bitsOf rfl (by decide +kernel) (by rw [hRf, hRl]; decide) rfl rfl (Nat.le_of_ble_eq_true rfl) dX7_rank_112 (by rw [hRc, hRs]; omega) (fun r T hp => ?_)
            obtain ⟨rfl, e3⟩ := hp
            refine g_iadd Z dX7_rank_115 ?_
            rw [e3, nI_add, show rkN (V s) key b k + ct C.wd (6 * s + k) (64 * q) + pc ((C, R).fst.wd (1024 * (6 * s + k) + q)) = rkN (V s) key b k + ct C.wd (6 * s + k) (64 * (q + 1)) from by rw [ct_next, Nat.add_assoc]]
            refine g_istore_n Z dX7_rank_116 (by decide) ?_
            refine g_iinc (c := 1) Z dX7_rank_117 rfl (by decide) (by decide) ?_
            rw [nI_1]
            refine g_goto Z 87 dX7_rank_120 (by decide) ?_
            exact g_lv (by (repeat (first | exact trivial | refine And.intro rfl ?_)); done) (ih2 (q + 1) _ (by omega) hlt (by omega) rfl hek)
      refine g_iload Z dX7_rank_27 rfl ?_
      refine g_aload_n Z dX7_rank_29 rfl ?_
      refine m_ref_mn Z in6 lk7 dX7_rank_30 ?_
      refine g_iload_n Z dX7_rank_33 rfl ?_
      refine m_ald_mn Z ho dX7_rank_34 (by exact vp_in_nI (by omega) (by decide)) ?_
      rw [nI_clamp (by omega), en]
      refine g_icmp_ge Z 171 dX7_rank_35 (by decide) (fun h35 => ?_) (fun h35 => ?_)
      · have hge := ge_t (by omega) (by omega) h35
        refine g_iload_n Z dX7_rank_171 rfl ?_
        exact g_iret Z dX7_rank_172 (by omega) (by omega) ⟨rfl, hQ _ (by rw [show k = n0 by omega])⟩
      · have hlt : k < n0 := ge_f (by omega) (by omega) h35
        refine g_bipush (v := 6) Z dX7_rank_38 (by decide) ?_
        refine g_iload_n Z dX7_rank_40 rfl ?_
        refine g_imul Z dX7_rank_41 ?_
        refine g_iload Z dX7_rank_42 rfl ?_
        refine g_iadd Z dX7_rank_44 ?_
        rw [ix6]
        refine g_istore Z dX7_rank_45 (by decide) ?_
        refine g_aload_n Z dX7_rank_47 rfl ?_
        refine m_ref_ky Z in6 lk13 dX7_rank_48 ?_
        refine g_iload Z dX7_rank_51 rfl ?_
        refine m_ald_ky Z ho dX7_rank_53 (by exact vp_in_nI (by omega) (by decide)) ?_
        rw [nI_clamp (by omega)]
        refine g_iload Z dX7_rank_54 rfl ?_
        obtain ⟨⟨hky, -, hsz, -⟩, hk6⟩ := hMc k hlt
        rw [hky]
        refine g_icmp_ge Z 72 dX7_rank_56 (by decide) (fun h56 => ?_) (fun h56 => ?_)
        · refine g_aload_n Z dX7_rank_72 rfl ?_
          refine m_ref_ky Z in6 lk13 dX7_rank_73 ?_
          refine g_iload Z dX7_rank_76 rfl ?_
          refine m_ald_ky Z ho dX7_rank_78 (by exact vp_in_nI (by omega) (by decide)) ?_
          rw [nI_clamp (by omega)]
          refine g_iload Z dX7_rank_79 rfl ?_
          rw [hky]
          refine g_icmp_ne Z 165 dX7_rank_81 (by decide) (fun h81 => ?_) (fun h81 => ?_)
          · have hgt : key < ((V s).2 k).1 := by
              have h1 := ge_t (by omega) (by omega) h56
              rcases Nat.lt_or_eq_of_le h1 with q | q
              · exact q
              · exact absurd (by rw [q]) h81
            exact g_lv (by (repeat (first | exact trivial | refine And.intro rfl ?_)); done) (nx _ (by rw [rkN_gt hgt]) hlt)
          · have hek : ((V s).2 k).1 = key := (nI_eq (by omega) (by omega)).mp h81
            refine g_iconst (v := 0) Z dX7_rank_84 (by decide) ?_
            refine g_istore Z dX7_rank_85 (by decide) ?_
            exact g_lv (by (repeat (first | exact trivial | refine And.intro rfl ?_)); done) (lp1 1025 0 _ (by omega) hlt (by omega) rfl hek)
        · have hlk : ((V s).2 k).1 < key := ge_f (by omega) (by omega) h56
          refine g_iload_n Z dX7_rank_59 rfl ?_
          refine g_aload_n Z dX7_rank_60 rfl ?_
          refine m_ref_sz Z in6 lk19 dX7_rank_61 ?_
          refine g_iload Z dX7_rank_64 rfl ?_
          refine m_ald_sz Z ho dX7_rank_66 (by exact vp_in_nI (by omega) (by decide)) ?_
          rw [nI_clamp (by omega)]
          rw [hsz]
          refine g_iadd Z dX7_rank_67 ?_
          rw [nI_add, rkN_lt hlk]
          refine g_istore_n Z dX7_rank_68 (by decide) ?_
          refine g_goto Z 165 dX7_rank_69 (by decide) ?_
          exact g_lv (by (repeat (first | exact trivial | refine And.intro rfl ?_)); done) (nx _ rfl hlt)
  refine g_iload_n Z dX7_rank_0 rfl ?_
  refine g_csI Z (c_X7_isSet F.l F.D F.cy F.nw _ _) 1 gX7_rank_X7_isSet rfl (by decide +kernel) (by rw [hRf, hRl]; decide) rfl rfl (Nat.le_of_ble_eq_true rfl) dX7_rank_1 (by rw [hRc, hRs]; omega) (fun r T hp => ?_)
  obtain ⟨rfl, his⟩ := hp
  refine g_if_ne Z 10 dX7_rank_4 (by decide) (fun h4 => ?_) (fun h4 => ?_)
  · obtain ⟨s, hs, rfl⟩ := his.is h4
    have hs8 : s < 8 := by omega
    have hMs := hM s hs8
    have hn0 := hMs.1
    have en := hMs.2.1
    refine g_iconst (v := 0) Z dX7_rank_10 (by decide) ?_
    refine g_istore_n Z dX7_rank_11 (by decide) ?_
    refine g_iload_n Z dX7_rank_12 rfl ?_
    refine g_bipush (v := 16) Z dX7_rank_13 (by decide) ?_
    refine g_iushr Z dX7_rank_15 ?_
    rw [kyI_eq, ekey]
    refine g_istore Z dX7_rank_16 (by decide) ?_
    refine g_iload_n Z dX7_rank_18 rfl ?_
    refine g_ldc (v := 65535) Z dX7_rank_19 ct74 ?_
    refine g_iand Z dX7_rank_21 ?_
    rw [eb]
    refine g_istore Z dX7_rank_22 (by decide) ?_
    refine g_iconst (v := 0) Z dX7_rank_24 (by decide) ?_
    refine g_istore Z dX7_rank_25 (by decide) ?_
    exact g_lv (by (repeat (first | exact trivial | refine And.intro rfl ?_)); done) (loop ((V s).1 + 1) s (V s).1 hs8 hn0 en (fun i h => ⟨hMs.2.2 i h, ((hV s hs8).2.2 i h).1⟩) (fun r e => Or.inl ⟨s, hs8, rfl, by rw [e, ebl, ekl]⟩) 0 (by omega) (by omega))
  · have hno := his.f' h4
    refine g_bipush (v := (-2)) Z dX7_rank_7 (by decide) ?_
    exact g_iret Z dX7_rank_9 (by omega) (by omega) ⟨rfl, Or.inr ⟨hno, rfl⟩⟩
