/-! digest -/
noncomputable def dgS (h : Int64) (V : Sv) : Nat → Int64
  | 0 => 31 * (31 * h + (nI (sT V V.1)).toInt64) + (nI V.1).toInt64
  | k + 1 => dgC (dgS h V k) (V.2 k)
noncomputable def dgA (V : Nat → Sv) : Nat → Int64
  | 0 => 17
  | s + 1 => dgS (dgA V s) (V s) (V s).1
noncomputable def dgH (x : Int64) (a : Cn) : Nat → Int64
  | 0 => x
  | q + 1 => 31 * dgH x a q + (conN a (nI q)).toInt64
theorem dgS_0 (h : Int64) (V : Sv) : 31 * (31 * h + (nI (sT V V.1)).toInt64) + (nI V.1).toInt64 = dgS h V 0 := rfl
theorem dgS_s (h : Int64) (V : Sv) (k : Nat) : dgC (dgS h V k) (V.2 k) = dgS h V (k + 1) := rfl
theorem dgA_s (V : Nat → Sv) (s : Nat) : dgS (dgA V s) (V s) (V s).1 = dgA V (s + 1) := rfl
theorem dgH_s (x : Int64) (a : Cn) (q : Nat) : 31 * dgH x a q + (conN a (nI q)).toInt64 = dgH x a (q + 1) := rfl
theorem dgW_s (W : Nat → Int64) (h : Int64) (q : Nat) : 31 * dgW W h q + W q = dgW W h (q + 1) := rfl
theorem dgH_4 (x : Int64) (a : Cn) : dgH x a 4 = 31 * (31 * (31 * (31 * x + (nI a.1).toInt64) + a.2.1.toInt64) + (nI (tot a.2.2)).toInt64) + (nI (rnT a.2.2)).toInt64 := by
  show 31 * (31 * (31 * (31 * x + (conN a (nI 0)).toInt64) + (conN a (nI 1)).toInt64) + (conN a (nI 2)).toInt64) + (conN a (nI 3)).toInt64 = _
  rw [con_0 (v := nI 0) (by decide), con_1 (v := nI 1) (by decide), con_2 (v := nI 2) (by decide), con_3 (v := nI 3) (by decide)]
theorem dgH_C (x : Int64) (a : Cn) : dgW a.2.2 (dgH x a 4) 1024 = dgC x a := by
  unfold dgC
  rw [dgH_4]
theorem con_at {V : Nat → Sv} {s k : Nat} {v r : Int32} (hs : s < 8) (h6 : (V s).1 ≤ 6) (hk : k < (V s).1) (h : (∃ j, j < 8 ∧ nI s = nI j ∧ ConV (V j) (nI k) v r) ∨ (¬ isS (nI s) ∧ r = -2)) : r = conN ((V s).2 k) v := by
  rcases h with ⟨j, hj, ej, hc⟩ | ⟨hno, -⟩
  · have e := (nI_eq (by omega) (by omega)).mp ej
    subst e
    exact hc.det h6 (Or.inl ⟨k, hk, rfl, rfl⟩)
  · exact absurd ⟨s, hs, rfl⟩ hno

set_option maxRecDepth 100000 in
set_option maxHeartbeats 2000000 in
theorem f_X2_digestSetFrom (l : Launch) (D : va_G) (cy : Nat → ClassId) (nw : Nat) (S : PS) (O : Nat → Nat) (b s it : Nat) (C : Nat → Nat) (V : Sv) (hv : SV S nw O b s it C V) (x : Int64) : kL l yX2_digestSetFrom wsX2_digestSetFrom 3 72 D cy nw [.ref s, .long x] S (fun r T => S = T ∧ r = dgS x V V.1) 0 0 := by
  refine enterL (cc := cX2_digestSetFrom) (nL := 6) (ret := (some .long)) (by decide +kernel) rfl (Nat.le_of_ble_eq_true rfl) ?_
  intro F Z hl hR hD hcy hnw hnm
  subst hl hD hcy hnw
  have hRf : F.R.frames = 3 := by rw [hR]
  have hRc : F.R.cells = 0 := by rw [hR]
  have hRs : F.R.slots = 0 := by rw [hR]
  have hRl : F.R.locals = 72 := by rw [hR]
  have in2 : ∀ w ∈ u_ws RX2 TX2 2, w ∈ wsX2_digestSetFrom := by decide +kernel
  have lk11 : Cond.fieldLink RX2 11 (TX2 0).1 (TX2 0).2.1 (TX2 0).2.2.1 ∈ wsX2_digestSetFrom := by decide +kernel
  have lk18 : Cond.fieldLink RX2 18 (TX2 1).1 (TX2 1).2.1 (TX2 1).2.2.1 ∈ wsX2_digestSetFrom := by decide +kernel
  have ct106 : Cond.constantLong RX2 106 (31) ∈ wsX2_digestSetFrom := by decide +kernel
  obtain ⟨hsL, hsK, hsit, hitL, hitK, hitl, -, hu7, hsw, hsr⟩ := id hv.at
  have hsu := hv.2.2.2.1
  have loop : ∀ (n : Nat) (j : Nat), 8 - j < n → j ≤ V.1 → G F 6 S 0 0 (QL F (fun r T => S = T ∧ r = dgS x V V.1) 0 0) 27 [(0, .ref s), (1, .long x), (3, .long (dgS x V j)), (5, .int (nI j))] [] := by
    intro n
    induction n with
    | zero => intros; omega
    | succ n ih =>
      intro j hn hj
      refine g_iload Z dX2_digestSetFrom_27 rfl ?_
      refine g_aload_n Z dX2_digestSetFrom_29 rfl ?_
      refine g_geti Z 2 1 rfl (by decide) in2 lk18 dX2_digestSetFrom_30 (by assumption) (by assumption) ?_
      rw [hsu]
      refine g_icmp_ge Z 54 dX2_digestSetFrom_33 (by decide) (fun h33 => ?_) (fun h33 => ?_)
      · have hge := ge_t (by omega) (by omega) h33
        refine g_lload_n Z dX2_digestSetFrom_54 rfl ?_
        exact g_lret Z dX2_digestSetFrom_55 (by omega) (by omega) ⟨rfl, by rw [show j = V.1 by omega]⟩
      · have hlt : j < V.1 := ge_f (by omega) (by omega) h33
        have hc := hv.rr (j := j) (by omega)
        have hcv := hv.cv hlt
        obtain ⟨hcL, hcK, -, -⟩ := id hcv.cr
        have hcl : (nI j).toNatClampNeg = j := nI_clamp (by omega)
        refine g_aload_n Z dX2_digestSetFrom_36 rfl ?_
        refine g_getr Z 2 0 rfl (by decide) in2 lk11 dX2_digestSetFrom_37 (by assumption) (by assumption) (by assumption) ?_
        refine g_iload Z dX2_digestSetFrom_40 rfl ?_
        refine g_aald10 Z dX2_digestSetFrom_42 (by assumption) (by assumption) (by exact vin_of hitl (by omega) (by decide)) (by rw [hcl]; exact hc) ?_
        refine g_lload_n Z dX2_digestSetFrom_43 rfl ?_
        refine g_cvL Z (f_X1_digestFrom F.l F.D F.cy F.nw _ (C j) (V.2 j) hcv _) 1 gX2_digestSetFrom_X1_digestFrom rfl (by decide +kernel) (by rw [hRf, hRl]; decide) (by assumption) (κ := 1) (by assumption) rfl (by decide) rfl rfl (Nat.le_of_ble_eq_true rfl) dX2_digestSetFrom_44 (by rw [hRc, hRs]; omega) (fun r2 U hp => ?_)
        obtain ⟨rfl, e3⟩ := hp
        rw [e3, dgS_s]
        refine g_lstore_n Z dX2_digestSetFrom_47 (by decide) ?_
        refine g_iinc (c := 1) Z dX2_digestSetFrom_48 rfl (by decide) (by decide) ?_
        rw [nI_1]
        refine g_goto Z 27 dX2_digestSetFrom_51 (by decide) ?_
        exact g_lv (by (repeat (first | exact trivial | refine And.intro rfl ?_)); done) (ih (j + 1) (by omega) (by omega))
  refine g_ldc2 (v := 31) Z dX2_digestSetFrom_0 ct106 ?_
  refine g_lload_n Z dX2_digestSetFrom_3 rfl ?_
  refine g_lmul Z dX2_digestSetFrom_4 ?_
  refine g_aload_n Z dX2_digestSetFrom_5 rfl ?_
  refine g_cvI Z (f_X2_total F.l F.D F.cy F.nw _ O b s it C V hv) 0 gX2_digestSetFrom_X2_total rfl (by decide +kernel) (by rw [hRf, hRl]; decide) (by assumption) (κ := 2) (by assumption) rfl (by decide) rfl rfl (Nat.le_of_ble_eq_true rfl) dX2_digestSetFrom_6 (by rw [hRc, hRs]; omega) (fun r U hp => ?_)
  obtain ⟨rfl, e3⟩ := hp
  rw [e3]
  refine g_i2l Z dX2_digestSetFrom_9 ?_
  refine g_ladd Z dX2_digestSetFrom_10 ?_
  refine g_lstore_n Z dX2_digestSetFrom_11 (by decide) ?_
  refine g_ldc2 (v := 31) Z dX2_digestSetFrom_12 ct106 ?_
  refine g_lload_n Z dX2_digestSetFrom_15 rfl ?_
  refine g_lmul Z dX2_digestSetFrom_16 ?_
  refine g_aload_n Z dX2_digestSetFrom_17 rfl ?_
  refine g_geti Z 2 1 rfl (by decide) in2 lk18 dX2_digestSetFrom_18 (by assumption) (by assumption) ?_
  rw [hsu]
  refine g_i2l Z dX2_digestSetFrom_21 ?_
  refine g_ladd Z dX2_digestSetFrom_22 ?_
  rw [dgS_0]
  refine g_lstore_n Z dX2_digestSetFrom_23 (by decide) ?_
  refine g_iconst (v := 0) Z dX2_digestSetFrom_24 (by decide) ?_
  refine g_istore Z dX2_digestSetFrom_25 (by decide) ?_
  exact g_lv (by (repeat (first | exact trivial | refine And.intro rfl ?_)); done) (loop 9 0 (by omega) (by omega))

set_option maxRecDepth 100000 in
set_option maxHeartbeats 2000000 in
theorem f_X6_digest (l : Launch) (D : va_G) (cy : Nat → ClassId) (nw : Nat) (S : PS) (x sa pl la br h n u rd rk rt w fa : Nat) (so O : Nat → Nat) (V : Nat → Sv) (B : Nat → Nat) (hx : FX S nw x sa pl la br h n u rd rk rt w fa so O V B) : kL l yX6_digest wsX6_digest 4 97 D cy nw [.ref x] S (fun r T => S = T ∧ r = dgA V 8) 0 0 := by
  refine enterL (cc := cX6_digest) (nL := 4) (ret := (some .long)) (by decide +kernel) rfl (Nat.le_of_ble_eq_true rfl) ?_
  intro F Z hl hR hD hcy hnw hnm
  subst hl hD hcy hnw
  have hRf : F.R.frames = 4 := by rw [hR]
  have hRc : F.R.cells = 0 := by rw [hR]
  have hRs : F.R.slots = 0 := by rw [hR]
  have hRl : F.R.locals = 97 := by rw [hR]
  have in5 : ∀ w ∈ u_ws RX6 TX6 6, w ∈ wsX6_digest := by decide +kernel
  have lk11 : Cond.fieldLink RX6 11 (TX6 0).1 (TX6 0).2.1 (TX6 0).2.2.1 ∈ wsX6_digest := by decide +kernel
  have ct183 : Cond.constantLong RX6 183 (17) ∈ wsX6_digest := by decide +kernel
  obtain ⟨hFO, hGV, hVok⟩ := id hx
  obtain ⟨hFx, hSa, -, -, -⟩ := id hFO
  obtain ⟨hxL, hxK, hxO, hsa, hsp, hpl, hbr, hrd, hxw, hw3⟩ := id hFx
  obtain ⟨hsaL, hsaK, hsal, hsas, hsaO⟩ := id hSa
  obtain ⟨be, it, C, hgx⟩ := id hGV
  have loop : ∀ (n : Nat) (j : Nat), 9 - j < n → j ≤ 8 → G F 4 S 0 0 (QL F (fun r T => S = T ∧ r = dgA V 8) 0 0) 6 [(0, .ref x), (1, .long (dgA V j)), (3, .int (nI j))] [] := by
    intro n
    induction n with
    | zero => intros; omega
    | succ n ih =>
      intro j hn0 hj8
      refine g_iload_n Z dX6_digest_6 rfl ?_
      refine g_bipush (v := 8) Z dX6_digest_7 (by decide) ?_
      refine g_icmp_ge Z 29 dX6_digest_9 (by decide) (fun h9 => ?_) (fun h9 => ?_)
      · have he : j = 8 := by have := ge_t (i := j) (N := 8) (by omega) (by decide) h9; omega
        refine g_lload_n Z dX6_digest_29 rfl ?_
        exact g_lret Z dX6_digest_30 (by omega) (by omega) ⟨rfl, by rw [he]⟩
      · have hj : j < 8 := ge_f (by omega) (by decide) h9
        have hss := (hgx.1 j (by omega)).1
        have hcj : (nI j).toNatClampNeg = j := nI_clamp (by omega)
        refine g_aload_n Z dX6_digest_12 rfl ?_
        refine g_getr Z 5 0 rfl (by decide) in5 lk11 dX6_digest_13 (by assumption) (by assumption) (by assumption) ?_
        refine g_iload_n Z dX6_digest_16 rfl ?_
        refine g_aald11 Z dX6_digest_17 (by assumption) (by assumption) (by exact vin_of hsal (by omega) (by decide)) (by rw [hcj]; exact hsas j hj) ?_
        refine g_lload_n Z dX6_digest_18 rfl ?_
        refine g_cvL Z (f_X2_digestSetFrom F.l F.D F.cy F.nw _ O (be j) (so j) (it j) (C j) (V j) hss _) 1 gX6_digest_X2_digestSetFrom rfl (by decide +kernel) (by rw [hRf, hRl]; decide) (by exact hss.1) (κ := 2) (by exact hss.2.1) rfl (by decide) rfl rfl (Nat.le_of_ble_eq_true rfl) dX6_digest_19 (by rw [hRc, hRs]; omega) (fun r3 T3 hq3 => ?_)
        obtain ⟨rfl, e3⟩ := hq3
        rw [e3, dgA_s]
        refine g_lstore_n Z dX6_digest_22 (by decide) ?_
        refine g_iinc (c := 1) Z dX6_digest_23 rfl (by decide) (by decide) ?_
        rw [nI_1]
        refine g_goto Z 6 dX6_digest_26 (by decide) ?_
        exact g_lv (by (repeat (first | exact trivial | refine And.intro rfl ?_)); done) (ih (j + 1) (by omega) (by omega))
  refine g_ldc2 (v := 17) Z dX6_digest_0 ct183 ?_
  refine g_lstore_n Z dX6_digest_3 (by decide) ?_
  refine g_iconst (v := 0) Z dX6_digest_4 (by decide) ?_
  refine g_istore_n Z dX6_digest_5 (by decide) ?_
  exact g_lv (by (repeat (first | exact trivial | refine And.intro rfl ?_)); done) (loop 10 0 (by omega) (by omega))

set_option maxRecDepth 100000 in
set_option maxHeartbeats 2000000 in
theorem f_X7_digest (l : Launch) (D : va_G) (cy : Nat → ClassId) (nw : Nat) (A : Nat → Nat) (x : Nat) (ho : mOk A x) (C : C5) (R : MR) (V : Nat → Sv) (hM : MV C V) : kL l yX7_digest wsX7_digest 3 74 D cy nw [.ref x] (mP A x (C, R)) (fun r T => (mP A x (C, R)) = T ∧ r = dgA V 8) 0 0 := by
  refine enterL (cc := cX7_digest) (nL := 6) (ret := (some .long)) (by decide +kernel) rfl (Nat.le_of_ble_eq_true rfl) ?_
  intro F Z hl hR hD hcy hnw hnm
  subst hl hD hcy hnw
  have hRf : F.R.frames = 3 := by rw [hR]
  have hRc : F.R.cells = 0 := by rw [hR]
  have hRs : F.R.slots = 0 := by rw [hR]
  have hRl : F.R.locals = 74 := by rw [hR]
  have in6 : ∀ w ∈ u_ws RX7 TX7 16, w ∈ wsX7_digest := by decide +kernel
  have lk7 : Cond.fieldLink RX7 7 (TX7 0).1 (TX7 0).2.1 (TX7 0).2.2.1 ∈ wsX7_digest := by decide +kernel
  have lk23 : Cond.fieldLink RX7 23 (TX7 4).1 (TX7 4).2.1 (TX7 4).2.2.1 ∈ wsX7_digest := by decide +kernel
  have ct228 : Cond.constantLong RX7 228 (17) ∈ wsX7_digest := by decide +kernel
  have ct230 : Cond.constantLong RX7 230 (31) ∈ wsX7_digest := by decide +kernel
  have loop : ∀ (n s : Nat), 8 - s < n → s ≤ 8 → G F 6 (mP A x (C, R)) 0 0 (QL F (fun r T => (mP A x (C, R)) = T ∧ r = dgA V 8) 0 0) 6 [(0, .ref x), (1, .long (dgA V s)), (3, .int (nI s))] [] := by
    intro n
    induction n with
    | zero => intros; omega
    | succ n ih =>
      intro s hn hs8
      have mid : ∀ (i n0 : Nat), s < 8 → n0 ≤ 6 → C.mn s = nI n0 → n0 = (V s).1 → ∀ (k : Nat), n0 - k < i → k ≤ n0 → G F 6 (mP A x (C, R)) 0 0 (QL F (fun r T => (mP A x (C, R)) = T ∧ r = dgA V 8) 0 0) 42 [(0, .ref x), (1, .long (dgS (dgA V s) (V s) k)), (3, .int (nI s)), (4, .int (nI k))] [] := by
        intro i n0 hs hn0 en hnV
        have hMs := hM s hs
        induction i with
        | zero => intros; omega
        | succ i ih2 =>
          intro k hi hk
          have l2 : ∀ (z q : Nat), 1024 - q < z → q ≤ 1024 → k < n0 → G F 6 (mP A x (C, R)) 0 0 (QL F (fun r T => (mP A x (C, R)) = T ∧ r = dgA V 8) 0 0) 88 [(0, .ref x), (1, .long (dgW ((V s).2 k).2.2 (dgH (dgS (dgA V s) (V s) k) ((V s).2 k) 4) q)), (3, .int (nI s)), (4, .int (nI k)), (5, .int (nI q))] [] := by
            intro z
            induction z with
            | zero => intros; omega
            | succ z ih3 =>
              intro q hz hq hlt
              refine g_iload Z dX7_digest_88 rfl ?_
              refine g_sipush (v := 1024) Z dX7_digest_90 (by decide) ?_
              refine g_icmp_ge Z 128 dX7_digest_93 (by decide) (fun h93 => ?_) (fun h93 => ?_)
              · have he : q = 1024 := by have := ge_t (i := q) (N := 1024) (by omega) (by decide) h93; omega
                rw [he, dgH_C, dgS_s]
                refine g_iinc (c := 1) Z dX7_digest_128 rfl (by decide) (by decide) ?_
                rw [nI_1]
                refine g_goto Z 42 dX7_digest_131 (by decide) ?_
                exact g_lv (by (repeat (first | exact trivial | refine And.intro rfl ?_)); done) (ih2 (k + 1) (by omega) (by omega))
              · have hq2 : q < 1024 := ge_f (by omega) (by decide) h93
                refine g_ldc2 (v := 31) Z dX7_digest_96 ct230 ?_
                refine g_lload_n Z dX7_digest_99 rfl ?_
                refine g_lmul Z dX7_digest_100 ?_
                refine g_aload_n Z dX7_digest_101 rfl ?_
                refine m_ref_wd Z in6 lk23 dX7_digest_102 ?_
                refine g_sipush (v := 1024) Z dX7_digest_105 (by decide) ?_
                refine g_bipush (v := 6) Z dX7_digest_108 (by decide) ?_
                refine g_iload_n Z dX7_digest_110 rfl ?_
                refine g_imul Z dX7_digest_111 ?_
                refine g_iload Z dX7_digest_112 rfl ?_
                refine g_iadd Z dX7_digest_114 ?_
                rw [ix6]
                refine g_imul Z dX7_digest_115 ?_
                refine g_iload Z dX7_digest_116 rfl ?_
                refine g_iadd Z dX7_digest_118 ?_
                rw [ixw]
                refine m_ald_wd Z ho dX7_digest_119 (by exact vp_in_nI (by omega) (by decide)) ?_
                rw [nI_clamp (by omega), show (C, R).fst.wd (1024 * (6 * s + k) + q) = ((V s).2 k).2.2 q from (hMs.2.2 k (by omega)).w hq2]
                refine g_ladd Z dX7_digest_120 ?_
                rw [dgW_s]
                refine g_lstore_n Z dX7_digest_121 (by decide) ?_
                refine g_iinc (c := 1) Z dX7_digest_122 rfl (by decide) (by decide) ?_
                rw [nI_1]
                refine g_goto Z 88 dX7_digest_125 (by decide) ?_
                exact g_lv (by (repeat (first | exact trivial | refine And.intro rfl ?_)); done) (ih3 (q + 1) (by omega) (by omega) hlt)
          have l1 : ∀ (z q : Nat), 4 - q < z → q ≤ 4 → k < n0 → G F 6 (mP A x (C, R)) 0 0 (QL F (fun r T => (mP A x (C, R)) = T ∧ r = dgA V 8) 0 0) 56 [(0, .ref x), (1, .long (dgH (dgS (dgA V s) (V s) k) ((V s).2 k) q)), (3, .int (nI s)), (4, .int (nI k)), (5, .int (nI q))] [] := by
            intro z
            induction z with
            | zero => intros; omega
            | succ z ih3 =>
              intro q hz hq hlt
              refine g_iload Z dX7_digest_56 rfl ?_
              refine g_iconst (v := 4) Z dX7_digest_58 (by decide) ?_
              refine g_icmp_ge Z 85 dX7_digest_59 (by decide) (fun h59 => ?_) (fun h59 => ?_)
              · have he : q = 4 := by have := ge_t (i := q) (N := 4) (by omega) (by decide) h59; omega
                rw [he]
                refine g_iconst (v := 0) Z dX7_digest_85 (by decide) ?_
                refine g_istore Z dX7_digest_86 (by decide) ?_
                exact g_lv (by (repeat (first | exact trivial | refine And.intro rfl ?_)); done) (l2 1025 0 (by omega) (by omega) hlt)
              · have hq2 : q < 4 := ge_f (by omega) (by decide) h59
                refine g_ldc2 (v := 31) Z dX7_digest_62 ct230 ?_
                refine g_lload_n Z dX7_digest_65 rfl ?_
                refine g_lmul Z dX7_digest_66 ?_
                refine g_aload_n Z dX7_digest_67 rfl ?_
                refine g_iload_n Z dX7_digest_68 rfl ?_
                refine g_iload Z dX7_digest_69 rfl ?_
                refine g_iload Z dX7_digest_71 rfl ?_
                refine g_cvI Z (f_X7_container F.l F.D F.cy F.nw A x ho _ _ V hM _ _ _) 3 gX7_digest_X7_container rfl (by decide +kernel) (by rw [hRf, hRl]; decide) (by exact mP_x) (κ := 6) (by exact mP_Kx) rfl (by decide) rfl rfl (Nat.le_of_ble_eq_true rfl) dX7_digest_73 (by rw [hRc, hRs]; omega) (fun r T hp => ?_)
                obtain ⟨rfl, hr⟩ := hp
                rw [con_at hs hMs.1 (by omega) hr]
                refine g_i2l Z dX7_digest_76 ?_
                refine g_ladd Z dX7_digest_77 ?_
                rw [dgH_s]
                refine g_lstore_n Z dX7_digest_78 (by decide) ?_
                refine g_iinc (c := 1) Z dX7_digest_79 rfl (by decide) (by decide) ?_
                rw [nI_1]
                refine g_goto Z 56 dX7_digest_82 (by decide) ?_
                exact g_lv (by (repeat (first | exact trivial | refine And.intro rfl ?_)); done) (ih3 (q + 1) (by omega) (by omega) hlt)
          refine g_iload Z dX7_digest_42 rfl ?_
          refine g_aload_n Z dX7_digest_44 rfl ?_
          refine m_ref_mn Z in6 lk7 dX7_digest_45 ?_
          refine g_iload_n Z dX7_digest_48 rfl ?_
          refine m_ald_mn Z ho dX7_digest_49 (by exact vp_in_nI (by omega) (by decide)) ?_
          rw [nI_clamp (by omega), en]
          refine g_icmp_ge Z 134 dX7_digest_50 (by decide) (fun h50 => ?_) (fun h50 => ?_)
          · have hge := ge_t (by omega) (by omega) h50
            rw [show k = (V s).1 by omega, dgA_s]
            refine g_iinc (c := 1) Z dX7_digest_134 rfl (by decide) (by decide) ?_
            rw [nI_1]
            refine g_goto Z 6 dX7_digest_137 (by decide) ?_
            exact g_lv (by (repeat (first | exact trivial | refine And.intro rfl ?_)); done) (ih (s + 1) (by omega) (by omega))
          · have hlt : k < n0 := ge_f (by omega) (by omega) h50
            refine g_iconst (v := 0) Z dX7_digest_53 (by decide) ?_
            refine g_istore Z dX7_digest_54 (by decide) ?_
            exact g_lv (by (repeat (first | exact trivial | refine And.intro rfl ?_)); done) (l1 5 0 (by omega) (by omega) hlt)
      refine g_iload_n Z dX7_digest_6 rfl ?_
      refine g_bipush (v := 8) Z dX7_digest_7 (by decide) ?_
      refine g_icmp_ge Z 140 dX7_digest_9 (by decide) (fun h9 => ?_) (fun h9 => ?_)
      · have he : s = 8 := by have := ge_t (i := s) (N := 8) (by omega) (by decide) h9; omega
        refine g_lload_n Z dX7_digest_140 rfl ?_
        exact g_lret Z dX7_digest_141 (by omega) (by omega) ⟨rfl, by rw [he]⟩
      · have hs : s < 8 := ge_f (by omega) (by decide) h9
        have hMs := hM s hs
        refine g_ldc2 (v := 31) Z dX7_digest_12 ct230 ?_
        refine g_lload_n Z dX7_digest_15 rfl ?_
        refine g_lmul Z dX7_digest_16 ?_
        refine g_aload_n Z dX7_digest_17 rfl ?_
        refine g_iload_n Z dX7_digest_18 rfl ?_
        refine g_cvI Z (f_X7_all F.l F.D F.cy F.nw A x ho _ _ s (by omega) (V s) hMs) 1 gX7_digest_X7_all rfl (by decide +kernel) (by rw [hRf, hRl]; decide) (by exact mP_x) (κ := 6) (by exact mP_Kx) rfl (by decide) rfl rfl (Nat.le_of_ble_eq_true rfl) dX7_digest_19 (by rw [hRc, hRs]; omega) (fun r T hp => ?_)
        obtain ⟨rfl, e3⟩ := hp
        rw [e3]
        refine g_i2l Z dX7_digest_22 ?_
        refine g_ladd Z dX7_digest_23 ?_
        refine g_lstore_n Z dX7_digest_24 (by decide) ?_
        refine g_ldc2 (v := 31) Z dX7_digest_25 ct230 ?_
        refine g_lload_n Z dX7_digest_28 rfl ?_
        refine g_lmul Z dX7_digest_29 ?_
        refine g_aload_n Z dX7_digest_30 rfl ?_
        refine m_ref_mn Z in6 lk7 dX7_digest_31 ?_
        refine g_iload_n Z dX7_digest_34 rfl ?_
        refine m_ald_mn Z ho dX7_digest_35 (by exact vp_in_nI (by omega) (by decide)) ?_
        rw [nI_clamp (by omega), show (C, R).fst.mn s = nI (V s).1 from hMs.2.1]
        refine g_i2l Z dX7_digest_36 ?_
        refine g_ladd Z dX7_digest_37 ?_
        rw [dgS_0]
        refine g_lstore_n Z dX7_digest_38 (by decide) ?_
        refine g_iconst (v := 0) Z dX7_digest_39 (by decide) ?_
        refine g_istore Z dX7_digest_40 (by decide) ?_
        exact g_lv (by (repeat (first | exact trivial | refine And.intro rfl ?_)); done) (mid ((V s).1 + 1) (V s).1 hs hMs.1 hMs.2.1 rfl 0 (by omega) (by omega))
  refine g_ldc2 (v := 17) Z dX7_digest_0 ct228 ?_
  refine g_lstore_n Z dX7_digest_3 (by decide) ?_
  refine g_iconst (v := 0) Z dX7_digest_4 (by decide) ?_
  refine g_istore_n Z dX7_digest_5 (by decide) ?_
  exact g_lv (by (repeat (first | exact trivial | refine And.intro rfl ?_)); done) (loop 9 0 (by omega) (by omega))
