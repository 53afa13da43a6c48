/-! next -/
def lwF (V : Sv) (key low i : Nat) : Nat := if (V.2 i).1 = key then low else 0
def Nx0 (V : Sv) (key low i : Nat) : Prop := ∀ j, j < i → key ≤ (V.2 j).1 → Fb (V.2 j).2.2 1 (lwF V key low j) 65536
def NxV (V : Sv) (key low : Nat) (r : Int64) : Prop := (∃ i n, i < V.1 ∧ key ≤ (V.2 i).1 ∧ n < 65536 ∧ Fb (V.2 i).2.2 1 (lwF V key low i) n ∧ Nx0 V key low i ∧ r = lN (n + (V.2 i).1 * 2 ^ 16)) ∨ (Nx0 V key low V.1 ∧ r = -1)
theorem Fb.det {W : Nat → Int64} {b i r s : Nat} (h : Fb W b i r) (k : Fb W b i s) : r = s := by
  rcases Nat.lt_trichotomy r s with q | q | q
  · exact absurd (h.2.2.2 (by have := k.2.1; omega)) (k.2.2.1 r h.1 q)
  · exact q
  · exact absurd (k.2.2.2 (by have := h.2.1; omega)) (h.2.2.1 s k.1 q)
theorem NxV.det {V : Sv} {key low : Nat} {r r2 : Int64} (h : NxV V key low r) (k : NxV V key low r2) : r = r2 := by
  rcases h with ⟨i, n, hi, hk, hn, hf, h0, e⟩ | ⟨h0, e⟩ <;> rcases k with ⟨j, m, hj, hkj, hm, hfj, k0, e2⟩ | ⟨k0, e2⟩
  · rcases Nat.lt_trichotomy i j with q | q | q
    · have := (k0 i q hk).det hf; omega
    · subst q
      have := hf.det hfj; subst this
      exact e.trans e2.symm
    · have := (h0 j q hkj).det hfj; omega
  · have := (k0 i hi hk).det hf; omega
  · have := (h0 j hj hkj).det hfj; omega
  · exact e.trans e2.symm
theorem nb_or {k n : Nat} (hk : k < 65536) (hn : n < 65536) : (nI k).toInt64 <<< ((16 : Int32).toInt64 &&& 63) ||| (nI n).toInt64 = lN (n + k * 2 ^ 16) := by
  rw [nI_l (by omega), nI_l (by omega), show (16 : Int32) = nI 16 from rfl, wb_shl k (by decide), wb_or (by omega) (by omega), Nat.or_comm, num_or hn]
theorem nb_ad {k n : Nat} (hk : k < 65536) (hn : n < 65536) : (65536 : Int64) * (nI k).toInt64 + (nI n).toInt64 = lN (n + k * 2 ^ 16) := by
  rw [nI_l (by omega), nI_l (by omega), show (65536 : Int64) = lN 65536 from rfl, lN_mul, lN_add]
  exact congrArg lN (by omega)

set_option maxRecDepth 100000 in
set_option maxHeartbeats 2000000 in
theorem f_X2_numberOf (l : Launch) (D : va_G) (cy : Nat → ClassId) (nw : Nat) (S : PS) (x y : Nat) (hx : x < 65536) (hy : y < 65536) : kL l yX2_numberOf wsX2_numberOf 0 0 D cy nw [.int (nI x), .int (nI y)] S (fun r T => S = T ∧ r = lN (y + x * 2 ^ 16)) 0 0 := by
  refine enterL (cc := cX2_numberOf) (nL := 2) (ret := (some .long)) (by decide +kernel) rfl (Nat.le_of_ble_eq_true rfl) ?_
  intro F Z hl hR hD hcy hnw hnm
  subst hl hD hcy hnw
  have hRf : F.R.frames = 0 := by rw [hR]
  have hRc : F.R.cells = 0 := by rw [hR]
  have hRs : F.R.slots = 0 := by rw [hR]
  have hRl : F.R.locals = 0 := by rw [hR]
  refine g_iload_n Z dX2_numberOf_0 rfl ?_
  refine g_i2l Z dX2_numberOf_1 ?_
  refine g_bipush (v := 16) Z dX2_numberOf_2 (by decide) ?_
  refine g_lshl Z dX2_numberOf_4 ?_
  refine g_iload_n Z dX2_numberOf_5 rfl ?_
  refine g_i2l Z dX2_numberOf_6 ?_
  refine g_lor Z dX2_numberOf_7 ?_
  exact g_lret Z dX2_numberOf_8 (by omega) (by omega) ⟨rfl, nb_or hx hy⟩

set_option maxRecDepth 100000 in
set_option maxHeartbeats 2000000 in
theorem f_X7_numberOf (l : Launch) (D : va_G) (cy : Nat → ClassId) (nw : Nat) (A : Nat → Nat) (x : Nat) (ho : mOk A x) (C : C5) (R : MR) (c : Nat) (hc : c < 102) (k y : Nat) (hk : k < 65536) (ek : C.ky c = nI k) (hy : y < 65536) : kL l yX7_numberOf wsX7_numberOf 0 0 D cy nw [.ref x, .int (nI c), .int (nI y)] (mP A x (C, R)) (fun r T => (mP A x (C, R)) = T ∧ r = lN (y + k * 2 ^ 16)) 0 0 := by
  refine enterL (cc := cX7_numberOf) (nL := 3) (ret := (some .long)) (by decide +kernel) rfl (Nat.le_of_ble_eq_true rfl) ?_
  intro F Z hl hR hD hcy hnw hnm
  subst hl hD hcy hnw
  have hRf : F.R.frames = 0 := by rw [hR]
  have hRc : F.R.cells = 0 := by rw [hR]
  have hRs : F.R.slots = 0 := by rw [hR]
  have hRl : F.R.locals = 0 := by rw [hR]
  have in6 : ∀ w ∈ u_ws RX7 TX7 16, w ∈ wsX7_numberOf := by decide +kernel
  have lk13 : Cond.fieldLink RX7 13 (TX7 1).1 (TX7 1).2.1 (TX7 1).2.2.1 ∈ wsX7_numberOf := by decide +kernel
  have ct140 : Cond.constantLong RX7 140 (65536) ∈ wsX7_numberOf := by decide +kernel
  refine g_ldc2 (v := 65536) Z dX7_numberOf_0 ct140 ?_
  refine g_aload_n Z dX7_numberOf_3 rfl ?_
  refine m_ref_ky Z in6 lk13 dX7_numberOf_4 ?_
  refine g_iload_n Z dX7_numberOf_7 rfl ?_
  refine m_ald_ky Z ho dX7_numberOf_8 (by exact vp_in_nI (by omega) (by decide)) ?_
  rw [nI_clamp (by omega), ek]
  refine g_i2l Z dX7_numberOf_9 ?_
  refine g_lmul Z dX7_numberOf_10 ?_
  refine g_iload_n Z dX7_numberOf_11 rfl ?_
  refine g_i2l Z dX7_numberOf_12 ?_
  refine g_ladd Z dX7_numberOf_13 ?_
  exact g_lret Z dX7_numberOf_14 (by omega) (by omega) ⟨rfl, nb_ad hk hy⟩

set_option maxRecDepth 100000 in
set_option maxHeartbeats 2000000 in
theorem f_X2_firstFrom (l : Launch) (D : va_G) (cy : Nat → ClassId) (nw : Nat) (S : PS) (O : Nat → Nat) (b s it : Nat) (C : Nat → Nat) (V : Sv) (hv : SV S nw O b s it C V) (hst : Srt V) (key : Nat) (hkey : key < 65536) (y : Nat) (hy : y < 65536) : kL l yX2_firstFrom wsX2_firstFrom 4 91 D cy nw [.ref s, .int (nI key), .int (nI y)] S (fun r T => S = T ∧ NxV V key y r) 0 0 := by
  refine enterL (cc := cX2_firstFrom) (nL := 5) (ret := (some .long)) (by decide +kernel) rfl (Nat.le_of_ble_eq_true rfl) ?_
  intro F Z hl hR hD hcy hnw hnm
  subst hl hD hcy hnw
  have hRf : F.R.frames = 4 := by rw [hR]
  have hRc : F.R.cells = 0 := by rw [hR]
  have hRs : F.R.slots = 0 := by rw [hR]
  have hRl : F.R.locals = 91 := by rw [hR]
  have in1 : ∀ w ∈ u_ws RX1 TX1 4, w ∈ wsX2_firstFrom := by decide +kernel
  have in2 : ∀ w ∈ u_ws RX2 TX2 2, w ∈ wsX2_firstFrom := by decide +kernel
  have lk11 : Cond.fieldLink RX2 11 (TX2 0).1 (TX2 0).2.1 (TX2 0).2.2.1 ∈ wsX2_firstFrom := by decide +kernel
  have lk18 : Cond.fieldLink RX2 18 (TX2 1).1 (TX2 1).2.1 (TX2 1).2.2.1 ∈ wsX2_firstFrom := by decide +kernel
  have lk26 : Cond.fieldLink RX2 26 (TX1 0).1 (TX1 0).2.1 (TX1 0).2.2.1 ∈ wsX2_firstFrom := by decide +kernel
  have ct29 : Cond.constant RX2 29 (65536) ∈ wsX2_firstFrom := by decide +kernel
  have ct94 : Cond.constantLong RX2 94 (-1) ∈ wsX2_firstFrom := by decide +kernel
  obtain ⟨hsL, hsK, hsit, hitL, hitK, hitl, -, hu7, hsw, hsr⟩ := id hv.at
  have hsu := hv.2.2.2.1
  have hV7 := hv.2.2.2.2.1
  have loop : ∀ (n : Nat) (j : Nat), 8 - j < n → j ≤ V.1 → (∀ i, j ≤ i → i < V.1 → key ≤ (V.2 i).1) → Nx0 V key y j → G F 5 S 0 0 (QL F (fun r T => S = T ∧ NxV V key y r) 0 0) 6 [(0, .ref s), (1, .int (nI key)), (2, .int (nI y)), (3, .int (nI j))] [] := by
    intro n
    induction n with
    | zero => intros; omega
    | succ n ih =>
      intro j hn hj hks h0
      refine g_iload_n Z dX2_firstFrom_6 rfl ?_
      refine g_aload_n Z dX2_firstFrom_7 rfl ?_
      refine g_geti Z 2 1 rfl (by decide) in2 lk18 dX2_firstFrom_8 (by assumption) (by assumption) ?_
      rw [hsu]
      refine g_icmp_ge Z 71 dX2_firstFrom_11 (by decide) (fun h11 => ?_) (fun h11 => ?_)
      · have hge : V.1 ≤ j := ge_t (by omega) (by omega) h11
        refine g_ldc2 (v := -1) Z dX2_firstFrom_71 ct94 ?_
        exact g_lret Z dX2_firstFrom_74 (by omega) (by omega) ⟨rfl, Or.inr ⟨by rw [show V.1 = j by omega]; exact h0, rfl⟩⟩
      · have hlt : j < V.1 := ge_f (by omega) (by omega) h11
        have hc := hv.rr (j := j) (by omega)
        have hcv := hv.cv hlt
        have hcr := hcv.cr
        obtain ⟨hcL, hcK, -, -⟩ := id hcr
        have hkj := hcv.ky
        have hkle := hks j (Nat.le_refl _) hlt
        have hcl : (nI j).toNatClampNeg = j := nI_clamp (by omega)
        refine g_aload_n Z dX2_firstFrom_14 rfl ?_
        refine g_getr Z 2 0 rfl (by decide) in2 lk11 dX2_firstFrom_15 (by assumption) (by assumption) (by assumption) ?_
        refine g_iload_n Z dX2_firstFrom_18 rfl ?_
        refine g_aald10 Z dX2_firstFrom_19 (by assumption) (by assumption) (by exact vin_of hitl (by omega) (by decide)) (by rw [hcl]; exact hc) ?_
        refine g_aload_n Z dX2_firstFrom_20 rfl ?_
        refine g_getr Z 2 0 rfl (by decide) in2 lk11 dX2_firstFrom_21 (by assumption) (by assumption) (by assumption) ?_
        refine g_iload_n Z dX2_firstFrom_24 rfl ?_
        refine g_aald10 Z dX2_firstFrom_25 (by assumption) (by assumption) (by exact vin_of hitl (by omega) (by decide)) (by rw [hcl]; exact hc) ?_
        refine g_geti Z 1 0 rfl (by decide) in1 lk26 dX2_firstFrom_26 (by assumption) (by assumption) ?_
        refine g_iload_n Z dX2_firstFrom_29 rfl ?_
        rw [hkj.1]
        refine g_icmp_ne Z 37 dX2_firstFrom_30 (by decide) (fun h30 => ?_) (fun h30 => ?_)
        · have hlw : lwF V key y j = 0 := by unfold lwF; rw [if_neg (fun e => h30 (by rw [e]))]
          refine g_iconst (v := 0) Z dX2_firstFrom_37 (by decide) ?_
          refine g_cvI Z (f_X1_firstIn F.l F.D F.cy F.nw _ (C j) (V.2 j) hcv 0 (by omega)) 1 gX2_firstFrom_X1_firstIn rfl (by decide +kernel) (by rw [hRf, hRl]; decide) (by assumption) (κ := 1) (by assumption) rfl (by decide) rfl rfl (Nat.le_of_ble_eq_true rfl) dX2_firstFrom_38 (by rw [hRc, hRs]; omega) (fun r2 U hp => ?_)
          obtain ⟨rfl, n2, rfl, hfb⟩ := hp
          rw [← hlw] at hfb
          refine g_istore Z dX2_firstFrom_41 (by decide) ?_
          refine g_iload Z dX2_firstFrom_43 rfl ?_
          refine g_ldc (v := 65536) Z dX2_firstFrom_45 ct29 ?_
          refine g_icmp_eq Z 65 dX2_firstFrom_47 (by decide) (fun h47 => ?_) (fun h47 => ?_)
          · refine g_iinc (c := 1) Z dX2_firstFrom_65 rfl (by decide) (by decide) ?_
            rw [nI_1]
            refine g_goto Z 6 dX2_firstFrom_68 (by decide) ?_
            exact g_lv (by (repeat (first | exact trivial | refine And.intro rfl ?_)); done) (ih (j + 1) (by omega) (by omega) (fun i h1 h2 => hks i (by omega) h2) (fun i h1 h2 => by
              rcases Nat.lt_or_ge i j with q | q
              · exact h0 i q h2
              · have e : i = j := by omega
                subst e
                have e2 : n2 = 65536 := (nI_eq (by have := hfb.2.1; omega) (by decide)).mp h47
                rw [← e2]; exact hfb))
          · have hn6 : n2 < 65536 := by
              have h1 := hfb.2.1
              rcases Nat.lt_or_eq_of_le h1 with q | q
              · exact q
              · exact absurd (by rw [q]; rfl) h47
            refine g_aload_n Z dX2_firstFrom_50 rfl ?_
            refine g_getr Z 2 0 rfl (by decide) in2 lk11 dX2_firstFrom_51 (by assumption) (by assumption) (by assumption) ?_
            refine g_iload_n Z dX2_firstFrom_54 rfl ?_
            refine g_aald10 Z dX2_firstFrom_55 (by assumption) (by assumption) (by exact vin_of hitl (by omega) (by decide)) (by rw [hcl]; exact hc) ?_
            refine g_geti Z 1 0 rfl (by decide) in1 lk26 dX2_firstFrom_56 (by assumption) (by assumption) ?_
            rw [hkj.1]
            refine g_iload Z dX2_firstFrom_59 rfl ?_
            refine g_csL Z (f_X2_numberOf F.l F.D F.cy F.nw _ _ _ hkj.2 hn6) 2 gX2_firstFrom_X2_numberOf rfl (by decide +kernel) (by rw [hRf, hRl]; decide) rfl rfl (Nat.le_of_ble_eq_true rfl) dX2_firstFrom_61 (by rw [hRc, hRs]; omega) (fun r3 U hp => ?_)
            obtain ⟨rfl, e3⟩ := hp
            exact g_lret Z dX2_firstFrom_64 (by omega) (by omega) ⟨rfl, Or.inl ⟨j, n2, hlt, hkle, hn6, hfb, h0, e3⟩⟩
        · have hlw : lwF V key y j = y := by unfold lwF; rw [if_pos ((nI_eq (by omega) (by omega)).mp h30)]
          refine g_iload_n Z dX2_firstFrom_33 rfl ?_
          refine g_goto Z 38 dX2_firstFrom_34 (by decide) ?_
          refine g_cvI Z (f_X1_firstIn F.l F.D F.cy F.nw _ (C j) (V.2 j) hcv y (by omega)) 1 gX2_firstFrom_X1_firstIn rfl (by decide +kernel) (by rw [hRf, hRl]; decide) (by assumption) (κ := 1) (by assumption) rfl (by decide) rfl rfl (Nat.le_of_ble_eq_true rfl) dX2_firstFrom_38 (by rw [hRc, hRs]; omega) (fun r2 U hp => ?_)
          obtain ⟨rfl, n2, rfl, hfb⟩ := hp
          rw [← hlw] at hfb
          refine g_istore Z dX2_firstFrom_41 (by decide) ?_
          refine g_iload Z dX2_firstFrom_43 rfl ?_
          refine g_ldc (v := 65536) Z dX2_firstFrom_45 ct29 ?_
          refine g_icmp_eq Z 65 dX2_firstFrom_47 (by decide) (fun h47 => ?_) (fun h47 => ?_)
          · refine g_iinc (c := 1) Z dX2_firstFrom_65 rfl (by decide) (by decide) ?_
            rw [nI_1]
            refine g_goto Z 6 dX2_firstFrom_68 (by decide) ?_
            exact g_lv (by (repeat (first | exact trivial | refine And.intro rfl ?_)); done) (ih (j + 1) (by omega) (by omega) (fun i h1 h2 => hks i (by omega) h2) (fun i h1 h2 => by
              rcases Nat.lt_or_ge i j with q | q
              · exact h0 i q h2
              · have e : i = j := by omega
                subst e
                have e2 : n2 = 65536 := (nI_eq (by have := hfb.2.1; omega) (by decide)).mp h47
                rw [← e2]; exact hfb))
          · have hn6 : n2 < 65536 := by
              have h1 := hfb.2.1
              rcases Nat.lt_or_eq_of_le h1 with q | q
              · exact q
              · exact absurd (by rw [q]; rfl) h47
            refine g_aload_n Z dX2_firstFrom_50 rfl ?_
            refine g_getr Z 2 0 rfl (by decide) in2 lk11 dX2_firstFrom_51 (by assumption) (by assumption) (by assumption) ?_
            refine g_iload_n Z dX2_firstFrom_54 rfl ?_
            refine g_aald10 Z dX2_firstFrom_55 (by assumption) (by assumption) (by exact vin_of hitl (by omega) (by decide)) (by rw [hcl]; exact hc) ?_
            refine g_geti Z 1 0 rfl (by decide) in1 lk26 dX2_firstFrom_56 (by assumption) (by assumption) ?_
            rw [hkj.1]
            refine g_iload Z dX2_firstFrom_59 rfl ?_
            refine g_csL Z (f_X2_numberOf F.l F.D F.cy F.nw _ _ _ hkj.2 hn6) 2 gX2_firstFrom_X2_numberOf rfl (by decide +kernel) (by rw [hRf, hRl]; decide) rfl rfl (Nat.le_of_ble_eq_true rfl) dX2_firstFrom_61 (by rw [hRc, hRs]; omega) (fun r3 U hp => ?_)
            obtain ⟨rfl, e3⟩ := hp
            exact g_lret Z dX2_firstFrom_64 (by omega) (by omega) ⟨rfl, Or.inl ⟨j, n2, hlt, hkle, hn6, hfb, h0, e3⟩⟩
  refine g_aload_n Z dX2_firstFrom_0 rfl ?_
  refine g_iload_n Z dX2_firstFrom_1 rfl ?_
  refine g_cvI Z (f_X2_indexOf F.l F.D F.cy F.nw S O b s it C V hv key hkey) 1 gX2_firstFrom_X2_indexOf rfl (by decide +kernel) (by rw [hRf, hRl]; decide) (by assumption) (κ := 2) (by assumption) rfl (by decide) rfl rfl (Nat.le_of_ble_eq_true rfl) dX2_firstFrom_2 (by rw [hRc, hRs]; omega) (fun r T hp => ?_)
  obtain ⟨rfl, j, hj, rfl⟩ := hp
  refine g_istore_n Z dX2_firstFrom_5 (by decide) ?_
  exact g_lv (by (repeat (first | exact trivial | refine And.intro rfl ?_)); done) (loop 9 j (by omega) hj.1 (fun i h1 h2 => by
      rcases Nat.lt_or_eq_of_le h1 with q | q
      · have h3 := hst j i q h2; have h4 := hj.2.2 (by omega); omega
      · subst q; exact hj.2.2 h2) (fun i h1 h2 => absurd (hj.2.1 i h1) (by omega)))

set_option maxRecDepth 100000 in
set_option maxHeartbeats 2000000 in
theorem f_X6_next (l : Launch) (D : va_G) (cy : Nat → ClassId) (nw : Nat) (S : PS) (x sa pl la br h n u rd rk rt w fa : Nat) (so O : Nat → Nat) (V : Nat → Sv) (B : Nat → Nat) (hx : FX S nw x sa pl la br h n u rd rk rt w fa so O V B) (a v : Int32) : kL l yX6_next wsX6_next 5 115 D cy nw [.ref x, .int a, .int v] S (fun r T => S = T ∧ ((∃ j, j < 8 ∧ a = nI j ∧ NxV (V j) (kyI v) (loI v) r) ∨ (¬ isS a ∧ r = -2))) 0 0 := by
  refine enterL (cc := cX6_next) (nL := 3) (ret := (some .long)) (by decide +kernel) rfl (Nat.le_of_ble_eq_true rfl) ?_
  intro F Z hl hR hD hcy hnw hnm
  subst hl hD hcy hnw
  have hRf : F.R.frames = 5 := by rw [hR]
  have hRc : F.R.cells = 0 := by rw [hR]
  have hRs : F.R.slots = 0 := by rw [hR]
  have hRl : F.R.locals = 115 := by rw [hR]
  have in5 : ∀ w ∈ u_ws RX6 TX6 6, w ∈ wsX6_next := by decide +kernel
  have lk11 : Cond.fieldLink RX6 11 (TX6 0).1 (TX6 0).2.1 (TX6 0).2.2.1 ∈ wsX6_next := by decide +kernel
  have ct115 : Cond.constantLong RX6 115 (-2) ∈ wsX6_next := by decide +kernel
  obtain ⟨hFO, hGV, hVok⟩ := id hx
  obtain ⟨hFx, hSa, -, -, -⟩ := id hFO
  obtain ⟨hxL, hxK, hxO, hsa, hsp, hpl, hbr, hrd, hxw, hw3⟩ := id hFx
  obtain ⟨hsaL, hsaK, hsal, hsas, hsaO⟩ := id hSa
  obtain ⟨be, it, C, hgx⟩ := id hGV
  refine g_iload_n Z dX6_next_0 rfl ?_
  refine g_csI Z (c_X6_isNoSet F.l F.D F.cy F.nw _ _) 1 gX6_next_X6_isNoSet rfl (by decide +kernel) (by rw [hRf, hRl]; decide) rfl rfl (Nat.le_of_ble_eq_true rfl) dX6_next_1 (by rw [hRc, hRs]; omega) (fun r0 T0 hq0 => ?_)
  obtain ⟨rfl, hi⟩ := hq0
  refine g_if_eq Z 13 dX6_next_4 (by decide) (fun h4 => ?_) (fun h4 => ?_)
  · obtain ⟨j, hj, rfl⟩ := isIx_0 hi h4
    have hss := (hgx.1 j (by omega)).1
    have hcj : (nI j).toNatClampNeg = j := nI_clamp (by omega)
    have hsL := hss.1
    have hsK := hss.2.1
    refine g_aload_n Z dX6_next_13 rfl ?_
    refine g_getr Z 5 0 rfl (by decide) in5 lk11 dX6_next_14 (by assumption) (by assumption) (by assumption) ?_
    refine g_iload_n Z dX6_next_17 rfl ?_
    refine g_aald11 Z dX6_next_18 (by assumption) (by assumption) (by exact vin_of hsal (by omega) (by decide)) (by rw [hcj]; exact hsas j hj) ?_
    refine g_iload_n Z dX6_next_19 rfl ?_
    refine g_csI Z (c_X6_keyOf F.l F.D F.cy F.nw _ _) 1 gX6_next_X6_keyOf rfl (by decide +kernel) (by rw [hRf, hRl]; decide) rfl rfl (Nat.le_of_ble_eq_true rfl) dX6_next_20 (by rw [hRc, hRs]; omega) (fun r1 T1 hq1 => ?_)
    obtain ⟨rfl, rfl⟩ := hq1
    rw [kyI_eq]
    refine g_iload_n Z dX6_next_23 rfl ?_
    refine g_csI Z (c_X6_lowOf F.l F.D F.cy F.nw _ _) 1 gX6_next_X6_lowOf rfl (by decide +kernel) (by rw [hRf, hRl]; decide) rfl rfl (Nat.le_of_ble_eq_true rfl) dX6_next_24 (by rw [hRc, hRs]; omega) (fun r1 T1 hq1 => ?_)
    obtain ⟨rfl, rfl⟩ := hq1
    rw [loI_eq]
    refine g_cvL Z (f_X2_firstFrom F.l F.D F.cy F.nw S O (be j) (so j) (it j) (C j) (V j) hss (hVok j hj).2.1 (kyI v) (kyI_lt v) (loI v) (loI_lt v)) 2 gX6_next_X2_firstFrom rfl (by decide +kernel) (by rw [hRf, hRl]; decide) (by assumption) (κ := 2) (by assumption) rfl (by decide) rfl rfl (Nat.le_of_ble_eq_true rfl) dX6_next_27 (by rw [hRc, hRs]; omega) (fun r3 T3 hq3 => ?_)
    obtain ⟨rfl, e3⟩ := hq3
    exact g_lret Z dX6_next_30 (by omega) (by omega) ⟨rfl, Or.inl ⟨j, hj, rfl, e3⟩⟩
  · have hno := isIx_1 (by decide) hi h4
    refine g_ldc2 (v := -2) Z dX6_next_7 ct115 ?_
    refine g_goto Z 30 dX6_next_10 (by decide) ?_
    exact g_lret Z dX6_next_30 (by omega) (by omega) ⟨rfl, Or.inr ⟨hno, rfl⟩⟩

set_option maxRecDepth 100000 in
set_option maxHeartbeats 2000000 in
theorem f_X7_next (l : Launch) (D : va_G) (cy : Nat → ClassId) (nw : Nat) (A : Nat → Nat) (x : Nat) (ho : mOk A x) (C : C5) (R : MR) (V : Nat → Sv) (hM : MV C V) (hV : ∀ s, s < 8 → Vok (V s)) (a v : Int32) : kL l yX7_next wsX7_next 2 45 D cy nw [.ref x, .int a, .int v] (mP A x (C, R)) (fun r T => (mP A x (C, R)) = T ∧ ((∃ j, j < 8 ∧ a = nI j ∧ NxV (V j) (kyI v) (loI v) r) ∨ (¬ isS a ∧ r = -2))) 0 0 := by
  refine enterL (cc := cX7_next) (nL := 7) (ret := (some .long)) (by decide +kernel) rfl (Nat.le_of_ble_eq_true rfl) ?_
  intro F Z hl hR hD hcy hnw hnm
  subst hl hD hcy hnw
  have hRf : F.R.frames = 2 := by rw [hR]
  have hRc : F.R.cells = 0 := by rw [hR]
  have hRs : F.R.slots = 0 := by rw [hR]
  have hRl : F.R.locals = 45 := by rw [hR]
  have in6 : ∀ w ∈ u_ws RX7 TX7 16, w ∈ wsX7_next := by decide +kernel
  have lk7 : Cond.fieldLink RX7 7 (TX7 0).1 (TX7 0).2.1 (TX7 0).2.2.1 ∈ wsX7_next := by decide +kernel
  have lk13 : Cond.fieldLink RX7 13 (TX7 1).1 (TX7 1).2.1 (TX7 1).2.2.1 ∈ wsX7_next := by decide +kernel
  have ct52 : Cond.constantLong RX7 52 (-1) ∈ wsX7_next := by decide +kernel
  have ct74 : Cond.constant RX7 74 (65535) ∈ wsX7_next := by decide +kernel
  have ct107 : Cond.constant RX7 107 (65536) ∈ wsX7_next := by decide +kernel
  have ct142 : Cond.constantLong RX7 142 (-2) ∈ wsX7_next := by decide +kernel
  obtain ⟨b, hb, eb, ebl⟩ : ∃ b, b < 65536 ∧ v &&& 65535 = nI b ∧ b = loI v := ⟨loI v, loI_lt v, loI_eq v, rfl⟩
  obtain ⟨key, hkey, ekey, ekl⟩ : ∃ k, k < 65536 ∧ nI (kyI v) = nI k ∧ k = kyI v := ⟨kyI v, kyI_lt v, rfl, rfl⟩
  have loop : ∀ (n s n0 : Nat), s < 8 → n0 ≤ 6 → C.mn s = nI n0 → n0 = (V s).1 → (∀ i, i < n0 → Mc C (6 * s + i) ((V s).2 i) ∧ ((V s).2 i).1 < 65536) → (∀ r, NxV (V s) key b r → ((∃ j, j < 8 ∧ a = nI j ∧ NxV (V j) (kyI v) (loI v) r) ∨ (¬ isS a ∧ r = -2))) → ∀ (k : Nat), n0 - k < n → k ≤ n0 → Nx0 (V s) key b k → G F 7 (mP A x (C, R)) 0 0 (QL F (fun r T => (mP A x (C, R)) = T ∧ ((∃ j, j < 8 ∧ a = nI j ∧ NxV (V j) (kyI v) (loI v) r) ∨ (¬ isS a ∧ r = -2))) 0 0) 19 [(0, .ref x), (1, .int (nI s)), (2, .int v), (3, .int (nI key)), (4, .int (nI k))] [] := by
    intro n s n0 hs hn0 en hnV hMc hQ
    induction n with
    | zero => intros; omega
    | succ n ih =>
      intro k hn hk h0
      have j100 : ∀ (q : Nat), q ≤ 65536 → k < n0 → (key ≤ ((V s).2 k).1 → Fb ((V s).2 k).2.2 1 (lwF (V s) key b k) q) → (((V s).2 k).1 < key → q = 65536) → G F 7 (mP A x (C, R)) 0 0 (QL F (fun r T => (mP A x (C, R)) = T ∧ ((∃ j, j < 8 ∧ a = nI j ∧ NxV (V j) (kyI v) (loI v) r) ∨ (¬ isS a ∧ r = -2))) 0 0) 100 [(0, .ref x), (1, .int (nI s)), (2, .int v), (3, .int (nI key)), (4, .int (nI k)), (5, .int (nI (6 * s + k))), (6, .int (nI q))] [] := by
        intro q hq hlt hfb hqk
        refine g_iload Z dX7_next_100 rfl ?_
        refine g_ldc (v := 65536) Z dX7_next_102 ct107 ?_
        refine g_icmp_ge Z 116 dX7_next_104 (by decide) (fun h104 => ?_) (fun h104 => ?_)
        · refine g_iinc (c := 1) Z dX7_next_116 rfl (by decide) (by decide) ?_
          rw [nI_1]
          refine g_goto Z 19 dX7_next_119 (by decide) ?_
          exact g_lv (by (repeat (first | exact trivial | refine And.intro rfl ?_)); done) (ih (k + 1) (by omega) (by omega) (fun i h1 h2 => by
            rcases Nat.lt_or_ge i k with z | z
            · exact h0 i z h2
            · have e : i = k := by omega
              subst e
              have e2 : q = 65536 := by have := ge_t (N := 65536) (by omega) (by decide) h104; omega
              rw [← e2]; exact hfb h2))
        · have hq6 : q < 65536 := ge_f (N := 65536) (by omega) (by decide) h104
          have hkle : key ≤ ((V s).2 k).1 := by
            rcases Nat.lt_or_ge ((V s).2 k).1 key with z | z
            · have := hqk z; omega
            · exact z
          refine g_aload_n Z dX7_next_107 rfl ?_
          refine g_iload Z dX7_next_108 rfl ?_
          refine g_iload Z dX7_next_110 rfl ?_
          refine g_cvL Z (f_X7_numberOf F.l F.D F.cy F.nw A x ho _ _ _ (by omega) ((V s).2 k).1 q (hMc k hlt).2 (hMc k hlt).1.1 hq6) 2 gX7_next_X7_numberOf rfl (by decide +kernel) (by rw [hRf, hRl]; decide) (by exact mP_x) (κ := 6) (by exact mP_Kx) rfl (by decide) rfl rfl (Nat.le_of_ble_eq_true rfl) dX7_next_112 (by rw [hRc, hRs]; omega) (fun r T hp => ?_)
          obtain ⟨rfl, e3⟩ := hp
          exact g_lret Z dX7_next_115 (by omega) (by omega) ⟨rfl, hQ _ (Or.inl ⟨k, q, by omega, hkle, hq6, hfb hkle, h0, e3⟩)⟩
      have lp : ∀ (i q : Nat), 65536 - q < i → q ≤ 65536 → k < n0 → (((V s).2 k).1 < key → q = 65536) → (key ≤ ((V s).2 k).1 → lwF (V s) key b k ≤ q ∧ ∀ l, lwF (V s) key b k ≤ l → l < q → cb ((V s).2 k).2.2 0 l ≠ 1) → G F 7 (mP A x (C, R)) 0 0 (QL F (fun r T => (mP A x (C, R)) = T ∧ ((∃ j, j < 8 ∧ a = nI j ∧ NxV (V j) (kyI v) (loI v) r) ∨ (¬ isS a ∧ r = -2))) 0 0) 76 [(0, .ref x), (1, .int (nI s)), (2, .int v), (3, .int (nI key)), (4, .int (nI k)), (5, .int (nI (6 * s + k))), (6, .int (nI q))] [] := by
        intro i
        induction i with
        | zero => intros; omega
        | succ i ih2 =>
          intro q hi hq hlt hqk hfb
          have hcb := (hMc k hlt).1.2.2.2
          refine g_iload Z dX7_next_76 rfl ?_
          refine g_ldc (v := 65536) Z dX7_next_78 ct107 ?_
          refine g_icmp_ge Z 100 dX7_next_80 (by decide) (fun h80 => ?_) (fun h80 => ?_)
          · exact g_lv (by (repeat (first | exact trivial | refine And.intro rfl ?_)); done) (j100 q hq hlt (fun h => ⟨(hfb h).1, hq, (hfb h).2, fun z => absurd z (by have := ge_t (N := 65536) (by omega) (by decide) h80; omega)⟩) hqk)
          · have hq2 : q < 65536 := ge_f (N := 65536) (by omega) (by decide) h80
            refine g_aload_n Z dX7_next_83 rfl ?_
            refine g_iload Z dX7_next_84 rfl ?_
            refine g_iload Z dX7_next_86 rfl ?_
            refine g_cvI Z (c_X7_hasLow F.l F.D F.cy F.nw A x ho _ _ _ _ (by omega) (by omega)) 2 gX7_next_X7_hasLow rfl (by decide +kernel) (by rw [hRf, hRl]; decide) (by exact mP_x) (κ := 6) (by exact mP_Kx) rfl (by decide) rfl rfl (Nat.le_of_ble_eq_true rfl) dX7_next_88 (by rw [hRc, hRs]; omega) (fun r T hp => ?_)
            obtain ⟨rfl, e3⟩ := hp
            rw [hcb q hq2] at e3
            refine g_if_ne Z 100 dX7_next_91 (by decide) (fun h91 => ?_) (fun h91 => ?_)
            · have hc1 : cb ((V s).2 k).2.2 0 q = 1 := by
                have z := cb_le ((V s).2 k).2.2 0 q
                rcases (show cb ((V s).2 k).2.2 0 q = 0 ∨ cb ((V s).2 k).2.2 0 q = 1 by omega) with e | e
                · exact absurd (by rw [e3, e]; exact nI_0) h91
                · exact e
              exact g_lv (by (repeat (first | exact trivial | refine And.intro rfl ?_)); done) (j100 q hq hlt (fun h => ⟨(hfb h).1, hq, (hfb h).2, fun _ => hc1⟩) hqk)
            · refine g_iinc (c := 1) Z dX7_next_94 rfl (by decide) (by decide) ?_
              rw [nI_1]
              refine g_goto Z 76 dX7_next_97 (by decide) ?_
              exact g_lv (by (repeat (first | exact trivial | refine And.intro rfl ?_)); done) (ih2 (q + 1) (by omega) (by omega) hlt (fun z => by have := hqk z; omega) (fun h => ⟨by have := (hfb h).1; omega, fun l h1 h2 => by
                rcases Nat.lt_or_ge l q with z | z
                · exact (hfb h).2 l h1 z
                · have e : l = q := by omega
                  subst e
                  intro e1
                  rw [e1] at e3
                  exact absurd (e3.symm.trans h91) (by decide)⟩))
      refine g_iload Z dX7_next_19 rfl ?_
      refine g_aload_n Z dX7_next_21 rfl ?_
      refine m_ref_mn Z in6 lk7 dX7_next_22 ?_
      refine g_iload_n Z dX7_next_25 rfl ?_
      refine m_ald_mn Z ho dX7_next_26 (by exact vp_in_nI (by omega) (by decide)) ?_
      rw [nI_clamp (by omega), en]
      refine g_icmp_ge Z 122 dX7_next_27 (by decide) (fun h27 => ?_) (fun h27 => ?_)
      · have hge := ge_t (by omega) (by omega) h27
        refine g_ldc2 (v := -1) Z dX7_next_122 ct52 ?_
        exact g_lret Z dX7_next_125 (by omega) (by omega) ⟨rfl, hQ _ (Or.inr ⟨by rw [← hnV, show n0 = k by omega]; exact h0, rfl⟩)⟩
      · have hlt : k < n0 := ge_f (by omega) (by omega) h27
        refine g_bipush (v := 6) Z dX7_next_30 (by decide) ?_
        refine g_iload_n Z dX7_next_32 rfl ?_
        refine g_imul Z dX7_next_33 ?_
        refine g_iload Z dX7_next_34 rfl ?_
        refine g_iadd Z dX7_next_36 ?_
        rw [ix6]
        refine g_istore Z dX7_next_37 (by decide) ?_
        refine g_aload_n Z dX7_next_39 rfl ?_
        refine m_ref_ky Z in6 lk13 dX7_next_40 ?_
        refine g_iload Z dX7_next_43 rfl ?_
        refine m_ald_ky Z ho dX7_next_45 (by exact vp_in_nI (by omega) (by decide)) ?_
        rw [nI_clamp (by omega)]
        refine g_iload_n Z dX7_next_46 rfl ?_
        obtain ⟨⟨hky, -, hsz, -⟩, hk6⟩ := hMc k hlt
        rw [hky]
        refine g_icmp_ge Z 55 dX7_next_47 (by decide) (fun h47 => ?_) (fun h47 => ?_)
        · refine g_aload_n Z dX7_next_55 rfl ?_
          refine m_ref_ky Z in6 lk13 dX7_next_56 ?_
          refine g_iload Z dX7_next_59 rfl ?_
          refine m_ald_ky Z ho dX7_next_61 (by exact vp_in_nI (by omega) (by decide)) ?_
          rw [nI_clamp (by omega)]
          refine g_iload_n Z dX7_next_62 rfl ?_
          have hge47 := ge_t (by omega) (by omega) h47
          rw [hky]
          refine g_icmp_ne Z 73 dX7_next_63 (by decide) (fun h63 => ?_) (fun h63 => ?_)
          · refine g_iconst (v := 0) Z dX7_next_73 (by decide) ?_
            refine g_istore Z dX7_next_74 (by decide) ?_
            exact g_lv (by (repeat (first | exact trivial | refine And.intro rfl ?_)); done) (lp 65537 0 (by omega) (by omega) hlt (fun z => by omega) (fun _ => ⟨by unfold lwF; rw [if_neg (fun e => h63 (by rw [e]))]; exact Nat.le_refl _, fun l h1 h2 => by omega⟩))
          · refine g_iload_n Z dX7_next_66 rfl ?_
            refine g_ldc (v := 65535) Z dX7_next_67 ct74 ?_
            refine g_iand Z dX7_next_69 ?_
            rw [eb]
            refine g_goto Z 74 dX7_next_70 (by decide) ?_
            refine g_istore Z dX7_next_74 (by decide) ?_
            exact g_lv (by (repeat (first | exact trivial | refine And.intro rfl ?_)); done) (lp 65537 b (by omega) (by omega) hlt (fun z => by omega) (fun _ => ⟨by unfold lwF; split <;> omega, fun l h1 h2 => by unfold lwF at h1; rw [if_pos ((nI_eq (by omega) (by omega)).mp h63)] at h1; omega⟩))
        · refine g_ldc (v := 65536) Z dX7_next_50 ct107 ?_
          refine g_goto Z 74 dX7_next_52 (by decide) ?_
          refine g_istore Z dX7_next_74 (by decide) ?_
          exact g_lv (by (repeat (first | exact trivial | refine And.intro rfl ?_)); done) (lp 65537 65536 (by omega) (by omega) hlt (fun z => rfl) (fun z => absurd (ge_f (by omega) (by omega) h47) (by omega)))
  refine g_iload_n Z dX7_next_0 rfl ?_
  refine g_csI Z (c_X7_isSet F.l F.D F.cy F.nw _ _) 1 gX7_next_X7_isSet rfl (by decide +kernel) (by rw [hRf, hRl]; decide) rfl rfl (Nat.le_of_ble_eq_true rfl) dX7_next_1 (by rw [hRc, hRs]; omega) (fun r T hp => ?_)
  obtain ⟨rfl, his⟩ := hp
  refine g_if_ne Z 11 dX7_next_4 (by decide) (fun h4 => ?_) (fun h4 => ?_)
  · obtain ⟨s, hs, rfl⟩ := his.is h4
    have hs8 : s < 8 := by omega
    have hMs := hM s hs8
    have hn0 := hMs.1
    have en := hMs.2.1
    refine g_iload_n Z dX7_next_11 rfl ?_
    refine g_bipush (v := 16) Z dX7_next_12 (by decide) ?_
    refine g_iushr Z dX7_next_14 ?_
    rw [kyI_eq, ekey]
    refine g_istore_n Z dX7_next_15 (by decide) ?_
    refine g_iconst (v := 0) Z dX7_next_16 (by decide) ?_
    refine g_istore Z dX7_next_17 (by decide) ?_
    exact g_lv (by (repeat (first | exact trivial | refine And.intro rfl ?_)); done) (loop ((V s).1 + 1) s (V s).1 hs8 hn0 en rfl (fun i h => ⟨hMs.2.2 i h, ((hV s hs8).2.2 i h).1⟩) (fun r e => Or.inl ⟨s, hs8, rfl, by rw [ebl, ekl] at e; exact e⟩) 0 (by omega) (by omega) (fun i h => absurd h (Nat.not_lt_zero _)))
  · have hno := his.f' h4
    refine g_ldc2 (v := -2) Z dX7_next_7 ct142 ?_
    exact g_lret Z dX7_next_10 (by omega) (by omega) ⟨rfl, Or.inr ⟨hno, rfl⟩⟩
