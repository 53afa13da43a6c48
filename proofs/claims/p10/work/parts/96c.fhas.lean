/-! has -/
def HasV (V : Sv) (v r : Int32) : Prop := (∃ i, i < V.1 ∧ (V.2 i).1 = kyI v ∧ r = nI (cb (V.2 i).2.2 0 (loI v))) ∨ ((∀ i, i < V.1 → (V.2 i).1 ≠ kyI v) ∧ r = 0)
theorem srt_uniq {V : Sv} (hs : Srt V) {i j : Nat} (hi : i < V.1) (hj : j < V.1) (e : (V.2 i).1 = (V.2 j).1) : i = j := by
  rcases Nat.lt_trichotomy i j with q | q | q
  · have := hs i j q hj; omega
  · exact q
  · have := hs j i q hi; omega
theorem HasV.det {V : Sv} {v r r2 : Int32} (hs : Srt V) (h : HasV V v r) (k : HasV V v r2) : r = r2 := by
  rcases h with ⟨i, hi, hk, e⟩ | ⟨hn, e⟩ <;> rcases k with ⟨j, hj, hkj, e2⟩ | ⟨hn2, e2⟩
  · have q := srt_uniq hs hi hj (hk.trans hkj.symm)
    subst q; exact e.trans e2.symm
  · exact absurd hk (hn2 i hi)
  · exact absurd hkj (hn j hj)
  · exact e.trans e2.symm
theorem cb_1 {f : Nat → Int64} {c l : Nat} (h : ¬ nI (cb f c l) = 0) : nI (cb f c l) = 1 := by
  have q := cb_le f c l
  rcases (show cb f c l = 0 ∨ cb f c l = 1 by omega) with e | e
  · exact absurd (by rw [e]; exact nI_0) h
  · rw [e]; rfl

set_option maxRecDepth 100000 in
set_option maxHeartbeats 2000000 in
theorem f_X6_has (l : Launch) (D : va_G) (cy : Nat → ClassId) (nw : Nat) (S : PS) (x sa pl la br h n u rd rk rt w fa : Nat) (so O : Nat → Nat) (V : Nat → Sv) (B : Nat → Nat) (hx : FX S nw x sa pl la br h n u rd rk rt w fa so O V B) (a v : Int32) : kI l yX6_has wsX6_has 2 44 D cy nw [.ref x, .int a, .int v] S (fun r T => S = T ∧ ((∃ j, j < 8 ∧ a = nI j ∧ HasV (V j) v r) ∨ (¬ isS a ∧ r = -2))) 0 0 := by
  refine enterI (cc := cX6_has) (nL := 4) (ret := (some .int)) (by decide +kernel) rfl (Nat.le_of_ble_eq_true rfl) ?_
  intro F Z hl hR hD hcy hnw hnm
  subst hl hD hcy hnw
  have hRf : F.R.frames = 2 := by rw [hR]
  have hRc : F.R.cells = 0 := by rw [hR]
  have hRs : F.R.slots = 0 := by rw [hR]
  have hRl : F.R.locals = 44 := by rw [hR]
  have in5 : ∀ w ∈ u_ws RX6 TX6 6, w ∈ wsX6_has := by decide +kernel
  have lk11 : Cond.fieldLink RX6 11 (TX6 0).1 (TX6 0).2.1 (TX6 0).2.2.1 ∈ wsX6_has := by decide +kernel
  obtain ⟨hFO, hGV, hVok⟩ := id hx
  obtain ⟨hFx, hSa, -, -, -⟩ := id hFO
  obtain ⟨hxL, hxK, hxO, hsa, hsp, hpl, hbr, hrd, hxw, hw3⟩ := id hFx
  obtain ⟨hsaL, hsaK, hsal, hsas, hsaO⟩ := id hSa
  obtain ⟨be, it, C, hgx⟩ := id hGV
  refine g_iload_n Z dX6_has_0 rfl ?_
  refine g_csI Z (c_X6_isNoSet F.l F.D F.cy F.nw _ _) 1 gX6_has_X6_isNoSet rfl (by decide +kernel) (by rw [hRf, hRl]; decide) rfl rfl (Nat.le_of_ble_eq_true rfl) dX6_has_1 (by rw [hRc, hRs]; omega) (fun r0 T0 hq0 => ?_)
  obtain ⟨rfl, hi⟩ := hq0
  refine g_if_eq Z 10 dX6_has_4 (by decide) (fun h4 => ?_) (fun h4 => ?_)
  · obtain ⟨j, hj, rfl⟩ := isIx_0 hi h4
    have hss := (hgx.1 j (by omega)).1
    have hcj : (nI j).toNatClampNeg = j := nI_clamp (by omega)
    have hsL := hss.1
    have hsK := hss.2.1
    refine g_aload_n Z dX6_has_10 rfl ?_
    refine g_getr Z 5 0 rfl (by decide) in5 lk11 dX6_has_11 (by assumption) (by assumption) (by assumption) ?_
    refine g_iload_n Z dX6_has_14 rfl ?_
    refine g_aald11 Z dX6_has_15 (by assumption) (by assumption) (by exact vin_of hsal (by omega) (by decide)) (by rw [hcj]; exact hsas j hj) ?_
    refine g_iload_n Z dX6_has_16 rfl ?_
    refine g_csI Z (c_X6_keyOf F.l F.D F.cy F.nw _ _) 1 gX6_has_X6_keyOf rfl (by decide +kernel) (by rw [hRf, hRl]; decide) rfl rfl (Nat.le_of_ble_eq_true rfl) dX6_has_17 (by rw [hRc, hRs]; omega) (fun r1 T1 hq1 => ?_)
    obtain ⟨rfl, rfl⟩ := hq1
    rw [kyI_eq]
    refine g_cvR Z (f_X2_find F.l F.D F.cy F.nw S O (be j) (so j) (it j) (C j) (V j) hss (kyI v) (kyI_lt v)) 1 gX6_has_X2_find rfl (by decide +kernel) (by rw [hRf, hRl]; decide) (by assumption) (κ := 2) (by assumption) rfl (by decide) rfl rfl (Nat.le_of_ble_eq_true rfl) dX6_has_20 (by rw [hRc, hRs]; omega) (fun r2 T2 hq2 => ?_)
    obtain ⟨rfl, hr2⟩ := hq2
    rcases hr2 with ⟨i, hi, hki, rfl⟩ | ⟨rfl, i, hix, hin⟩
    rotate_left
    · have hno : HasV (V j) v 0 := Or.inr ⟨fun k hk e => by
        have q := hix.uniq (hVok j hj).2.1 hk e
        subst q; exact hin hk e, rfl⟩
      refine g_astore_nN Z dX6_has_23 (by decide) ?_
      refine g_aload_nN Z dX6_has_24 rfl ?_
      refine g_ifnullN Z 43 dX6_has_25 (by decide) ?_
      refine g_iconst (v := 0) Z dX6_has_43 (by decide) ?_
      exact g_iret Z dX6_has_44 (by omega) (by omega) ⟨rfl, Or.inl ⟨j, hj, rfl, hno⟩⟩
    · obtain ⟨w1, hq, -, -, -, -, hwd⟩ := hss.cv hi
      have hcr := hq
      refine g_astore_n Z dX6_has_23 (by decide) ?_
      refine g_aload_n Z dX6_has_24 rfl ?_
      refine g_ifnull Z dX6_has_25 ?_
      refine g_aload_n Z dX6_has_28 rfl ?_
      refine g_iload_n Z dX6_has_29 rfl ?_
      refine g_csI Z (c_X6_lowOf F.l F.D F.cy F.nw _ _) 1 gX6_has_X6_lowOf rfl (by decide +kernel) (by rw [hRf, hRl]; decide) rfl rfl (Nat.le_of_ble_eq_true rfl) dX6_has_30 (by rw [hRc, hRs]; omega) (fun r1 T1 hq1 => ?_)
      obtain ⟨rfl, rfl⟩ := hq1
      rw [loI_eq]
      refine g_cvI Z (f_X1_holds F.l F.D F.cy F.nw _ (C j i) w1 hq (loI v) (loI_lt v)) 1 gX6_has_X1_holds rfl (by decide +kernel) (by rw [hRf, hRl]; decide) (by exact hcr.1) (κ := 1) (by exact hcr.2.1) rfl (by decide) rfl rfl (Nat.le_of_ble_eq_true rfl) dX6_has_33 (by rw [hRc, hRs]; omega) (fun r3 T3 hq3 => ?_)
      obtain ⟨rfl, er3⟩ := hq3
      rw [cb_w (c := 0) (g := ((V j).2 i).2.2) (fun q hq => by rw [Nat.mul_zero, Nat.zero_add]; exact hwd q hq) (loI_lt v)] at er3
      refine g_if_eq Z 43 dX6_has_36 (by decide) (fun h36 => ?_) (fun h36 => ?_)
      · have e0 : HasV (V j) v 0 := Or.inl ⟨i, hi, hki, by rw [← er3]; exact h36.symm⟩
        refine g_iconst (v := 0) Z dX6_has_43 (by decide) ?_
        exact g_iret Z dX6_has_44 (by omega) (by omega) ⟨rfl, Or.inl ⟨j, hj, rfl, e0⟩⟩
      · have e1 : HasV (V j) v 1 := Or.inl ⟨i, hi, hki, by rw [er3] at h36; exact (cb_1 h36).symm⟩
        refine g_iconst (v := 1) Z dX6_has_39 (by decide) ?_
        refine g_goto Z 44 dX6_has_40 (by decide) ?_
        exact g_iret Z dX6_has_44 (by omega) (by omega) ⟨rfl, Or.inl ⟨j, hj, rfl, e1⟩⟩
  · have hno := isIx_1 (by decide) hi h4
    refine g_bipush (v := (-2)) Z dX6_has_7 (by decide) ?_
    exact g_iret Z dX6_has_9 (by omega) (by omega) ⟨rfl, Or.inr ⟨hno, rfl⟩⟩

set_option maxRecDepth 100000 in
set_option maxHeartbeats 2000000 in
theorem f_X7_has (l : Launch) (D : va_G) (cy : Nat → ClassId) (nw : Nat) (A : Nat → Nat) (x : Nat) (ho : mOk A x) (C : C5) (R : MR) (V : Nat → Sv) (hM : MV C V) (hV : ∀ s, s < 8 → Vok (V s)) (a v : Int32) : kI l yX7_has wsX7_has 2 45 D cy nw [.ref x, .int a, .int v] (mP A x (C, R)) (fun r T => (mP A x (C, R)) = T ∧ ((∃ j, j < 8 ∧ a = nI j ∧ HasV (V j) v r) ∨ (¬ isS a ∧ r = -2))) 0 0 := by
  refine enterI (cc := cX7_has) (nL := 4) (ret := (some .int)) (by decide +kernel) rfl (Nat.le_of_ble_eq_true rfl) ?_
  intro F Z hl hR hD hcy hnw hnm
  subst hl hD hcy hnw
  have hRf : F.R.frames = 2 := by rw [hR]
  have hRc : F.R.cells = 0 := by rw [hR]
  have hRs : F.R.slots = 0 := by rw [hR]
  have hRl : F.R.locals = 45 := by rw [hR]
  have in6 : ∀ w ∈ u_ws RX7 TX7 16, w ∈ wsX7_has := by decide +kernel
  have ct74 : Cond.constant RX7 74 (65535) ∈ wsX7_has := by decide +kernel
  have hb := loI_lt v
  refine g_iload_n Z dX7_has_0 rfl ?_
  refine g_csI Z (c_X7_isSet F.l F.D F.cy F.nw _ _) 1 gX7_has_X7_isSet rfl (by decide +kernel) (by rw [hRf, hRl]; decide) rfl rfl (Nat.le_of_ble_eq_true rfl) dX7_has_1 (by rw [hRc, hRs]; omega) (fun r T hp => ?_)
  obtain ⟨rfl, his⟩ := hp
  refine g_if_ne Z 10 dX7_has_4 (by decide) (fun h4 => ?_) (fun h4 => ?_)
  · obtain ⟨s, hs, rfl⟩ := his.is h4
    have hs : s < 8 := by omega
    have hMs := hM s hs
    have hn6 := hMs.1
    refine g_aload_n Z dX7_has_10 rfl ?_
    refine g_iload_n Z dX7_has_11 rfl ?_
    refine g_iload_n Z dX7_has_12 rfl ?_
    refine g_bipush (v := 16) Z dX7_has_13 (by decide) ?_
    refine g_iushr Z dX7_has_15 ?_
    rw [kyI_eq]
    refine g_cvI Z (f_X7_containerOf F.l F.D F.cy F.nw A x ho _ _ s (by omega) (V s) hMs (fun i h => ((hV s hs).2.2 i h).1) (kyI v) (kyI_lt v)) 2 gX7_has_X7_containerOf rfl (by decide +kernel) (by rw [hRf, hRl]; decide) (by exact mP_x) (κ := 6) (by exact mP_Kx) rfl (by decide) rfl rfl (Nat.le_of_ble_eq_true rfl) dX7_has_16 (by rw [hRc, hRs]; omega) (fun r T1 hp => ?_)
    obtain ⟨rfl, hr⟩ := hp
    refine g_istore_n Z dX7_has_19 (by decide) ?_
    refine g_iload_n Z dX7_has_20 rfl ?_
    refine g_iconst (v := (-1)) Z dX7_has_21 (by decide) ?_
    refine g_icmp_eq Z 41 dX7_has_22 (by decide) (fun h22 => ?_) (fun h22 => ?_)
    · have e0 : HasV (V s) v 0 := by
        rcases hr with ⟨-, e⟩ | ⟨j, hj, -, e⟩
        · exact Or.inr ⟨e, rfl⟩
        · exact absurd (e.symm.trans h22) (fun q => by have := congrArg Int32.toInt q; rw [nI_toInt (by omega), show (-1 : Int32).toInt = -1 from rfl] at this; omega)
      refine g_iconst (v := 0) Z dX7_has_41 (by decide) ?_
      exact g_iret Z dX7_has_42 (by omega) (by omega) ⟨rfl, Or.inl ⟨s, hs, rfl, e0⟩⟩
    · obtain ⟨j, hj, hkj, rfl⟩ : ∃ j, j < (V s).1 ∧ ((V s).2 j).1 = kyI v ∧ r = nI (6 * s + j) := by rcases hr with e | e; exact absurd e.1 h22; exact e
      refine g_aload_n Z dX7_has_25 rfl ?_
      refine g_iload_n Z dX7_has_26 rfl ?_
      refine g_iload_n Z dX7_has_27 rfl ?_
      refine g_ldc (v := 65535) Z dX7_has_28 ct74 ?_
      refine g_iand Z dX7_has_30 ?_
      rw [loI_eq]
      refine g_cvI Z (c_X7_hasLow F.l F.D F.cy F.nw A x ho _ _ _ _ (by omega) hb) 2 gX7_has_X7_hasLow rfl (by decide +kernel) (by rw [hRf, hRl]; decide) (by exact mP_x) (κ := 6) (by exact mP_Kx) rfl (by decide) rfl rfl (Nat.le_of_ble_eq_true rfl) dX7_has_31 (by rw [hRc, hRs]; omega) (fun r2 T2 hp => ?_)
      obtain ⟨rfl, er2⟩ := hp
      rw [(hMs.2.2 j hj).2.2.2 _ hb] at er2
      refine g_if_eq Z 41 dX7_has_34 (by decide) (fun h34 => ?_) (fun h34 => ?_)
      · have e0 : HasV (V s) v 0 := Or.inl ⟨j, hj, hkj, by rw [← er2]; exact h34.symm⟩
        refine g_iconst (v := 0) Z dX7_has_41 (by decide) ?_
        exact g_iret Z dX7_has_42 (by omega) (by omega) ⟨rfl, Or.inl ⟨s, hs, rfl, e0⟩⟩
      · have e1 : HasV (V s) v 1 := Or.inl ⟨j, hj, hkj, by rw [er2] at h34; exact (cb_1 h34).symm⟩
        refine g_iconst (v := 1) Z dX7_has_37 (by decide) ?_
        refine g_goto Z 42 dX7_has_38 (by decide) ?_
        exact g_iret Z dX7_has_42 (by omega) (by omega) ⟨rfl, Or.inl ⟨s, hs, rfl, e1⟩⟩
  · have hno := his.f' h4
    refine g_bipush (v := (-2)) Z dX7_has_7 (by decide) ?_
    exact g_iret Z dX7_has_9 (by omega) (by omega) ⟨rfl, Or.inr ⟨hno, rfl⟩⟩
