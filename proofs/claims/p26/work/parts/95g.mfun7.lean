/-! WRITING, BY THE REFERENCE: which bytes -/
def Wy (R Q : MR) (Y : List Nat) : Prop := Q.wk = R.wk ∧ Q.si = R.si ∧ Q.fa = R.fa ∧ Q.ou = nI Y.length ∧ ∀ i, i < Y.length → Y.getD i 0 < 256 ∧ Q.bt i = nI (Y.getD i 0)
theorem sh8 : ∀ k, k < 4 → (((8 * nI k).toUInt32 &&& Int32.toUInt32 31).toBitVec % 32).toNat = 8 * k := by decide +kernel
theorem put_by {v k : Nat} (hk : k < 4) : ((nI v).toUInt32 >>> ((8 * nI k).toUInt32 &&& Int32.toUInt32 31)).toInt32 &&& 255 = nI (bys v k) := by
  have e : nI v = nI (v % 2 ^ 32) := by
    apply Int32.toBitVec_inj.mp
    show BitVec.ofNat 32 v = BitVec.ofNat 32 (v % 2 ^ 32)
    apply BitVec.eq_of_toNat_eq
    rw [BitVec.toNat_ofNat, BitVec.toNat_ofNat]
    omega
  rw [e, pk_ushrN (n := v % 2 ^ 32) (Nat.mod_lt _ (by decide)) (8 * nI k) (8 * k) (sh8 k hk)]
  rw [pk_andN (n := v % 2 ^ 32 / 2 ^ (8 * k)) (Nat.lt_of_le_of_lt (Nat.div_le_self _ _) (Nat.mod_lt _ (by decide))) 8 (by decide)]
  unfold bys
  congr 1
  rcases (show k = 0 ∨ k = 1 ∨ k = 2 ∨ k = 3 by omega) with rfl | rfl | rfl | rfl <;> omega
theorem byL_s (v k : Nat) : byL v (k + 1) = byL v k ++ [bys v k] := by
  unfold byL
  rw [List.range_succ, List.map_append]
  rfl
theorem Wy.put {R Q : MR} {Y : List Nat} {b : Nat} (h : Wy R Q Y) (hb : b < 256) (hl : Y.length < 60000) : Wy R ((Q.s_bt (upd Q.bt Y.length (nI b))).s_ou (nI (Y.length + 1))) (Y ++ [b]) := by
  obtain ⟨h1, h2, h3, h4, h5⟩ := h
  refine ⟨h1, h2, h3, by rw [List.length_append]; rfl, fun i hi => ?_⟩
  rw [List.length_append] at hi
  have hi2 : i < Y.length + 1 := hi
  show (Y ++ [b]).getD i 0 < 256 ∧ upd Q.bt Y.length (nI b) i = _
  by_cases e : i = Y.length
  · subst e
    have e2 : (Y ++ [b]).getD Y.length 0 = b := by
      rw [List.getD_eq_getElem?_getD, List.getElem?_append_right (Nat.le_refl _), Nat.sub_self]
      rfl
    rw [e2, pk_us]
    exact ⟨hb, rfl⟩
  · have e2 : (Y ++ [b]).getD i 0 = Y.getD i 0 := by
      rw [List.getD_eq_getElem?_getD, List.getD_eq_getElem?_getD, List.getElem?_append_left (by omega)]
    rw [e2, pk_un e]
    exact h5 i (by omega)
theorem byL_48 (v : Nat) : byL v 8 = byL v 4 ++ byL (v / 2 ^ 32) 4 := by
  have h : ∀ k, bys (v / 2 ^ 32) k = bys v (4 + k) := by
    intro k
    unfold bys
    rw [Nat.div_div_eq_div_mul, ← Nat.pow_add, show 32 + 8 * k = 8 * (4 + k) by omega]
  rw [byL_s, byL_s, byL_s, byL_s, byL_s (v / 2 ^ 32) 3, byL_s (v / 2 ^ 32) 2, byL_s (v / 2 ^ 32) 1, byL_s (v / 2 ^ 32) 0, h, h, h, h]
  show _ = byL v 4 ++ ([] ++ _ ++ _ ++ _ ++ _)
  simp only [List.append_assoc, List.nil_append]

set_option maxRecDepth 100000 in
set_option maxHeartbeats 2000000 in
/-- bytes are put -/
theorem f_X7_put (l : Launch) (D : va_G) (cy : Nat → ClassId) (nw : Nat) (A : Nat → Nat) (x : Nat) (ho : mOk A x) (C : C5) (R : MR) (R0 : MR) (Y : List Nat) (hY : Wy R0 R Y) (v n0 : Nat) (hn4 : n0 ≤ 4) (hon : Y.length + n0 ≤ 60000) : kV l yX7_put wsX7_put 0 0 D cy nw [.ref x, .int (nI v), .int (nI n0)] (mP A x (C, R)) (fun T => ∃ Q, mP A x (C, Q) = T ∧ Wy R0 Q (Y ++ byL v n0)) 0 0 := by
  refine enterV (cc := cX7_put) (nL := 4) (ret := none) (by decide +kernel) rfl (Nat.le_of_ble_eq_true rfl) ?_
  intro F Z hl hR hD hcy hnw hnm
  subst hl hD hcy hnw
  have hRf : F.R.frames = 0 := by rw [hR]
  have hRc : F.R.cells = 0 := by rw [hR]
  have hRs : F.R.slots = 0 := by rw [hR]
  have hRl : F.R.locals = 0 := by rw [hR]
  have in6 : ∀ w ∈ u_ws RX7 TX7 16, w ∈ wsX7_put := by decide +kernel
  have lk32 : Cond.fieldLink RX7 32 (TX7 7).1 (TX7 7).2.1 (TX7 7).2.2.1 ∈ wsX7_put := by decide +kernel
  have lk153 : Cond.fieldLink RX7 153 (TX7 8).1 (TX7 8).2.1 (TX7 8).2.2.1 ∈ wsX7_put := by decide +kernel
  have loop : ∀ (n : Nat) (k : Nat) (W : MR), n0 - k < n → (k ≤ n0 ∧ Wy R0 W (Y ++ byL v k)) → G F 4 (mP A x (C, W)) 0 0 (QV F (fun T => ∃ Q, mP A x (C, Q) = T ∧ Wy R0 Q (Y ++ byL v n0)) 0 0) 2 [(0, .ref x), (1, .int (nI v)), (2, .int (nI n0)), (3, .int (nI k))] [] := by
    intro n
    induction n with
    | zero => intros; omega
    | succ n ih =>
      intro k W hn ⟨hk, hW⟩
      have hlen : (Y ++ byL v k).length = Y.length + k := by rw [List.length_append, byL_len]
      obtain ⟨w1, w2, w3, w4, w5⟩ := id hW
      refine g_iload_n Z dX7_put_2 rfl ?_
      refine g_iload_n Z dX7_put_3 rfl ?_
      refine g_icmp_ge Z 42 dX7_put_4 (by decide) (fun h4 => ?_) (fun h4 => ?_)
      · have he : k = n0 := by have := ge_t (i := k) (N := n0) (by omega) (by omega) h4; omega
        subst he
        exact g_vret Z dX7_put_42 (by omega) (by omega) (⟨W, rfl, hW⟩)
      · have hlt : k < n0 := ge_f (by omega) (by omega) h4
        have hst := hW.put (b := bys v k) (bys_lt _ _) (by omega)
        rw [List.append_assoc, ← byL_s] at hst
        refine g_aload_n Z dX7_put_7 rfl ?_
        refine m_ref_bt Z in6 lk32 dX7_put_8 ?_
        refine g_aload_n Z dX7_put_11 rfl ?_
        refine m_get_ou Z in6 lk153 dX7_put_12 ?_
        rw [w4]
        refine g_iload_n Z dX7_put_15 rfl ?_
        refine g_bipush (v := 8) Z dX7_put_16 (by decide) ?_
        refine g_iload_n Z dX7_put_18 rfl ?_
        refine g_imul Z dX7_put_19 ?_
        refine g_iushr Z dX7_put_20 ?_
        refine g_sipush (v := 255) Z dX7_put_21 (by decide) ?_
        refine g_iand Z dX7_put_24 ?_
        rw [put_by (by omega)]
        refine m_ast_bt Z ho dX7_put_25 (by exact vp_in_nI (by omega) (by decide)) ?_
        rw [nI_clamp (by omega)]
        refine g_aload_n Z dX7_put_26 rfl ?_
        refine g_dup Z dX7_put_27 rfl ?_
        refine m_get_ou Z in6 lk153 dX7_put_28 ?_
        rw [show MR.ou (W.s_bt (upd W.bt (Y ++ byL v k).length (nI (bys v k)))) = nI (Y ++ byL v k).length from w4]
        refine g_iconst (v := 1) Z dX7_put_31 (by decide) ?_
        refine g_iadd Z dX7_put_32 ?_
        rw [nI_1]
        refine m_put_ou Z in6 lk153 dX7_put_33 ?_
        refine g_iinc (c := 1) Z dX7_put_36 rfl (by decide) (by decide) ?_
        rw [nI_1]
        refine g_goto Z 2 dX7_put_39 (by decide) ?_
        exact g_lv (by (repeat (first | exact trivial | refine And.intro rfl ?_)); done) (ih (k + 1) _ (by omega) ⟨by omega, hst⟩)
  refine g_iconst (v := 0) Z dX7_put_0 (by decide) ?_
  refine g_istore_n Z dX7_put_1 (by decide) ?_
  exact g_lv (by (repeat (first | exact trivial | refine And.intro rfl ?_)); done) (loop (n0 + 1) 0 R (by omega) ⟨by omega, by show Wy R0 R (Y ++ []); rw [List.append_nil]; exact hY⟩)

theorem wsh32 {v : Nat} (hv : v < 2 ^ 64) : ((lN v).toUInt64 >>> ((32 : Int32).toInt64.toUInt64 &&& Int64.toUInt64 63)).toInt64 = lN (v / 2 ^ 32) := lsr_n hv 32 (by decide)

set_option maxRecDepth 100000 in
set_option maxHeartbeats 2000000 in
/-- a container is written -/
theorem f_X7_writeOne (l : Launch) (D : va_G) (cy : Nat → ClassId) (nw : Nat) (A : Nat → Nat) (x : Nat) (ho : mOk A x) (C : C5) (R : MR) (R0 : MR) (Y : List Nat) (hY : Wy R0 R Y) (c : Nat) (hc : c < 102) (a : Cn) (hmc : Mc C c a) (hk3 : a.2.1 = 0 ∨ a.2.1 = 1 ∨ a.2.1 = 2) (hol : Y.length + boN a ≤ 60000) : kV l yX7_writeOne wsX7_writeOne 2 50 D cy nw [.ref x, .int (nI c)] (mP A x (C, R)) (fun T => ∃ Q, mP A x (C, Q) = T ∧ Wy R0 Q (Y ++ boL a)) 0 0 := by
  refine enterV (cc := cX7_writeOne) (nL := 4) (ret := none) (by decide +kernel) rfl (Nat.le_of_ble_eq_true rfl) ?_
  intro F Z hl hR hD hcy hnw hnm
  subst hl hD hcy hnw
  have hRf : F.R.frames = 2 := by rw [hR]
  have hRc : F.R.cells = 0 := by rw [hR]
  have hRs : F.R.slots = 0 := by rw [hR]
  have hRl : F.R.locals = 50 := by rw [hR]
  have in6 : ∀ w ∈ u_ws RX7 TX7 16, w ∈ wsX7_writeOne := by decide +kernel
  have lk16 : Cond.fieldLink RX7 16 (TX7 2).1 (TX7 2).2.1 (TX7 2).2.2.1 ∈ wsX7_writeOne := by decide +kernel
  have lk23 : Cond.fieldLink RX7 23 (TX7 4).1 (TX7 4).2.1 (TX7 4).2.2.1 ∈ wsX7_writeOne := by decide +kernel
  have ct107 : Cond.constant RX7 107 (65536) ∈ wsX7_writeOne := by decide +kernel
  obtain ⟨hmk, hmd, hms, hmb⟩ := id hmc
  have bm : ∀ (n : Nat), a.2.1 = 1 → ∀ (k : Nat) (W : MR), 1024 - k < n → (k ≤ 1024 ∧ Wy R0 W (Y ++ bmP a.2.2 k)) → G F 4 (mP A x (C, W)) 0 0 (QV F (fun T => ∃ Q, mP A x (C, Q) = T ∧ Wy R0 Q (Y ++ boL a)) 0 0) 12 [(0, .ref x), (1, .int (nI c)), (2, .int (nI k))] [] := by
    intro n hk1
    have e1 : boN a = 8192 := (if_neg (by rw [hk1]; decide)).trans (if_pos hk1)
    have e2 : boL a = bmP a.2.2 1024 := by unfold boL bmL; rw [if_neg (by rw [hk1]; decide), if_pos hk1, N10_eq]
    induction n with
    | zero => intros; omega
    | succ n ih =>
      intro k W hn ⟨hk, hW⟩
      have hl : (Y ++ bmP a.2.2 k).length = Y.length + 8 * k := by rw [List.length_append, bmP_len]
      refine g_iload_n Z dX7_writeOne_12 rfl ?_
      refine g_sipush (v := 1024) Z dX7_writeOne_13 (by decide) ?_
      refine g_icmp_ge Z 64 dX7_writeOne_16 (by decide) (fun h16 => ?_) (fun h16 => ?_)
      · have he : k = 1024 := by have := ge_t (N := 1024) (by omega) (by decide) h16; omega
        subst he
        rw [← e2] at hW
        exact g_vret Z dX7_writeOne_64 (by omega) (by omega) (⟨W, rfl, hW⟩)
      · have hlt : k < 1024 := ge_f (by omega) (by decide) h16
        refine g_aload_n Z dX7_writeOne_19 rfl ?_
        refine g_aload_n Z dX7_writeOne_20 rfl ?_
        refine m_ref_wd Z in6 lk23 dX7_writeOne_21 ?_
        refine g_sipush (v := 1024) Z dX7_writeOne_24 (by decide) ?_
        refine g_iload_n Z dX7_writeOne_27 rfl ?_
        refine g_imul Z dX7_writeOne_28 ?_
        refine g_iload_n Z dX7_writeOne_29 rfl ?_
        refine g_iadd Z dX7_writeOne_30 ?_
        rw [ixw]
        refine m_ald_wd Z ho dX7_writeOne_31 (by exact vp_in_nI (by omega) (by decide)) ?_
        rw [nI_clamp (by omega), hmc.w hlt, lN_wvx (a.2.2 k)]
        refine g_l2i Z dX7_writeOne_32 ?_
        rw [lN_i]
        refine g_iconst (v := 4) Z dX7_writeOne_33 (by decide) ?_
        refine g_cvV Z (f_X7_put F.l F.D F.cy F.nw A x ho C _ R0 (Y ++ bmP a.2.2 k) hW (wv (a.2.2 k)) 4 (by decide) (by omega)) 2 gX7_writeOne_X7_put rfl (by decide +kernel) (by rw [hRf, hRl]; decide) (by exact mP_x) (κ := 6) (by exact mP_Kx) rfl (by decide) rfl rfl (Nat.le_of_ble_eq_true rfl) dX7_writeOne_34 (by rw [hRc, hRs]; omega) (fun T hp => ?_)
        obtain ⟨W2, rfl, hq⟩ := hp
        refine g_aload_n Z dX7_writeOne_37 rfl ?_
        refine g_aload_n Z dX7_writeOne_38 rfl ?_
        refine m_ref_wd Z in6 lk23 dX7_writeOne_39 ?_
        refine g_sipush (v := 1024) Z dX7_writeOne_42 (by decide) ?_
        refine g_iload_n Z dX7_writeOne_45 rfl ?_
        refine g_imul Z dX7_writeOne_46 ?_
        refine g_iload_n Z dX7_writeOne_47 rfl ?_
        refine g_iadd Z dX7_writeOne_48 ?_
        rw [ixw]
        refine m_ald_wd Z ho dX7_writeOne_49 (by exact vp_in_nI (by omega) (by decide)) ?_
        rw [nI_clamp (by omega), hmc.w hlt, lN_wvx (a.2.2 k)]
        refine g_bipush (v := 32) Z dX7_writeOne_50 (by decide) ?_
        refine g_lushr Z dX7_writeOne_52 ?_
        rw [wsh32 (wv_lt (a.2.2 k))]
        refine g_l2i Z dX7_writeOne_53 ?_
        rw [lN_i]
        refine g_iconst (v := 4) Z dX7_writeOne_54 (by decide) ?_
        refine g_cvV Z (f_X7_put F.l F.D F.cy F.nw A x ho C _ R0 (Y ++ bmP a.2.2 k ++ byL (wv (a.2.2 k)) 4) hq (wv (a.2.2 k) / 2 ^ 32) 4 (by decide) (by rw [List.length_append, byL_len]; omega)) 2 gX7_writeOne_X7_put rfl (by decide +kernel) (by rw [hRf, hRl]; decide) (by exact mP_x) (κ := 6) (by exact mP_Kx) rfl (by decide) rfl rfl (Nat.le_of_ble_eq_true rfl) dX7_writeOne_55 (by rw [hRc, hRs]; omega) (fun T hp => ?_)
        obtain ⟨W3, rfl, hq2⟩ := hp
        rw [List.append_assoc, List.append_assoc, ← byL_48] at hq2
        refine g_iinc (c := 1) Z dX7_writeOne_58 rfl (by decide) (by decide) ?_
        rw [nI_1]
        refine g_goto Z 12 dX7_writeOne_61 (by decide) ?_
        exact g_lv (by (repeat (first | exact trivial | refine And.intro rfl ?_)); done) (ih (k + 1) W3 (by omega) ⟨by omega, hq2⟩)
  have ar : ∀ (n : Nat), a.2.1 = 0 → ∀ (k : Nat) (W : MR), 65536 - k < n → (k ≤ 65536 ∧ Wy R0 W (Y ++ arP a.2.2 k)) → G F 4 (mP A x (C, W)) 0 0 (QV F (fun T => ∃ Q, mP A x (C, Q) = T ∧ Wy R0 Q (Y ++ boL a)) 0 0) 87 [(0, .ref x), (1, .int (nI c)), (2, .int (nI k))] [] := by
    intro n hk0
    have e1 : boN a = 2 * tot a.2.2 := if_pos hk0
    have e2 : boL a = arP a.2.2 65536 := by unfold boL arL; rw [if_pos hk0, N16_eq]
    rw [tot_ct] at e1
    induction n with
    | zero => intros; omega
    | succ n ih =>
      intro k W hn ⟨hk, hW⟩
      have hs : ct a.2.2 0 (k + 1) = ct a.2.2 0 k + cb a.2.2 0 k := rfl
      have hl : (Y ++ arP a.2.2 k).length = Y.length + 2 * ct a.2.2 0 k := by rw [List.length_append, arP_len]
      refine g_iload_n Z dX7_writeOne_87 rfl ?_
      refine g_ldc (v := 65536) Z dX7_writeOne_88 ct107 ?_
      refine g_icmp_ge Z 171 dX7_writeOne_90 (by decide) (fun h90 => ?_) (fun h90 => ?_)
      · have he : k = 65536 := by have := ge_t (i := k) (N := 65536) (by omega) (by decide) h90; omega
        rw [he, ← e2] at hW
        exact g_vret Z dX7_writeOne_171 (by omega) (by omega) (⟨W, rfl, hW⟩)
      · have hlt : k < 65536 := ge_f (N := 65536) (by omega) (by decide) h90
        have hmo := ct_mono' a.2.2 0 (show k + 1 ≤ 65536 by omega)
        have hbt := hmb k hlt
        refine g_aload_n Z dX7_writeOne_93 rfl ?_
        refine g_iload_n Z dX7_writeOne_94 rfl ?_
        refine g_iload_n Z dX7_writeOne_95 rfl ?_
        refine g_cvI Z (c_X7_hasLow F.l F.D F.cy F.nw A x ho _ _ _ _ (by omega) (by omega)) 2 gX7_writeOne_X7_hasLow rfl (by decide +kernel) (by rw [hRf, hRl]; decide) (by exact mP_x) (κ := 6) (by exact mP_Kx) rfl (by decide) rfl rfl (Nat.le_of_ble_eq_true rfl) dX7_writeOne_96 (by rw [hRc, hRs]; omega) (fun r T hp => ?_)
        obtain ⟨rfl, rfl⟩ := hp
        refine g_if_ne Z 108 dX7_writeOne_99 (by decide) (fun h99 => ?_) (fun h99 => ?_)
        · have e3 := hbt.symm.trans (cb1 h99)
          have e4 := arP_hit e3
          refine g_aload_n Z dX7_writeOne_108 rfl ?_
          refine m_ref_kd Z in6 lk16 dX7_writeOne_109 ?_
          refine g_iload_n Z dX7_writeOne_112 rfl ?_
          refine m_ald_kd Z ho dX7_writeOne_113 (by exact vp_in_nI (by omega) (by decide)) ?_
          rw [nI_clamp (by omega)]
          refine g_if_ne Z 129 dX7_writeOne_114 (by decide) (fun h114 => absurd (hmd.trans hk0) h114) (fun h114 => ?_)
          refine g_aload_n Z dX7_writeOne_117 rfl ?_
          refine g_iload_n Z dX7_writeOne_118 rfl ?_
          refine g_iconst (v := 2) Z dX7_writeOne_119 (by decide) ?_
          refine g_cvV Z (f_X7_put F.l F.D F.cy F.nw A x ho C _ R0 (Y ++ arP a.2.2 k) hW k 2 (by decide) (by omega)) 2 gX7_writeOne_X7_put rfl (by decide +kernel) (by rw [hRf, hRl]; decide) (by exact mP_x) (κ := 6) (by exact mP_Kx) rfl (by decide) rfl rfl (Nat.le_of_ble_eq_true rfl) dX7_writeOne_120 (by rw [hRc, hRs]; omega) (fun T hp => ?_)
          obtain ⟨W2, rfl, hq⟩ := hp
          refine g_iinc (c := 1) Z dX7_writeOne_123 rfl (by decide) (by decide) ?_
          rw [nI_1]
          refine g_goto Z 87 dX7_writeOne_126 (by decide) ?_
          exact g_lv (by (repeat (first | exact trivial | refine And.intro rfl ?_)); done) (ih (k + 1) W2 (by omega) ⟨by omega, by rw [e4, ← List.append_assoc]; exact hq⟩)
        · have e3 := hbt.symm.trans (cb0 h99)
          have e4 := arP_miss (W := a.2.2) (l := k) (by omega)
          refine g_iinc (c := 1) Z dX7_writeOne_102 rfl (by decide) (by decide) ?_
          rw [nI_1]
          refine g_goto Z 87 dX7_writeOne_105 (by decide) ?_
          exact g_lv (by (repeat (first | exact trivial | refine And.intro rfl ?_)); done) (ih (k + 1) W (by omega) ⟨by omega, by rw [e4]; exact hW⟩)
  have rns : ∀ (n : Nat), ¬ a.2.1 = 0 → Y.length + 2 + 4 * rn a.2.2 0 65536 ≤ 60000 → boL a = byL (rnT a.2.2) 2 ++ rnP a.2.2 65536 → ∀ (k : Nat) (W : MR), 65536 - k < n → (k ≤ 65536 ∧ Wy R0 W (Y ++ byL (rnT a.2.2) 2 ++ rnP a.2.2 k) ∧ (rnP a.2.2 k).length = 4 * rn a.2.2 0 k ∧ (k < 65536 → cb a.2.2 0 k = 1 → k = 0 ∨ ¬ cb a.2.2 0 (k - 1) = 1)) → G F 4 (mP A x (C, W)) 0 0 (QV F (fun T => ∃ Q, mP A x (C, Q) = T ∧ Wy R0 Q (Y ++ boL a)) 0 0) 87 [(0, .ref x), (1, .int (nI c)), (2, .int (nI k))] [] := by
    intro n hk0 hob hbo
    induction n with
    | zero => intros; omega
    | succ n ih =>
      intro k W hn ⟨hk, hW, hrl, hpv⟩
      have hl : (Y ++ byL (rnT a.2.2) 2 ++ rnP a.2.2 k).length = Y.length + 2 + 4 * rn a.2.2 0 k := by rw [List.length_append, List.length_append, byL_len, hrl]
      have j152 : ∀ (q : Nat), k < q → q ≤ 65536 → (∀ l, k ≤ l → l < q → cb a.2.2 0 l = 1) → (k = 0 ∨ ¬ cb a.2.2 0 (k - 1) = 1) → (q < 65536 → cb a.2.2 0 q = 0) → G F 4 (mP A x (C, W)) 0 0 (QV F (fun T => ∃ Q, mP A x (C, Q) = T ∧ Wy R0 Q (Y ++ boL a)) 0 0) 152 [(0, .ref x), (1, .int (nI c)), (2, .int (nI q)), (3, .int (nI k))] [] := by
        intro q hkq hq hbits hz hcq
        obtain ⟨r1, r2⟩ := rnP_run hz hkq hq hbits (fun z => by rw [hcq z]; decide)
        have hmo := rn_mono' a.2.2 0 hq
        have hrl2 : (rnP a.2.2 q).length = 4 * rn a.2.2 0 q := by rw [r1, List.length_append, List.length_append, byL_len, byL_len, hrl, r2]; omega
        refine g_aload_n Z dX7_writeOne_152 rfl ?_
        refine g_iload_n Z dX7_writeOne_153 rfl ?_
        refine g_iconst (v := 2) Z dX7_writeOne_154 (by decide) ?_
        refine g_cvV Z (f_X7_put F.l F.D F.cy F.nw A x ho C _ R0 (Y ++ byL (rnT a.2.2) 2 ++ rnP a.2.2 k) hW k 2 (by decide) (by omega)) 2 gX7_writeOne_X7_put rfl (by decide +kernel) (by rw [hRf, hRl]; decide) (by exact mP_x) (κ := 6) (by exact mP_Kx) rfl (by decide) rfl rfl (Nat.le_of_ble_eq_true rfl) dX7_writeOne_155 (by rw [hRc, hRs]; omega) (fun T hp => ?_)
        obtain ⟨W2, rfl, hq2⟩ := hp
        refine g_aload_n Z dX7_writeOne_158 rfl ?_
        refine g_iload_n Z dX7_writeOne_159 rfl ?_
        refine g_iconst (v := 1) Z dX7_writeOne_160 (by decide) ?_
        refine g_isub Z dX7_writeOne_161 ?_
        rw [show nI q - 1 = nI (q - 1) from nI_sb (b := 1) (by omega)]
        refine g_iload_n Z dX7_writeOne_162 rfl ?_
        refine g_isub Z dX7_writeOne_163 ?_
        rw [show nI (q - 1) - nI k = nI (q - k - 1) from (nI_sb (by omega)).trans (congrArg nI (by omega))]
        refine g_iconst (v := 2) Z dX7_writeOne_164 (by decide) ?_
        refine g_cvV Z (f_X7_put F.l F.D F.cy F.nw A x ho C _ R0 (Y ++ byL (rnT a.2.2) 2 ++ rnP a.2.2 k ++ byL k 2) hq2 (q - k - 1) 2 (by decide) (by rw [List.length_append, byL_len]; omega)) 2 gX7_writeOne_X7_put rfl (by decide +kernel) (by rw [hRf, hRl]; decide) (by exact mP_x) (κ := 6) (by exact mP_Kx) rfl (by decide) rfl rfl (Nat.le_of_ble_eq_true rfl) dX7_writeOne_165 (by rw [hRc, hRs]; omega) (fun T hp => ?_)
        obtain ⟨W3, rfl, hq3⟩ := hp
        rw [List.append_assoc, List.append_assoc (Y ++ byL (rnT a.2.2) 2), ← r1] at hq3
        refine g_goto Z 87 dX7_writeOne_168 (by decide) ?_
        exact g_lv (by (repeat (first | exact trivial | refine And.intro rfl ?_)); done) (ih q W3 (by omega) ⟨hq, hq3, hrl2, fun z1 z2 => absurd z2 (by rw [hcq z1]; decide)⟩)
      have inn : ∀ (i q : Nat), 65536 - q < i → k < 65536 → cb a.2.2 0 k = 1 → (k = 0 ∨ ¬ cb a.2.2 0 (k - 1) = 1) → k ≤ q → (∀ l, k ≤ l → l < q → cb a.2.2 0 l = 1) → q ≤ 65536 → G F 4 (mP A x (C, W)) 0 0 (QV F (fun T => ∃ Q, mP A x (C, Q) = T ∧ Wy R0 Q (Y ++ boL a)) 0 0) 131 [(0, .ref x), (1, .int (nI c)), (2, .int (nI q)), (3, .int (nI k))] [] := by
        intro i
        induction i with
        | zero => intros; omega
        | succ i ih2 =>
          intro q hi hk6 hck hz hkq hbits hq
          refine g_iload_n Z dX7_writeOne_131 rfl ?_
          refine g_ldc (v := 65536) Z dX7_writeOne_132 ct107 ?_
          refine g_icmp_ge Z 152 dX7_writeOne_134 (by decide) (fun h134 => ?_) (fun h134 => ?_)
          · have hq6 : q = 65536 := by have := ge_t (i := q) (N := 65536) (by omega) (by decide) h134; omega
            have e3 : q < 65536 → cb a.2.2 0 q = 0 := fun z => by omega
            have hkq2 : k < q := by omega
            exact g_lv (by (repeat (first | exact trivial | refine And.intro rfl ?_)); done) (j152 q hkq2 hq hbits hz e3)
          · have hq6 : q < 65536 := ge_f (N := 65536) (by omega) (by decide) h134
            have hbt := hmb q hq6
            refine g_aload_n Z dX7_writeOne_137 rfl ?_
            refine g_iload_n Z dX7_writeOne_138 rfl ?_
            refine g_iload_n Z dX7_writeOne_139 rfl ?_
            refine g_cvI Z (c_X7_hasLow F.l F.D F.cy F.nw A x ho _ _ _ _ (by omega) (by omega)) 2 gX7_writeOne_X7_hasLow rfl (by decide +kernel) (by rw [hRf, hRl]; decide) (by exact mP_x) (κ := 6) (by exact mP_Kx) rfl (by decide) rfl rfl (Nat.le_of_ble_eq_true rfl) dX7_writeOne_140 (by rw [hRc, hRs]; omega) (fun r T hp => ?_)
            obtain ⟨rfl, rfl⟩ := hp
            refine g_if_eq Z 152 dX7_writeOne_143 (by decide) (fun h143 => ?_) (fun h143 => ?_)
            · have e4 := hbt.symm.trans (cb0 h143)
              have e3 : q < 65536 → cb a.2.2 0 q = 0 := fun _ => e4
              have hkq2 : k < q := Nat.lt_of_le_of_ne hkq (fun e => by rw [← e, hck] at e4; exact absurd e4 (by decide))
              exact g_lv (by (repeat (first | exact trivial | refine And.intro rfl ?_)); done) (j152 q hkq2 hq hbits hz e3)
            · have e4 := hbt.symm.trans (cb1 h143)
              refine g_iinc (c := 1) Z dX7_writeOne_146 rfl (by decide) (by decide) ?_
              rw [nI_1]
              refine g_goto Z 131 dX7_writeOne_149 (by decide) ?_
              exact g_lv (by (repeat (first | exact trivial | refine And.intro rfl ?_)); done) (ih2 (q + 1) (by omega) hk6 hck hz (by omega) (fun l h1 h2 => by
                by_cases e : l = q
                · rw [e]; exact e4
                · exact hbits l h1 (by omega)) (by omega))
      refine g_iload_n Z dX7_writeOne_87 rfl ?_
      refine g_ldc (v := 65536) Z dX7_writeOne_88 ct107 ?_
      refine g_icmp_ge Z 171 dX7_writeOne_90 (by decide) (fun h90 => ?_) (fun h90 => ?_)
      · have he : k = 65536 := by have := ge_t (i := k) (N := 65536) (by omega) (by decide) h90; omega
        rw [he, List.append_assoc, ← hbo] at hW
        exact g_vret Z dX7_writeOne_171 (by omega) (by omega) (⟨W, rfl, hW⟩)
      · have hlt : k < 65536 := ge_f (N := 65536) (by omega) (by decide) h90
        have hbt := hmb k hlt
        refine g_aload_n Z dX7_writeOne_93 rfl ?_
        refine g_iload_n Z dX7_writeOne_94 rfl ?_
        refine g_iload_n Z dX7_writeOne_95 rfl ?_
        refine g_cvI Z (c_X7_hasLow F.l F.D F.cy F.nw A x ho _ _ _ _ (by omega) (by omega)) 2 gX7_writeOne_X7_hasLow rfl (by decide +kernel) (by rw [hRf, hRl]; decide) (by exact mP_x) (κ := 6) (by exact mP_Kx) rfl (by decide) rfl rfl (Nat.le_of_ble_eq_true rfl) dX7_writeOne_96 (by rw [hRc, hRs]; omega) (fun r T hp => ?_)
        obtain ⟨rfl, rfl⟩ := hp
        refine g_if_ne Z 108 dX7_writeOne_99 (by decide) (fun h99 => ?_) (fun h99 => ?_)
        · have e3 := hbt.symm.trans (cb1 h99)
          refine g_aload_n Z dX7_writeOne_108 rfl ?_
          refine m_ref_kd Z in6 lk16 dX7_writeOne_109 ?_
          refine g_iload_n Z dX7_writeOne_112 rfl ?_
          refine m_ald_kd Z ho dX7_writeOne_113 (by exact vp_in_nI (by omega) (by decide)) ?_
          rw [nI_clamp (by omega)]
          refine g_if_ne Z 129 dX7_writeOne_114 (by decide) (fun h114 => ?_) (fun h114 => absurd h114 (fun q => hk0 (hmd.symm.trans q)))
          refine g_iload_n Z dX7_writeOne_129 rfl ?_
          refine g_istore_n Z dX7_writeOne_130 (by decide) ?_
          exact g_lv (by (repeat (first | exact trivial | refine And.intro rfl ?_)); done) (inn 65537 k (by omega) hlt e3 (hpv hlt e3) (Nat.le_refl _) (fun l h1 h2 => by omega) (by omega))
        · have e3 := hbt.symm.trans (cb0 h99)
          obtain ⟨e4, e5⟩ := rnP_out (W := a.2.2) (i := k) (k + 1) (by omega) (fun l h1 h2 => by rw [show l = k by omega, e3]; decide)
          refine g_iinc (c := 1) Z dX7_writeOne_102 rfl (by decide) (by decide) ?_
          rw [nI_1]
          refine g_goto Z 87 dX7_writeOne_105 (by decide) ?_
          exact g_lv (by (repeat (first | exact trivial | refine And.intro rfl ?_)); done) (ih (k + 1) W (by omega) ⟨by omega, by rw [e4]; exact hW, by rw [e4, e5]; exact hrl, fun _ _ => Or.inr (by rw [show k + 1 - 1 = k by omega, e3]; decide)⟩)
  refine g_aload_n Z dX7_writeOne_0 rfl ?_
  refine m_ref_kd Z in6 lk16 dX7_writeOne_1 ?_
  refine g_iload_n Z dX7_writeOne_4 rfl ?_
  refine m_ald_kd Z ho dX7_writeOne_5 (by exact vp_in_nI (by omega) (by decide)) ?_
  rw [nI_clamp (by omega)]
  refine g_iconst (v := 1) Z dX7_writeOne_6 (by decide) ?_
  refine g_icmp_ne Z 65 dX7_writeOne_7 (by decide) (fun h7 => ?_) (fun h7 => ?_)
  · refine g_aload_n Z dX7_writeOne_65 rfl ?_
    refine m_ref_kd Z in6 lk16 dX7_writeOne_66 ?_
    refine g_iload_n Z dX7_writeOne_69 rfl ?_
    refine m_ald_kd Z ho dX7_writeOne_70 (by exact vp_in_nI (by omega) (by decide)) ?_
    rw [nI_clamp (by omega)]
    refine g_iconst (v := 2) Z dX7_writeOne_71 (by decide) ?_
    refine g_icmp_ne Z 85 dX7_writeOne_72 (by decide) (fun h72 => ?_) (fun h72 => ?_)
    · have hk0 : a.2.1 = 0 := by
        rcases hk3 with e | e | e
        · exact e
        · exact absurd (hmd.trans e) h7
        · exact absurd (hmd.trans e) h72
      refine g_iconst (v := 0) Z dX7_writeOne_85 (by decide) ?_
      refine g_istore_n Z dX7_writeOne_86 (by decide) ?_
      exact g_lv (by (repeat (first | exact trivial | refine And.intro rfl ?_)); done) (ar 65537 hk0 0 R (by omega) ⟨by omega, by show Wy R0 R (Y ++ []); rw [List.append_nil]; exact hY⟩)
    · have hk2 : a.2.1 = 2 := hmd.symm.trans h72
      have e1 : boN a = 2 + 4 * rnT a.2.2 := (if_neg (by rw [hk2]; decide)).trans (if_neg (by rw [hk2]; decide))
      have e2 : boL a = byL (rnT a.2.2) 2 ++ rnP a.2.2 65536 := by unfold boL rnL; rw [if_neg (by rw [hk2]; decide), if_neg (by rw [hk2]; decide), N16_eq]
      have hrn : rn C.wd c 65536 = rnT a.2.2 := by rw [rnT_eq]; exact (rn_congr 65536 hmb).1
      refine g_aload_n Z dX7_writeOne_75 rfl ?_
      refine g_aload_n Z dX7_writeOne_76 rfl ?_
      refine g_iload_n Z dX7_writeOne_77 rfl ?_
      refine g_cvI Z (c_X7_runsOf F.l F.D F.cy F.nw A x ho _ _ _ hc) 1 gX7_writeOne_X7_runsOf rfl (by decide +kernel) (by rw [hRf, hRl]; decide) (by exact mP_x) (κ := 6) (by exact mP_Kx) rfl (by decide) rfl rfl (Nat.le_of_ble_eq_true rfl) dX7_writeOne_78 (by rw [hRc, hRs]; omega) (fun r1 T1 hp => ?_)
      obtain ⟨rfl, rfl⟩ := hp
      rw [hrn]
      refine g_iconst (v := 2) Z dX7_writeOne_81 (by decide) ?_
      refine g_cvV Z (f_X7_put F.l F.D F.cy F.nw A x ho C _ R0 Y hY (rnT a.2.2) 2 (by decide) (by omega)) 2 gX7_writeOne_X7_put rfl (by decide +kernel) (by rw [hRf, hRl]; decide) (by exact mP_x) (κ := 6) (by exact mP_Kx) rfl (by decide) rfl rfl (Nat.le_of_ble_eq_true rfl) dX7_writeOne_82 (by rw [hRc, hRs]; omega) (fun T hp => ?_)
      obtain ⟨W2, rfl, hq⟩ := hp
      refine g_iconst (v := 0) Z dX7_writeOne_85 (by decide) ?_
      refine g_istore_n Z dX7_writeOne_86 (by decide) ?_
      exact g_lv (by (repeat (first | exact trivial | refine And.intro rfl ?_)); done) (rns 65537 (by rw [hk2]; decide) (by rw [← rnT_eq]; omega) e2 0 W2 (by omega) ⟨by omega, by show Wy R0 W2 (Y ++ byL (rnT a.2.2) 2 ++ []); rw [List.append_nil]; exact hq, rfl, fun _ _ => Or.inl rfl⟩)
  · have hk1 : a.2.1 = 1 := hmd.symm.trans h7
    refine g_iconst (v := 0) Z dX7_writeOne_10 (by decide) ?_
    refine g_istore_n Z dX7_writeOne_11 (by decide) ?_
    exact g_lv (by (repeat (first | exact trivial | refine And.intro rfl ?_)); done) (bm 1025 hk1 0 R (by omega) ⟨by omega, by show Wy R0 R (Y ++ []); rw [List.append_nil]; exact hY⟩)
