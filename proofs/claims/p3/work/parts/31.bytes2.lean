set_option maxRecDepth 100000 in
set_option maxHeartbeats 2000000 in
/-- whether a byte lacks -/
theorem c_X0_lacks (l : Launch) (D : va_G) (cy : Nat → ClassId) (nw : Nat) (S : PS) (br h n u : Nat) (hb : BytesAt S br h n u) (x : Int32) : kI l yX0_lacks wsX0_lacks 0 0 D cy nw [.ref br, .int x] S (fun r T => S = T ∧ isIx u x r) 0 0 := by
  refine enterI (cc := cX0_lacks) (nL := 2) (ret := (some .boolean)) (by decide +kernel) rfl (Nat.le_of_ble_eq_true rfl) ?_
  intro F Z hl hR hD hcy hnw hnm
  subst hl hD hcy hnw
  have hRf : F.R.frames = 0 := by rw [hR]
  have hRc : F.R.cells = 0 := by rw [hR]
  have hRs : F.R.slots = 0 := by rw [hR]
  have hRl : F.R.locals = 0 := by rw [hR]
  have in0 : ∀ w ∈ u_ws RX0 TX0 2, w ∈ wsX0_lacks := by decide +kernel
  have lk15 : Cond.fieldLink RX0 15 (TX0 1).1 (TX0 1).2.1 (TX0 1).2.2.1 ∈ wsX0_lacks := by decide +kernel
  obtain ⟨hbL, hbK, hbh, hhL, hhK, hhl, hn2, hbu, hun, hfit⟩ := id hb
  refine g_iload_n Z dX0_lacks_0 rfl ?_
  refine g_if_lt Z 12 dX0_lacks_1 (by decide) (fun h1 => ?_) (fun h1 => ?_)
  · refine g_iconst (v := 1) Z dX0_lacks_12 (by decide) ?_
    refine g_goto Z 17 dX0_lacks_13 (by decide) ?_
    exact g_zret Z dX0_lacks_17 (by rfl) (by omega) (by omega) (by first | exact ⟨rfl, isIx_t0 h1⟩ | exact ⟨rfl, isIx_t (i_le_of_nlt h9)⟩ | exact ⟨rfl, isIx_f (by omega) h1 (i_nle_of_lt h9)⟩)
  · refine g_iload_n Z dX0_lacks_4 rfl ?_
    refine g_aload_n Z dX0_lacks_5 rfl ?_
    refine g_geti Z 0 1 rfl (by decide) in0 lk15 dX0_lacks_6 (by assumption) (by assumption) ?_
    rw [hbu]
    refine g_icmp_lt Z 16 dX0_lacks_9 (by decide) (fun h9 => ?_) (fun h9 => ?_)
    · refine g_iconst (v := 0) Z dX0_lacks_16 (by decide) ?_
      exact g_zret Z dX0_lacks_17 (by rfl) (by omega) (by omega) (by first | exact ⟨rfl, isIx_t0 h1⟩ | exact ⟨rfl, isIx_t (i_le_of_nlt h9)⟩ | exact ⟨rfl, isIx_f (by omega) h1 (i_nle_of_lt h9)⟩)
    · refine g_iconst (v := 1) Z dX0_lacks_12 (by decide) ?_
      refine g_goto Z 17 dX0_lacks_13 (by decide) ?_
      exact g_zret Z dX0_lacks_17 (by rfl) (by omega) (by omega) (by first | exact ⟨rfl, isIx_t0 h1⟩ | exact ⟨rfl, isIx_t (i_le_of_nlt h9)⟩ | exact ⟨rfl, isIx_f (by omega) h1 (i_nle_of_lt h9)⟩)

set_option maxRecDepth 100000 in
set_option maxHeartbeats 2000000 in
/-- a byte -/
theorem c_X0_byteAt (l : Launch) (D : va_G) (cy : Nat → ClassId) (nw : Nat) (S : PS) (br h n u : Nat) (hb : BytesAt S br h n u) (i : Nat) (hi : i < u) : kI l yX0_byteAt wsX0_byteAt 0 0 D cy nw [.ref br, .int (nI i)] S (fun r T => S = T ∧ ∃ b : Nat, b < 256 ∧ r = nI b) 0 0 := by
  refine enterI (cc := cX0_byteAt) (nL := 2) (ret := (some .int)) (by decide +kernel) rfl (Nat.le_of_ble_eq_true rfl) ?_
  intro F Z hl hR hD hcy hnw hnm
  subst hl hD hcy hnw
  have hRf : F.R.frames = 0 := by rw [hR]
  have hRc : F.R.cells = 0 := by rw [hR]
  have hRs : F.R.slots = 0 := by rw [hR]
  have hRl : F.R.locals = 0 := by rw [hR]
  have in0 : ∀ w ∈ u_ws RX0 TX0 2, w ∈ wsX0_byteAt := by decide +kernel
  have lk9 : Cond.fieldLink RX0 9 (TX0 0).1 (TX0 0).2.1 (TX0 0).2.2.1 ∈ wsX0_byteAt := by decide +kernel
  obtain ⟨hbL, hbK, hbh, hhL, hhK, hhl, hn2, hbu, hun, hfit⟩ := id hb
  refine g_aload_n Z dX0_byteAt_0 rfl ?_
  refine g_getr Z 0 0 rfl (by decide) in0 lk9 dX0_byteAt_1 (by assumption) (by assumption) (by assumption) ?_
  refine g_iload_n Z dX0_byteAt_4 rfl ?_
  refine g_bald Z dX0_byteAt_5 (by assumption) (by assumption) (by exact vin_of hhl (by omega) (by omega)) ?_
  refine g_sipush (v := 255) Z dX0_byteAt_6 (by decide) ?_
  refine g_iand Z dX0_byteAt_9 ?_
  obtain ⟨b, hb1, eb⟩ := i32_and_nn (S.ri h (nI i).toNatClampNeg)
  rw [eb]
  exact g_iret Z dX0_byteAt_10 (by omega) (by omega) (⟨rfl, b, hb1, rfl⟩)

theorem num_step {v b j : Nat} (hv : v < 2 ^ (8 * j)) (hb : b < 256) (hj : j < 8) : ∃ v', v' < 2 ^ (8 * (j + 1)) ∧ lN v ||| (nI b).toInt64 <<< ((8 * nI j).toInt64 &&& 63) = lN v' := by
  have h1 : (nI b).toInt64 = lN b := nI_l (by omega)
  have h2 : (8 : Int32) * nI j = nI (8 * j) := pk_mul 8 j
  have h3 : 2 ^ (8 * (j + 1)) = 2 ^ (8 * j) * 256 := by rw [show 8 * (j + 1) = 8 * j + 8 by omega, Nat.pow_add]
  have hp : 0 < 2 ^ (8 * j) := Nat.pow_pos (by decide)
  have hle : 2 ^ (8 * (j + 1)) ≤ 2 ^ 64 := Nat.pow_le_pow_right (by decide) (by omega)
  have hb2 : b * 2 ^ (8 * j) < 2 ^ (8 * (j + 1)) := by
    rw [h3, Nat.mul_comm]
    exact (Nat.mul_lt_mul_left hp).mpr hb
  have hv2 : v < 2 ^ (8 * (j + 1)) := by
    rw [h3]
    exact Nat.lt_of_lt_of_le hv (Nat.le_mul_of_pos_right _ (by decide))
  refine ⟨v ||| b * 2 ^ (8 * j), Nat.or_lt_two_pow hv2 hb2, ?_⟩
  rw [h1, h2, wb_shl b (by omega), wb_or (Nat.lt_of_lt_of_le hv2 hle) (Nat.lt_of_lt_of_le hb2 hle)]

set_option maxRecDepth 100000 in
set_option maxHeartbeats 2000000 in
/-- a number of several bytes -/
theorem c_X0_numberAt (l : Launch) (D : va_G) (cy : Nat → ClassId) (nw : Nat) (S : PS) (br h nn u : Nat) (hb : BytesAt S br h nn u) (p k : Nat) (hk : k ≤ 8) (hp : p + k ≤ u) : kL l yX0_numberAt wsX0_numberAt 1 21 D cy nw [.ref br, .int (nI p), .int (nI k)] S (fun r T => S = T ∧ ∃ v : Nat, v < 2 ^ (8 * k) ∧ r = lN v) 0 0 := by
  refine enterL (cc := cX0_numberAt) (nL := 6) (ret := (some .long)) (by decide +kernel) rfl (Nat.le_of_ble_eq_true rfl) ?_
  intro F Z hl hR hD hcy hnw hnm
  subst hl hD hcy hnw
  have hRf : F.R.frames = 1 := by rw [hR]
  have hRc : F.R.cells = 0 := by rw [hR]
  have hRs : F.R.slots = 0 := by rw [hR]
  have hRl : F.R.locals = 21 := by rw [hR]
  obtain ⟨hbL, hbK, hbh, hhL, hhK, hhl, hn2, hbu, hun, hfit⟩ := id hb
  have loop : ∀ (n : Nat) (j v : Nat), 9 - j < n → (j ≤ k ∧ v < 2 ^ (8 * j)) → G F 6 S 0 0 (QL F (fun r T => S = T ∧ ∃ v : Nat, v < 2 ^ (8 * k) ∧ r = lN v) 0 0) 5 [(0, .ref br), (1, .int (nI p)), (2, .int (nI k)), (3, .long (lN v)), (5, .int (nI j))] [] := by
    intro n
    induction n with
    | zero => intros; omega
    | succ n ih =>
      intro j v hn ⟨hj, hv⟩
      refine g_iload Z dX0_numberAt_5 rfl ?_
      refine g_iload_n Z dX0_numberAt_7 rfl ?_
      refine g_icmp_ge Z 35 dX0_numberAt_8 (by decide) (fun h8 => ?_) (fun h8 => ?_)
      · have he : j = k := by have := ge_t (by omega) (by omega) h8; omega
        subst he
        refine g_lload_n Z dX0_numberAt_35 rfl ?_
        exact g_lret Z dX0_numberAt_36 (by omega) (by omega) (⟨rfl, v, hv, rfl⟩)
      · have hlt : j < k := ge_f (by omega) (by omega) h8
        refine g_lload_n Z dX0_numberAt_11 rfl ?_
        refine g_aload_n Z dX0_numberAt_12 rfl ?_
        refine g_iload_n Z dX0_numberAt_13 rfl ?_
        refine g_iload Z dX0_numberAt_14 rfl ?_
        refine g_iadd Z dX0_numberAt_16 ?_
        rw [nI_add]
        refine g_cvI Z (c_X0_byteAt F.l F.D F.cy F.nw _ br h nn u hb (p + j) (by omega)) 1 gX0_numberAt_X0_byteAt rfl (by decide +kernel) (by rw [hRf, hRl]; decide) (by assumption) (κ := 0) (by assumption) rfl (by decide) rfl rfl (Nat.le_of_ble_eq_true rfl) dX0_numberAt_17 (by rw [hRc, hRs]; omega) (fun r T hp => ?_)
        obtain ⟨rfl, b, hb1, rfl⟩ := hp
        obtain ⟨v2, hv2, ev2⟩ := num_step (v := v) (b := b) (j := j) hv hb1 (by omega)
        refine g_i2l Z dX0_numberAt_20 ?_
        refine g_bipush (v := 8) Z dX0_numberAt_21 (by decide) ?_
        refine g_iload Z dX0_numberAt_23 rfl ?_
        refine g_imul Z dX0_numberAt_25 ?_
        refine g_lshl Z dX0_numberAt_26 ?_
        refine g_lor Z dX0_numberAt_27 ?_
        rw [ev2]
        refine g_lstore_n Z dX0_numberAt_28 (by decide) ?_
        refine g_iinc (c := 1) Z dX0_numberAt_29 rfl (by decide) (by decide) ?_
        rw [nI_1]
        refine g_goto Z 5 dX0_numberAt_32 (by decide) ?_
        exact g_lv (by (repeat (first | exact trivial | refine And.intro rfl ?_)); done) (ih (j + 1) v2 (by omega) ⟨by omega, hv2⟩)
  refine g_lconst (v := 0) Z dX0_numberAt_0 (by decide) ?_
  refine g_lstore_n Z dX0_numberAt_1 (by decide) ?_
  refine g_iconst (v := 0) Z dX0_numberAt_2 (by decide) ?_
  refine g_istore Z dX0_numberAt_3 (by decide) ?_
  exact g_lv (by (repeat (first | exact trivial | refine And.intro rfl ?_)); done) (loop 10 0 0 (by omega) ⟨by omega, by decide⟩)

theorem bast_fit (x : Int32) : fits .byte (.int (vp_nar .byte x)) = true := by
  rw [vp_nar_byte]; exact pk_fb x

theorem put_u {n u k j n2 u2 : Nat} (h6 : n ≤ 60000) (hn : n2 = bN n u k) (hu : u2 = bU u j) (hlt : u2 < n2) : bU u j + 1 = bU u (j + 1) := by
  have h7 : n2 ≤ 60000 := by
    rw [hn]; unfold bN
    by_cases h : u + k ≤ n
    · rw [if_pos h]; exact h6
    · rw [if_neg h]; exact Nat.le_refl _
  rw [hu] at hlt
  unfold bU at *
  omega
theorem put_full {n u k j n2 u2 : Nat} (hn : n2 = bN n u k) (hu : u2 = bU u j) (hge : n2 ≤ u2) (hle : u2 ≤ n2) (hj : j < k) (hun : u ≤ n) : bU u k = u2 := by
  by_cases h : u + k ≤ n
  · have h2 : n2 = n := by rw [hn]; unfold bN; rw [if_pos h]
    unfold bU at *
    omega
  · have h2 : n2 = 60000 := by rw [hn]; unfold bN; rw [if_neg h]
    unfold bU at *
    omega
theorem put_at {S : PS} {br h n u : Nat} {x : Int32} (hb : BytesAt S br h n u) (hlt : u < n) : BytesAt ((S.setI br 1 (nI (u + 1))).rowI h (upd ((S.setI br 1 (nI (u + 1))).ri h) (nI u).toNatClampNeg (vp_nar .byte x))) br h n (u + 1) := by
  obtain ⟨k1, k2, k3, k4, k5, k6, k7, k8, k9, k10⟩ := hb
  refine ⟨k1, k2, k3, k4, k5, k6, k7, up2_self _ _ _ _, hlt, ?_⟩
  show sb_Fit (va_up S.ri h (upd (S.ri h) (nI u).toNatClampNeg (vp_nar .byte x)) h)
  rw [va_up_self]
  exact sb_fitU k10 (bast_fit x)
theorem grow_at {S : PS} {br h n u q : Nat} {f : Nat → Int32} (hb : BytesAt S br h n u) (hq : q ∉ S.L) (hf : sb_Fit f) : BytesAt (((S.newA q 7 60000).rowI q f).setR br 0 (some q)) br q 60000 u := by
  obtain ⟨k1, k2, k3, k4, k5, k6, k7, k8, k9, k10⟩ := hb
  refine ⟨List.mem_append_left _ k1, (va_up_ne _ _ (ne_mem hq k1)).trans k2, up2_self _ _ _ _, List.mem_append_right _ (List.mem_singleton.mpr rfl), va_up_self _ _ _, va_up_self _ _ _, Or.inr rfl, k8, by omega, ?_⟩
  show sb_Fit (va_up (va_up S.ri q (fun _ => 0)) q f q)
  rw [va_up_self]
  exact hf

set_option maxRecDepth 100000 in
set_option maxHeartbeats 2000000 in
/-- bytes come behind the others -/
theorem c_X0_put (l : Launch) (D : va_G) (cy : Nat → ClassId) (nw : Nat) (S : PS) (br h n u : Nat) (hb : BytesAt S br h n u) (k : Nat) (hk : k ≤ 8) (x : Int64) : kV l yX0_put wsX0_put 2 82 D cy nw [.ref br, .long x, .int (nI k)] S (fun T => Rl Pb S T ∧ ∃ h2, BytesAt T br h2 (bN n u k) (bU u k)) (bG n u k) (60000 * bG n u k) := by
  refine enterV (cc := cX0_put) (nL := 5) (ret := none) (by decide +kernel) rfl (Nat.le_of_ble_eq_true rfl) ?_
  intro F Z hl hR hD hcy hnw hnm
  subst hl hD hcy hnw
  have hRf : F.R.frames = 2 := by rw [hR]
  have hRc : F.R.cells = (bG n u k) := by rw [hR]
  have hRs : F.R.slots = (60000 * bG n u k) := by rw [hR]
  have hRl : F.R.locals = 82 := by rw [hR]
  have in0 : ∀ w ∈ u_ws RX0 TX0 2, w ∈ wsX0_put := by decide +kernel
  have lk9 : Cond.fieldLink RX0 9 (TX0 0).1 (TX0 0).2.1 (TX0 0).2.2.1 ∈ wsX0_put := by decide +kernel
  have lk15 : Cond.fieldLink RX0 15 (TX0 1).1 (TX0 1).2.1 (TX0 1).2.2.1 ∈ wsX0_put := by decide +kernel
  have ct19 : Cond.constant RX0 19 (60000) ∈ wsX0_put := by decide +kernel
  obtain ⟨hbL, hbK, hbh, hhL, hhK, hhl, hn2, hbu, hun, hfit⟩ := id hb
  have loop : ∀ (m : Nat) (j h n2 u2 : Nat) (T : PS), 9 - j < m → (Rl Pb S T ∧ BytesAt T br h n2 u2 ∧ j ≤ k ∧ n2 = bN n u k ∧ u2 = bU u j) → G F 5 T (bG n u k) (60000 * bG n u k) (QV F (fun T => Rl Pb S T ∧ ∃ h2, BytesAt T br h2 (bN n u k) (bU u k)) (bG n u k) (60000 * bG n u k)) 40 [(0, .ref br), (1, .long x), (3, .int (nI k)), (4, .int (nI j))] [] := by
    intro m
    induction m with
    | zero => intros; omega
    | succ m ih =>
      intro j h n2 u2 T hm ⟨hR2, hb2, hj, hn3, hu3⟩
      obtain ⟨hbL, hbK, hbh, hhL, hhK, hhl, hn4, hbu, hun2, hfit⟩ := id hb2
      have hbound : u ≤ n ∧ n ≤ 60000 ∧ k ≤ 8 := ⟨hun, by omega, hk⟩
      refine g_iload Z dX0_put_40 rfl ?_
      refine g_iload_n Z dX0_put_42 rfl ?_
      refine g_icmp_ge Z 89 dX0_put_43 (by decide) (fun h43 => ?_) (fun h43 => ?_)
      · have he : j = k := by have := ge_t (by omega) (by omega) h43; omega
        subst he
        exact g_vret Z dX0_put_89 (by omega) (by omega) (by first | exact ⟨hR2, h, by rw [← hn3, ← hu3]; exact hb2⟩ | exact ⟨hR2, h, by rw [← hn3, put_full hn3 hu3 hge hun2 hlt hbound.1]; exact hb2⟩)
      · have hlt : j < k := ge_f (by omega) (by omega) h43
        refine g_aload_n Z dX0_put_46 rfl ?_
        refine g_geti Z 0 1 rfl (by decide) in0 lk15 dX0_put_47 (by assumption) (by assumption) ?_
        rw [hbu]
        refine g_aload_n Z dX0_put_50 rfl ?_
        refine g_getr Z 0 0 rfl (by decide) in0 lk9 dX0_put_51 (by assumption) (by assumption) (by assumption) ?_
        refine g_alen7 Z dX0_put_54 (by assumption) (by assumption) ?_
        rw [hhl]
        refine g_icmp_ge Z 89 dX0_put_55 (by decide) (fun h55 => ?_) (fun h55 => ?_)
        · have hge : n2 ≤ u2 := ge_t (by omega) (by omega) h55
          exact g_vret Z dX0_put_89 (by omega) (by omega) (by first | exact ⟨hR2, h, by rw [← hn3, ← hu3]; exact hb2⟩ | exact ⟨hR2, h, by rw [← hn3, put_full hn3 hu3 hge hun2 hlt hbound.1]; exact hb2⟩)
        · have hlt2 : u2 < n2 := ge_f (by omega) (by omega) h55
          refine g_aload_n Z dX0_put_58 rfl ?_
          refine g_getr Z 0 0 rfl (by decide) in0 lk9 dX0_put_59 (by assumption) (by assumption) (by assumption) ?_
          refine g_aload_n Z dX0_put_62 rfl ?_
          refine g_dup Z dX0_put_63 rfl ?_
          refine g_geti Z 0 1 rfl (by decide) in0 lk15 dX0_put_64 (by assumption) (by assumption) ?_
          rw [hbu]
          refine g_dup_x1 Z dX0_put_67 rfl rfl ?_
          refine g_iconst (v := 1) Z dX0_put_68 (by decide) ?_
          refine g_iadd Z dX0_put_69 ?_
          rw [nI_1]
          refine g_puti Z 0 1 rfl (by decide) tyX0 tyX0_ok nmX0 rfl in0 lk15 dX0_put_70 rfl rfl (by assumption) (by assumption) ?_
          refine g_lload_n Z dX0_put_73 rfl ?_
          refine g_bipush (v := 8) Z dX0_put_74 (by decide) ?_
          refine g_iload Z dX0_put_76 rfl ?_
          refine g_imul Z dX0_put_78 ?_
          refine g_lushr Z dX0_put_79 ?_
          refine g_l2i Z dX0_put_80 ?_
          refine g_i2b Z dX0_put_81 ?_
          refine g_bast Z dX0_put_82 (by assumption) (by assumption) (by exact vin_of hhl hlt2 (by omega)) ?_
          refine g_iinc (c := 1) Z dX0_put_83 rfl (by decide) (by decide) ?_
          rw [nI_1]
          refine g_goto Z 40 dX0_put_86 (by decide) ?_
          exact g_lv (by (repeat (first | exact trivial | refine And.intro rfl ?_)); done) (ih (j + 1) h n2 (u2 + 1) _ (by omega) ⟨(hR2.setI (by rw [hbK]; exact Or.inl rfl)).rowI (by rw [show PS.K (PS.setI T br 1 _) h = 7 from hhK]; exact Or.inr rfl), put_at hb2 hlt2, by omega, hn3, by rw [hu3]; exact put_u (by omega) hn3 hu3 hlt2⟩)
  refine g_aload_n Z dX0_put_0 rfl ?_
  refine g_geti Z 0 1 rfl (by decide) in0 lk15 dX0_put_1 (by assumption) (by assumption) ?_
  rw [hbu]
  refine g_iload_n Z dX0_put_4 rfl ?_
  refine g_iadd Z dX0_put_5 ?_
  rw [nI_add]
  refine g_aload_n Z dX0_put_6 rfl ?_
  refine g_getr Z 0 0 rfl (by decide) in0 lk9 dX0_put_7 (by assumption) (by assumption) (by assumption) ?_
  refine g_alen7 Z dX0_put_10 (by assumption) (by assumption) ?_
  rw [hhl]
  refine g_icmp_le Z 37 dX0_put_11 (by decide) (fun h11 => ?_) (fun h11 => ?_)
  · have hle : u + k ≤ n := le_t (by omega) (by omega) h11
    have hg0 : bG n u k = 0 := by unfold bG; rw [if_pos (Or.inl hle)]
    have hN0 : n = bN n u k := by unfold bN; rw [if_pos hle]
    refine g_iconst (v := 0) Z dX0_put_37 (by decide) ?_
    refine g_istore Z dX0_put_38 (by decide) ?_
    exact g_widen (Nat.zero_le _) (Nat.zero_le _) (g_lv (by (repeat (first | exact trivial | refine And.intro rfl ?_)); done) (loop 10 0 h n u S (by omega) ⟨Rl.rf, hb, by omega, hN0, by unfold bU; omega⟩))
  · have hgt : n < u + k := le_f (by omega) (by omega) h11
    refine g_aload_n Z dX0_put_14 rfl ?_
    refine g_getr Z 0 0 rfl (by decide) in0 lk9 dX0_put_15 (by assumption) (by assumption) (by assumption) ?_
    refine g_alen7 Z dX0_put_18 (by assumption) (by assumption) ?_
    rw [hhl]
    refine g_ldc (v := 60000) Z dX0_put_19 ct19 ?_
    refine g_icmp_ge Z 37 dX0_put_21 (by decide) (fun h21 => ?_) (fun h21 => ?_)
    · have hn6 : n = 60000 := by have := ge_t (i := n) (N := 60000) (by omega) (by decide) h21; omega
      have hg0 : bG n u k = 0 := by unfold bG; rw [if_pos (Or.inr hn6)]
      have hN0 : n = bN n u k := by unfold bN; rw [if_neg (by omega)]; exact hn6
      refine g_iconst (v := 0) Z dX0_put_37 (by decide) ?_
      refine g_istore Z dX0_put_38 (by decide) ?_
      exact g_widen (Nat.zero_le _) (Nat.zero_le _) (g_lv (by (repeat (first | exact trivial | refine And.intro rfl ?_)); done) (loop 10 0 h n u S (by omega) ⟨Rl.rf, hb, by omega, hN0, by unfold bU; omega⟩))
    · have hn6 : n < 60000 := ge_f (by omega) (by decide) h21
      have hg1 : bG n u k = 1 := by unfold bG; rw [if_neg (by omega)]
      have hN1 : 60000 = bN n u k := by unfold bN; rw [if_neg (by omega)]
      refine g_aload_n Z dX0_put_24 rfl ?_
      refine g_aload_n Z dX0_put_25 rfl ?_
      refine g_getr Z 0 0 rfl (by decide) in0 lk9 dX0_put_26 (by assumption) (by assumption) (by assumption) ?_
      refine g_ldc (v := 60000) Z dX0_put_29 ct19 ?_
      refine g_csR Z (c_J7_copyOf_9075b F.l F.D F.cy F.nw _ h n hhL hhK hhl hn6 hfit) 2 gX0_put_J7_copyOf_9075b rfl (by decide +kernel) (by rw [hRf, hRl]; decide) rfl rfl (Nat.le_of_ble_eq_true rfl) dX0_put_31 (by rw [hRc, hRs]; rw [hg1]; decide) (fun r T hp => ?_)
      obtain ⟨q, f, rfl, hq, rfl, hff⟩ := hp
      have hneq : br ≠ q := ne_mem hq hbL
      refine g_putr Z 0 0 rfl (by decide) tyX0 tyX0_ok nmX0 rfl in0 lk9 dX0_put_34 rfl rfl (List.mem_append_left _ hbL) ((va_up_ne _ _ hneq).trans hbK) ?_
      refine g_iconst (v := 0) Z dX0_put_37 (by decide) ?_
      refine g_istore Z dX0_put_38 (by decide) ?_
      exact g_widen (by omega) (by omega) (g_lv (by (repeat (first | exact trivial | refine And.intro rfl ?_)); done) (loop 10 0 q 60000 u _ (by omega) ⟨(((Rl.rf.newA hq).rowI (by rw [show PS.K (PS.newA S q 7 60000) q = 7 from va_up_self _ _ _]; exact Or.inr rfl)).setR (by rw [show PS.K (PS.rowI (PS.newA S q 7 60000) q f) br = 0 from (va_up_ne _ _ hneq).trans hbK]; exact Or.inl rfl)), grow_at hb hq hff, by omega, hN1, by unfold bU; omega⟩))
