set_option maxRecDepth 100000 in
set_option maxHeartbeats 2000000 in
/-- whether a byte lacks -/
theorem c_X0_lacks (l : Launch) (D : va_G) (cy : Nat → ClassId) (nw : Nat) (S : PS) (br h n u : Nat) (hb : BytesAt S br h n u) (x : Int32) : kI l yX0_lacks wsX0_lacks 0 0 D cy nw [.ref br, .int x] S (fun r T => S = T ∧ isIx u x r) 0 0 := by
  refine enterI (cc := cX0_lacks) (nL := 2) (ret := (some .boolean)) (by decide +kernel) rfl (Nat.le_of_ble_eq_true rfl) ?_
  intro F Z hl hR hD hcy hnw hnm
  subst hl hD hcy hnw
  have hRf : F.R.frames = 0 := by rw [hR]
  have hRc : F.R.cells = 0 := by rw [hR]
  have hRs : F.R.slots = 0 := by rw [hR]
  have hRl : F.R.locals = 0 := by rw [hR]
  have in0 : ∀ w ∈ u_ws RX0 TX0 2, w ∈ wsX0_lacks := by decide +kernel
  have lk15 : Cond.fieldLink RX0 15 (TX0 1).1 (TX0 1).2.1 (TX0 1).2.2.1 ∈ wsX0_lacks := by decide +kernel
  obtain ⟨hbL, hbK, hbh, hhL, hhK, hhl, hn2, hbu, hun, hfit⟩ := id hb
  refine g_iload_n Z dX0_lacks_0 rfl ?_
  refine g_if_lt Z 12 dX0_lacks_1 (by decide) (fun h1 => ?_) (fun h1 => ?_)
  · refine g_iconst (v := 1) Z dX0_lacks_12 (by decide) ?_
    refine g_goto Z 17 dX0_lacks_13 (by decide) ?_
    exact g_zret Z dX0_lacks_17 (by rfl) (by omega) (by omega) (by first | exact ⟨rfl, isIx_t0 h1⟩ | exact ⟨rfl, isIx_t (i_le_of_nlt h9)⟩ | exact ⟨rfl, isIx_f (by omega) h1 (i_nle_of_lt h9)⟩)
  · refine g_iload_n Z dX0_lacks_4 rfl ?_
    refine g_aload_n Z dX0_lacks_5 rfl ?_
    refine g_geti Z 0 1 rfl (by decide) in0 lk15 dX0_lacks_6 (by assumption) (by assumption) ?_
    rw [hbu]
    refine g_icmp_lt Z 16 dX0_lacks_9 (by decide) (fun h9 => ?_) (fun h9 => ?_)
    · refine g_iconst (v := 0) Z dX0_lacks_16 (by decide) ?_
      exact g_zret Z dX0_lacks_17 (by rfl) (by omega) (by omega) (by first | exact ⟨rfl, isIx_t0 h1⟩ | exact ⟨rfl, isIx_t (i_le_of_nlt h9)⟩ | exact ⟨rfl, isIx_f (by omega) h1 (i_nle_of_lt h9)⟩)
    · refine g_iconst (v := 1) Z dX0_lacks_12 (by decide) ?_
      refine g_goto Z 17 dX0_lacks_13 (by decide) ?_
      exact g_zret Z dX0_lacks_17 (by rfl) (by omega) (by omega) (by first | exact ⟨rfl, isIx_t0 h1⟩ | exact ⟨rfl, isIx_t (i_le_of_nlt h9)⟩ | exact ⟨rfl, isIx_f (by omega) h1 (i_nle_of_lt h9)⟩)

theorem num_step {v b j : Nat} (hv : v < 2 ^ (8 * j)) (hb : b < 256) (hj : j < 8) : ∃ v', v' < 2 ^ (8 * (j + 1)) ∧ lN v ||| (nI b).toInt64 <<< ((8 * nI j).toInt64 &&& 63) = lN v' := by
  have h1 : (nI b).toInt64 = lN b := nI_l (by omega)
  have h2 : (8 : Int32) * nI j = nI (8 * j) := pk_mul 8 j
  have h3 : 2 ^ (8 * (j + 1)) = 2 ^ (8 * j) * 256 := by rw [show 8 * (j + 1) = 8 * j + 8 by omega, Nat.pow_add]
  have hp : 0 < 2 ^ (8 * j) := Nat.pow_pos (by decide)
  have hle : 2 ^ (8 * (j + 1)) ≤ 2 ^ 64 := Nat.pow_le_pow_right (by decide) (by omega)
  have hb2 : b * 2 ^ (8 * j) < 2 ^ (8 * (j + 1)) := by
    rw [h3, Nat.mul_comm]
    exact (Nat.mul_lt_mul_left hp).mpr hb
  have hv2 : v < 2 ^ (8 * (j + 1)) := by
    rw [h3]
    exact Nat.lt_of_lt_of_le hv (Nat.le_mul_of_pos_right _ (by decide))
  refine ⟨v ||| b * 2 ^ (8 * j), Nat.or_lt_two_pow hv2 hb2, ?_⟩
  rw [h1, h2, wb_shl b (by omega), wb_or (Nat.lt_of_lt_of_le hv2 hle) (Nat.lt_of_lt_of_le hb2 hle)]

theorem bast_fit (x : Int32) : fits .byte (.int (vp_nar .byte x)) = true := by
  rw [vp_nar_byte]; exact pk_fb x

theorem put_at {S : PS} {br h n u : Nat} {x : Int32} (hb : BytesAt S br h n u) (hlt : u < n) : BytesAt ((S.setI br 1 (nI (u + 1))).rowI h (upd ((S.setI br 1 (nI (u + 1))).ri h) (nI u).toNatClampNeg (vp_nar .byte x))) br h n (u + 1) := by
  obtain ⟨k1, k2, k3, k4, k5, k6, k7, k8, k9, k10⟩ := hb
  refine ⟨k1, k2, k3, k4, k5, k6, k7, up2_self _ _ _ _, hlt, ?_⟩
  show sb_Fit (va_up S.ri h (upd (S.ri h) (nI u).toNatClampNeg (vp_nar .byte x)) h)
  rw [va_up_self]
  exact sb_fitU k10 (bast_fit x)
theorem grow_at {S : PS} {br h n u q : Nat} {f : Nat → Int32} (hb : BytesAt S br h n u) (hq : q ∉ S.L) (hf : sb_Fit f) : BytesAt (((S.newA q 7 60000).rowI q f).setR br 0 (some q)) br q 60000 u := by
  obtain ⟨k1, k2, k3, k4, k5, k6, k7, k8, k9, k10⟩ := hb
  refine ⟨List.mem_append_left _ k1, (va_up_ne _ _ (ne_mem hq k1)).trans k2, up2_self _ _ _ _, List.mem_append_right _ (List.mem_singleton.mpr rfl), va_up_self _ _ _, va_up_self _ _ _, Or.inr rfl, k8, by omega, ?_⟩
  show sb_Fit (va_up (va_up S.ri q (fun _ => 0)) q f q)
  rw [va_up_self]
  exact hf

