set_option maxRecDepth 100000 in
set_option maxHeartbeats 2000000 in
/-- static -/
theorem f_X5_putMark (l : Launch) (D : va_G) (cy : Nat → ClassId) (nw : Nat) (S : PS) (s it : Nat) (V : Sv) (hsq : SQ S nw s it V) (br h n : Nat) (Y : List Nat) (hb : ByL S br h n Y) (hlen : Y.length + (mkL V).length ≤ 60000) : kV l yX5_putMark wsX5_putMark 3 106 D cy nw [.ref s, .ref br] S (fun T => WL S br n Y (mkL V) T) (bG n Y.length (mkL V).length) (60000 * bG n Y.length (mkL V).length) := by
  refine enterV (cc := cX5_putMark) (nL := 5) (ret := none) (by decide +kernel) rfl (Nat.le_of_ble_eq_true rfl) ?_
  intro F Z hl hR hD hcy hnw hnm
  subst hl hD hcy hnw
  have hRf : F.R.frames = 3 := by rw [hR]
  have hRc : F.R.cells = (bG n Y.length (mkL V).length) := by rw [hR]
  have hRs : F.R.slots = (60000 * bG n Y.length (mkL V).length) := by rw [hR]
  have hRl : F.R.locals = 106 := by rw [hR]
  have in1 : ∀ w ∈ u_ws RX1 TX1 4, w ∈ wsX5_putMark := by decide +kernel
  have in2 : ∀ w ∈ u_ws RX2 TX2 2, w ∈ wsX5_putMark := by decide +kernel
  have lk15 : Cond.fieldLink RX5 15 (TX2 1).1 (TX2 1).2.1 (TX2 1).2.2.1 ∈ wsX5_putMark := by decide +kernel
  have lk21 : Cond.fieldLink RX5 21 (TX2 0).1 (TX2 0).2.1 (TX2 0).2.2.1 ∈ wsX5_putMark := by decide +kernel
  have lk65 : Cond.fieldLink RX5 65 (TX1 1).1 (TX1 1).2.1 (TX1 1).2.2.1 ∈ wsX5_putMark := by decide +kernel
  have ct72 : Cond.constantLong RX5 72 (12346) ∈ wsX5_putMark := by decide +kernel
  have ct74 : Cond.constantLong RX5 74 (12347) ∈ wsX5_putMark := by decide +kernel
  obtain ⟨hsL, hsK, hsit, hitL, hitK, hitl, hsu, hu7, hsw, hsr⟩ := id hsq.1
  have hun : Y.length ≤ n := hb.1.2.2.2.2.2.2.2.2.1
  have hn6 : n ≤ 60000 := by have := hb.1.2.2.2.2.2.2.1; omega
  have hbL := hb.1.1
  have hbK := hb.1.2.1
  have hWr := WL.rf hb
  have hn0 : ([] : List Nat).length = 0 := rfl
  have hml := mkL_len V
  have j31 : ¬ hsR V = 0 → ∀ (m j : Nat), 8 - j < m → j ≤ V.1 → G F 5 S (bG n Y.length ([] : List Nat).length) (60000 * bG n Y.length ([] : List Nat).length) (QV F (fun T => WL S br n Y (mkL V) T) (bG n Y.length (mkL V).length) (60000 * bG n Y.length (mkL V).length)) 31 [(0, .ref s), (1, .ref br), (2, .long (lN (rbN V j))), (4, .int (nI j))] [] := by
    intro hne m
    have hk : mkL V = byL 12347 2 ++ byL (V.1 - 1) 2 ++ byL (rbN V V.1) 1 := by unfold mkL; rw [if_neg hne]
    rw [if_neg hne] at hml
    have hv1 := hsR_pos hne
    induction m with
    | zero => intros; omega
    | succ m ih =>
      intro j hm hj
      refine g_iload Z dX5_putMark_31 rfl ?_
      refine g_aload_n Z dX5_putMark_33 rfl ?_
      refine g_geti Z 2 1 rfl (by decide) in2 lk15 dX5_putMark_34 (by assumption) (by assumption) ?_
      rw [hsu]
      refine g_icmp_ge Z 67 dX5_putMark_37 (by decide) (fun h37 => ?_) (fun h37 => ?_)
      · have he : j = V.1 := by have := ge_t (i := j) (N := V.1) (by omega) (by omega) h37; omega
        subst he
        have hrl := rbN_lt V V.1
        have hr7 : 2 ^ V.1 ≤ 2 ^ 7 := Nat.pow_le_pow_right (by decide) hu7
        refine g_aload_n Z dX5_putMark_67 rfl ?_
        refine g_ldc2 (v := 12347) Z dX5_putMark_68 ct74 ?_
        rw [show (12347 : Int64) = lN 12347 from rfl]
        refine g_iconst (v := 2) Z dX5_putMark_71 (by decide) ?_
        refine g_cvV Z (f_X0_put F.l F.D F.cy F.nw _ br _ _ _ _ (hWr.2.choose_spec) 12347 (by decide) 2 (by omega) (by first | omega | (simp only [List.length_append, byL_len, kyP_len, plP_len, bdP_len, boL_len]; omega))) 2 gX5_putMark_X0_put rfl (by decide +kernel) (by rw [hRf, hRl]; decide) (by exact hWr.2.choose_spec.1.1) (κ := 0) (by exact hWr.2.choose_spec.1.2.1) rfl (by decide) rfl rfl (Nat.le_of_ble_eq_true rfl) dX5_putMark_72 (by rw [hRc, hRs]; exact wl_room hun hn6 (by first | omega | (simp only [List.length_append, byL_len, kyP_len, plP_len, bdP_len, boL_len]; omega)) (by first | omega | (simp only [List.length_append, byL_len, kyP_len, plP_len, bdP_len, boL_len]; omega))) (fun X hp => ?_)
        have hW2 := hWr.put hun hn6 (by first | omega | (simp only [List.length_append, byL_len, kyP_len, plP_len, bdP_len, boL_len]; omega)) hp
        refine g_widen (wl_wid (v := 12347) hun hn6 (by first | omega | (simp only [List.length_append, byL_len, kyP_len, plP_len, bdP_len, boL_len]; omega))).1 (wl_wid (v := 12347) hun hn6 (by first | omega | (simp only [List.length_append, byL_len, kyP_len, plP_len, bdP_len, boL_len]; omega))).2 ?_
        refine g_aload_n Z dX5_putMark_75 rfl ?_
        refine g_aload_n Z dX5_putMark_76 rfl ?_
        refine g_geti Z 2 1 rfl (by decide) in2 lk15 dX5_putMark_77 (by exact (hW2.1 s hsL).1) (by exact (hW2.1 s hsL).2.1.trans hsK) ?_
        rw [show X.fi s 1 = nI V.1 by rw [((hW2.1 s hsL).2.2.2 (by rw [hsK]; exact nPb2)).1]; exact hsu]
        refine g_iconst (v := 1) Z dX5_putMark_80 (by decide) ?_
        refine g_isub Z dX5_putMark_81 ?_
        rw [show nI V.1 - 1 = nI (V.1 - 1) from nI_sb (b := 1) hv1]
        refine g_i2l Z dX5_putMark_82 ?_
        rw [nI_l (by omega)]
        refine g_iconst (v := 2) Z dX5_putMark_83 (by decide) ?_
        refine g_cvV Z (f_X0_put F.l F.D F.cy F.nw _ br _ _ _ _ (hW2.2.choose_spec) (V.1 - 1) (by omega) 2 (by omega) (by first | omega | (simp only [List.length_append, byL_len, kyP_len, plP_len, bdP_len, boL_len]; omega))) 2 gX5_putMark_X0_put rfl (by decide +kernel) (by rw [hRf, hRl]; decide) (by exact hW2.2.choose_spec.1.1) (κ := 0) (by exact hW2.2.choose_spec.1.2.1) rfl (by decide) rfl rfl (Nat.le_of_ble_eq_true rfl) dX5_putMark_84 (by rw [hRc, hRs]; exact wl_room hun hn6 (by first | omega | (simp only [List.length_append, byL_len, kyP_len, plP_len, bdP_len, boL_len]; omega)) (by first | omega | (simp only [List.length_append, byL_len, kyP_len, plP_len, bdP_len, boL_len]; omega))) (fun X2 hp => ?_)
        have hW3 := hW2.put hun hn6 (by first | omega | (simp only [List.length_append, byL_len, kyP_len, plP_len, bdP_len, boL_len]; omega)) hp
        refine g_widen (wl_wid (v := (V.1 - 1)) hun hn6 (by first | omega | (simp only [List.length_append, byL_len, kyP_len, plP_len, bdP_len, boL_len]; omega))).1 (wl_wid (v := (V.1 - 1)) hun hn6 (by first | omega | (simp only [List.length_append, byL_len, kyP_len, plP_len, bdP_len, boL_len]; omega))).2 ?_
        refine g_aload_n Z dX5_putMark_87 rfl ?_
        refine g_lload_n Z dX5_putMark_88 rfl ?_
        refine g_aload_n Z dX5_putMark_89 rfl ?_
        refine g_geti Z 2 1 rfl (by decide) in2 lk15 dX5_putMark_90 (by exact (hW3.1 s hsL).1) (by exact (hW3.1 s hsL).2.1.trans hsK) ?_
        rw [show X2.fi s 1 = nI V.1 by rw [((hW3.1 s hsL).2.2.2 (by rw [hsK]; exact nPb2)).1]; exact hsu]
        refine g_bipush (v := 7) Z dX5_putMark_93 (by decide) ?_
        refine g_iadd Z dX5_putMark_95 ?_
        rw [show nI V.1 + 7 = nI (V.1 + 7) from nI_add V.1 7]
        refine g_bipush (v := 8) Z dX5_putMark_96 (by decide) ?_
        refine g_idiv Z dX5_putMark_98 (by decide) ?_
        rw [show nI (V.1 + 7) / 8 = nI 1 from (pk_div (a := V.1 + 7) (d := 8) (by omega) (by decide) (by decide)).trans (congrArg nI (by omega))]
        refine g_cvV Z (f_X0_put F.l F.D F.cy F.nw _ br _ _ _ _ (hW3.2.choose_spec) (rbN V V.1) (by omega) 1 (by omega) (by first | omega | (simp only [List.length_append, byL_len, kyP_len, plP_len, bdP_len, boL_len]; omega))) 2 gX5_putMark_X0_put rfl (by decide +kernel) (by rw [hRf, hRl]; decide) (by exact hW3.2.choose_spec.1.1) (κ := 0) (by exact hW3.2.choose_spec.1.2.1) rfl (by decide) rfl rfl (Nat.le_of_ble_eq_true rfl) dX5_putMark_99 (by rw [hRc, hRs]; exact wl_room hun hn6 (by first | omega | (simp only [List.length_append, byL_len, kyP_len, plP_len, bdP_len, boL_len]; omega)) (by first | omega | (simp only [List.length_append, byL_len, kyP_len, plP_len, bdP_len, boL_len]; omega))) (fun X3 hp => ?_)
        have hW4 := hW3.put hun hn6 (by first | omega | (simp only [List.length_append, byL_len, kyP_len, plP_len, bdP_len, boL_len]; omega)) hp
        refine g_widen (wl_wid (v := (rbN V V.1)) hun hn6 (by first | omega | (simp only [List.length_append, byL_len, kyP_len, plP_len, bdP_len, boL_len]; omega))).1 (wl_wid (v := (rbN V V.1)) hun hn6 (by first | omega | (simp only [List.length_append, byL_len, kyP_len, plP_len, bdP_len, boL_len]; omega))).2 ?_
        exact g_vret Z dX5_putMark_102 (by rw [hk]; exact Nat.le_refl _) (by rw [hk]; exact Nat.le_refl _) (by rw [hk]; exact hW4)
      · have hlt : j < V.1 := ge_f (by omega) (by omega) h37
        obtain ⟨c, hc, hcv⟩ := hsq.2 j hlt
        obtain ⟨hcL, hcK, -, -⟩ := id hcv.cr
        have hcl : (nI j).toNatClampNeg = j := nI_clamp (by omega)
        refine g_aload_n Z dX5_putMark_40 rfl ?_
        refine g_getr Z 2 0 rfl (by decide) in2 lk21 dX5_putMark_41 (by assumption) (by assumption) (by assumption) ?_
        refine g_iload Z dX5_putMark_44 rfl ?_
        refine g_aald10 Z dX5_putMark_46 (by assumption) (by assumption) (by exact vin_of hitl (by omega) (by decide)) (by rw [hcl]; exact hc) ?_
        refine g_geti Z 1 1 rfl (by decide) in1 lk65 dX5_putMark_47 (by assumption) (by assumption) ?_
        rw [hcv.kd]
        refine g_iconst (v := 2) Z dX5_putMark_50 (by decide) ?_
        refine g_icmp_ne Z 61 dX5_putMark_51 (by decide) (fun h51 => ?_) (fun h51 => ?_)
        · refine g_iinc (c := 1) Z dX5_putMark_61 rfl (by decide) (by decide) ?_
          rw [nI_1]
          refine g_goto Z 31 dX5_putMark_64 (by decide) ?_
          first | (rw [show rbN V j + 1 * 2 ^ j = rbN V (j + 1) from (if_pos h51).symm]; exact g_lv (by (repeat (first | exact trivial | refine And.intro rfl ?_)); done) (ih (j + 1) (by omega) (by omega))) | (rw [show rbN V j = rbN V (j + 1) from (if_neg h51).symm]; exact g_lv (by (repeat (first | exact trivial | refine And.intro rfl ?_)); done) (ih (j + 1) (by omega) (by omega)))
        · refine g_lload_n Z dX5_putMark_54 rfl ?_
          refine g_lconst (v := 1) Z dX5_putMark_55 (by decide) ?_
          refine g_iload Z dX5_putMark_56 rfl ?_
          refine g_lshl Z dX5_putMark_58 ?_
          refine g_lor Z dX5_putMark_59 ?_
          rw [rb_st (by omega)]
          refine g_lstore_n Z dX5_putMark_60 (by decide) ?_
          refine g_iinc (c := 1) Z dX5_putMark_61 rfl (by decide) (by decide) ?_
          rw [nI_1]
          refine g_goto Z 31 dX5_putMark_64 (by decide) ?_
          first | (rw [show rbN V j + 1 * 2 ^ j = rbN V (j + 1) from (if_pos h51).symm]; exact g_lv (by (repeat (first | exact trivial | refine And.intro rfl ?_)); done) (ih (j + 1) (by omega) (by omega))) | (rw [show rbN V j = rbN V (j + 1) from (if_neg h51).symm]; exact g_lv (by (repeat (first | exact trivial | refine And.intro rfl ?_)); done) (ih (j + 1) (by omega) (by omega)))
  refine g_aload_n Z dX5_putMark_0 rfl ?_
  refine g_csI Z (c_X5_hasRuns F.l F.D F.cy F.nw _ s it V.1 hsq.1) 1 gX5_putMark_X5_hasRuns rfl (by decide +kernel) (by rw [hRf, hRl]; decide) rfl rfl (Nat.le_of_ble_eq_true rfl) dX5_putMark_1 (by rw [hRc, hRs]; exact ⟨Nat.zero_le _, Nat.zero_le _⟩) (fun r U hp => ?_)
  obtain ⟨rfl, rfl⟩ := hp
  rw [hsq.hr]
  refine g_widen (Nat.zero_le (bG n Y.length ([] : List Nat).length)) (Nat.zero_le (60000 * bG n Y.length ([] : List Nat).length)) ?_
  refine g_if_ne Z 26 dX5_putMark_4 (by decide) (fun h4 => ?_) (fun h4 => ?_)
  · refine g_lconst (v := 0) Z dX5_putMark_26 (by decide) ?_
    refine g_lstore_n Z dX5_putMark_27 (by decide) ?_
    refine g_iconst (v := 0) Z dX5_putMark_28 (by decide) ?_
    refine g_istore Z dX5_putMark_29 (by decide) ?_
    exact g_lv (by (repeat (first | exact trivial | refine And.intro rfl ?_)); done) (j31 (fun e => h4 (hsR_0.mpr e)) 9 0 (by omega) (by omega))
  · have h40 := hsR_0.mp h4
    have hk : mkL V = byL 12346 4 ++ byL V.1 4 := by unfold mkL; rw [if_pos h40]
    rw [if_pos h40] at hml
    refine g_aload_n Z dX5_putMark_7 rfl ?_
    refine g_ldc2 (v := 12346) Z dX5_putMark_8 ct72 ?_
    rw [show (12346 : Int64) = lN 12346 from rfl]
    refine g_iconst (v := 4) Z dX5_putMark_11 (by decide) ?_
    refine g_cvV Z (f_X0_put F.l F.D F.cy F.nw _ br _ _ _ _ (hWr.2.choose_spec) 12346 (by decide) 4 (by omega) (by first | omega | (simp only [List.length_append, byL_len, kyP_len, plP_len, bdP_len, boL_len]; omega))) 2 gX5_putMark_X0_put rfl (by decide +kernel) (by rw [hRf, hRl]; decide) (by exact hWr.2.choose_spec.1.1) (κ := 0) (by exact hWr.2.choose_spec.1.2.1) rfl (by decide) rfl rfl (Nat.le_of_ble_eq_true rfl) dX5_putMark_12 (by rw [hRc, hRs]; exact wl_room hun hn6 (by first | omega | (simp only [List.length_append, byL_len, kyP_len, plP_len, bdP_len, boL_len]; omega)) (by first | omega | (simp only [List.length_append, byL_len, kyP_len, plP_len, bdP_len, boL_len]; omega))) (fun X hp => ?_)
    have hW2 := hWr.put hun hn6 (by first | omega | (simp only [List.length_append, byL_len, kyP_len, plP_len, bdP_len, boL_len]; omega)) hp
    refine g_widen (wl_wid (v := 12346) hun hn6 (by first | omega | (simp only [List.length_append, byL_len, kyP_len, plP_len, bdP_len, boL_len]; omega))).1 (wl_wid (v := 12346) hun hn6 (by first | omega | (simp only [List.length_append, byL_len, kyP_len, plP_len, bdP_len, boL_len]; omega))).2 ?_
    refine g_aload_n Z dX5_putMark_15 rfl ?_
    refine g_aload_n Z dX5_putMark_16 rfl ?_
    refine g_geti Z 2 1 rfl (by decide) in2 lk15 dX5_putMark_17 (by exact (hW2.1 s hsL).1) (by exact (hW2.1 s hsL).2.1.trans hsK) ?_
    rw [show X.fi s 1 = nI V.1 by rw [((hW2.1 s hsL).2.2.2 (by rw [hsK]; exact nPb2)).1]; exact hsu]
    refine g_i2l Z dX5_putMark_20 ?_
    rw [nI_l (by omega)]
    refine g_iconst (v := 4) Z dX5_putMark_21 (by decide) ?_
    refine g_cvV Z (f_X0_put F.l F.D F.cy F.nw _ br _ _ _ _ (hW2.2.choose_spec) V.1 (by omega) 4 (by omega) (by first | omega | (simp only [List.length_append, byL_len, kyP_len, plP_len, bdP_len, boL_len]; omega))) 2 gX5_putMark_X0_put rfl (by decide +kernel) (by rw [hRf, hRl]; decide) (by exact hW2.2.choose_spec.1.1) (κ := 0) (by exact hW2.2.choose_spec.1.2.1) rfl (by decide) rfl rfl (Nat.le_of_ble_eq_true rfl) dX5_putMark_22 (by rw [hRc, hRs]; exact wl_room hun hn6 (by first | omega | (simp only [List.length_append, byL_len, kyP_len, plP_len, bdP_len, boL_len]; omega)) (by first | omega | (simp only [List.length_append, byL_len, kyP_len, plP_len, bdP_len, boL_len]; omega))) (fun X2 hp => ?_)
    have hW3 := hW2.put hun hn6 (by first | omega | (simp only [List.length_append, byL_len, kyP_len, plP_len, bdP_len, boL_len]; omega)) hp
    refine g_widen (wl_wid (v := V.1) hun hn6 (by first | omega | (simp only [List.length_append, byL_len, kyP_len, plP_len, bdP_len, boL_len]; omega))).1 (wl_wid (v := V.1) hun hn6 (by first | omega | (simp only [List.length_append, byL_len, kyP_len, plP_len, bdP_len, boL_len]; omega))).2 ?_
    exact g_vret Z dX5_putMark_25 (by rw [hk]; exact Nat.le_refl _) (by rw [hk]; exact Nat.le_refl _) (by rw [hk]; exact hW3)

set_option maxRecDepth 100000 in
set_option maxHeartbeats 2000000 in
/-- static -/
theorem f_X5_putPlaces (l : Launch) (D : va_G) (cy : Nat → ClassId) (nw : Nat) (S : PS) (s it : Nat) (V : Sv) (hsq : SQ S nw s it V) (br h n : Nat) (Y : List Nat) (hb : ByL S br h n Y) (hlen : Y.length + 4 * V.1 ≤ 60000) : kV l yX5_putPlaces wsX5_putPlaces 4 106 D cy nw [.ref s, .ref br] S (fun T => WL S br n Y (plP V V.1) T) (bG n Y.length (4 * V.1)) (60000 * bG n Y.length (4 * V.1)) := by
  refine enterV (cc := cX5_putPlaces) (nL := 4) (ret := none) (by decide +kernel) rfl (Nat.le_of_ble_eq_true rfl) ?_
  intro F Z hl hR hD hcy hnw hnm
  subst hl hD hcy hnw
  have hRf : F.R.frames = 4 := by rw [hR]
  have hRc : F.R.cells = (bG n Y.length (4 * V.1)) := by rw [hR]
  have hRs : F.R.slots = (60000 * bG n Y.length (4 * V.1)) := by rw [hR]
  have hRl : F.R.locals = 106 := by rw [hR]
  have in2 : ∀ w ∈ u_ws RX2 TX2 2, w ∈ wsX5_putPlaces := by decide +kernel
  have lk15 : Cond.fieldLink RX5 15 (TX2 1).1 (TX2 1).2.1 (TX2 1).2.2.1 ∈ wsX5_putPlaces := by decide +kernel
  have lk21 : Cond.fieldLink RX5 21 (TX2 0).1 (TX2 0).2.1 (TX2 0).2.2.1 ∈ wsX5_putPlaces := by decide +kernel
  have hun : Y.length ≤ n := hb.1.2.2.2.2.2.2.2.2.1
  have hn6 : n ≤ 60000 := by have := hb.1.2.2.2.2.2.2.1; omega
  have hd := hdN_le hsq.le
  have h7 := hsq.le
  have loop : ∀ (m j : Nat) (T : PS), 8 - j < m → (WL S br n Y (plP V j) T ∧ j ≤ V.1) → G F 4 T (bG n Y.length (plP V j).length) (60000 * bG n Y.length (plP V j).length) (QV F (fun T => WL S br n Y (plP V V.1) T) (bG n Y.length (4 * V.1)) (60000 * bG n Y.length (4 * V.1))) 7 [(0, .ref s), (1, .ref br), (2, .int (nI (hdN V + boS V boN j))), (3, .int (nI j))] [] := by
    intro m
    induction m with
    | zero => intros; omega
    | succ m ih =>
      intro j T hm ⟨hW, hj⟩
      have hqT := hW.1.sq hsq
      obtain ⟨hsL, hsK, hsit, hitL, hitK, hitl, hsu, hu7, -, -⟩ := id hqT.1
      have hpl := plP_len V j
      have hbs := boS_le V j
      refine g_iload_n Z dX5_putPlaces_7 rfl ?_
      refine g_aload_n Z dX5_putPlaces_8 rfl ?_
      refine g_geti Z 2 1 rfl (by decide) in2 lk15 dX5_putPlaces_9 (by assumption) (by assumption) ?_
      rw [hsu]
      refine g_icmp_ge Z 40 dX5_putPlaces_12 (by decide) (fun h12 => ?_) (fun h12 => ?_)
      · have he : j = V.1 := by have := ge_t (i := j) (N := V.1) (by omega) (by omega) h12; omega
        subst he
        exact g_vret Z dX5_putPlaces_40 (by rw [hpl]; exact Nat.le_refl _) (by rw [hpl]; exact Nat.le_refl _) (hW)
      · have hlt : j < V.1 := ge_f (by omega) (by omega) h12
        have hcl : (nI j).toNatClampNeg = j := nI_clamp (by omega)
        refine g_aload_n Z dX5_putPlaces_15 rfl ?_
        refine g_iload_n Z dX5_putPlaces_16 rfl ?_
        refine g_i2l Z dX5_putPlaces_17 ?_
        rw [nI_l (by omega)]
        refine g_iconst (v := 4) Z dX5_putPlaces_18 (by decide) ?_
        refine g_cvV Z (f_X0_put F.l F.D F.cy F.nw _ br _ _ _ _ (hW.2.choose_spec) (hdN V + boS V boN j) (by omega) 4 (by omega) (by first | omega | (simp only [List.length_append, byL_len, kyP_len, plP_len, bdP_len, boL_len]; omega))) 2 gX5_putPlaces_X0_put rfl (by decide +kernel) (by rw [hRf, hRl]; decide) (by exact hW.2.choose_spec.1.1) (κ := 0) (by exact hW.2.choose_spec.1.2.1) rfl (by decide) rfl rfl (Nat.le_of_ble_eq_true rfl) dX5_putPlaces_19 (by rw [hRc, hRs]; exact wl_room hun hn6 (by first | omega | (simp only [List.length_append, byL_len, kyP_len, plP_len, bdP_len, boL_len]; omega)) (by first | omega | (simp only [List.length_append, byL_len, kyP_len, plP_len, bdP_len, boL_len]; omega))) (fun X hp => ?_)
        have hW2 := hW.put hun hn6 (by first | omega | (simp only [List.length_append, byL_len, kyP_len, plP_len, bdP_len, boL_len]; omega)) hp
        refine g_widen (wl_wid (v := (hdN V + boS V boN j)) hun hn6 (by first | omega | (simp only [List.length_append, byL_len, kyP_len, plP_len, bdP_len, boL_len]; omega))).1 (wl_wid (v := (hdN V + boS V boN j)) hun hn6 (by first | omega | (simp only [List.length_append, byL_len, kyP_len, plP_len, bdP_len, boL_len]; omega))).2 ?_
        have hs2 := (hW2.1.sq hsq).1
        obtain ⟨c, hc, hcv⟩ := (hW2.1.sq hsq).2 j hlt
        refine g_iload_n Z dX5_putPlaces_22 rfl ?_
        refine g_aload_n Z dX5_putPlaces_23 rfl ?_
        refine g_getr Z 2 0 rfl (by decide) in2 lk21 dX5_putPlaces_24 (by exact hs2.1) (by exact hs2.2.1) (by exact hs2.2.2.1) ?_
        refine g_iload_n Z dX5_putPlaces_27 rfl ?_
        refine g_aald10 Z dX5_putPlaces_28 (by exact hs2.2.2.2.1) (by exact hs2.2.2.2.2.1) (by exact vin_of hs2.2.2.2.2.2.1 (by omega) (by decide)) (by rw [hcl]; exact hc) ?_
        refine g_csI Z (c_X5_bodyBytesOf F.l F.D F.cy F.nw _ c hcv.cr) 1 gX5_putPlaces_X5_bodyBytesOf rfl (by decide +kernel) (by rw [hRf, hRl]; decide) rfl rfl (Nat.le_of_ble_eq_true rfl) dX5_putPlaces_29 (by rw [hRc, hRs]; exact w_room0 (by first | omega | (simp only [List.length_append, byL_len, kyP_len, plP_len, bdP_len, boL_len]; omega))) (fun r Y9 hp => ?_)
        obtain ⟨rfl, rfl⟩ := hp
        rw [hcv.bb]
        refine g_iadd Z dX5_putPlaces_32 ?_
        rw [nI_add, show hdN V + boS V boN j + boN (V.2 j) = hdN V + boS V boN (j + 1) from Nat.add_assoc _ _ _]
        refine g_istore_n Z dX5_putPlaces_33 (by decide) ?_
        refine g_iinc (c := 1) Z dX5_putPlaces_34 rfl (by decide) (by decide) ?_
        rw [nI_1]
        refine g_goto Z 7 dX5_putPlaces_37 (by decide) ?_
        exact g_lv (by (repeat (first | exact trivial | refine And.intro rfl ?_)); done) (ih (j + 1) X (by omega) ⟨hW2, by omega⟩)
  refine g_aload_n Z dX5_putPlaces_0 rfl ?_
  refine g_csI Z (c_X5_headBytesOf F.l F.D F.cy F.nw _ s it V.1 hsq.1) 1 gX5_putPlaces_X5_headBytesOf rfl (by decide +kernel) (by rw [hRf, hRl]; decide) rfl rfl (Nat.le_of_ble_eq_true rfl) dX5_putPlaces_1 (by rw [hRc, hRs]; exact ⟨Nat.zero_le _, Nat.zero_le _⟩) (fun r U hp => ?_)
  obtain ⟨rfl, rfl⟩ := hp
  rw [hsq.hb]
  refine g_istore_n Z dX5_putPlaces_4 (by decide) ?_
  refine g_iconst (v := 0) Z dX5_putPlaces_5 (by decide) ?_
  refine g_istore_n Z dX5_putPlaces_6 (by decide) ?_
  exact g_widen (Nat.zero_le _) (Nat.zero_le _) (g_lv (by (repeat (first | exact trivial | refine And.intro rfl ?_)); done) (loop 9 0 S (by omega) ⟨WL.rf hb, by omega⟩))

set_option maxRecDepth 100000 in
set_option maxHeartbeats 2000000 in
/-- static -/
theorem f_X5_putSet (l : Launch) (D : va_G) (cy : Nat → ClassId) (nw : Nat) (S : PS) (s it : Nat) (V : Sv) (hsq : SQ S nw s it V) (br h n : Nat) (Y : List Nat) (hb : ByL S br h n Y) (hpos : ∀ i, i < V.1 → 0 < tot (V.2 i).2.2) (hlen : Y.length + (seL V).length ≤ 60000) : kV l yX5_putSet wsX5_putSet 6 153 D cy nw [.ref s, .ref br] S (fun T => WL S br n Y (seL V) T) (bG n Y.length (seL V).length) (60000 * bG n Y.length (seL V).length) := by
  refine enterV (cc := cX5_putSet) (nL := 3) (ret := none) (by decide +kernel) rfl (Nat.le_of_ble_eq_true rfl) ?_
  intro F Z hl hR hD hcy hnw hnm
  subst hl hD hcy hnw
  have hRf : F.R.frames = 6 := by rw [hR]
  have hRc : F.R.cells = (bG n Y.length (seL V).length) := by rw [hR]
  have hRs : F.R.slots = (60000 * bG n Y.length (seL V).length) := by rw [hR]
  have hRl : F.R.locals = 153 := by rw [hR]
  have in1 : ∀ w ∈ u_ws RX1 TX1 4, w ∈ wsX5_putSet := by decide +kernel
  have in2 : ∀ w ∈ u_ws RX2 TX2 2, w ∈ wsX5_putSet := by decide +kernel
  have lk15 : Cond.fieldLink RX5 15 (TX2 1).1 (TX2 1).2.1 (TX2 1).2.2.1 ∈ wsX5_putSet := by decide +kernel
  have lk21 : Cond.fieldLink RX5 21 (TX2 0).1 (TX2 0).2.1 (TX2 0).2.2.1 ∈ wsX5_putSet := by decide +kernel
  have lk33 : Cond.fieldLink RX5 33 (TX1 0).1 (TX1 0).2.1 (TX1 0).2.2.1 ∈ wsX5_putSet := by decide +kernel
  have lk44 : Cond.fieldLink RX5 44 (TX1 2).1 (TX1 2).2.1 (TX1 2).2.2.1 ∈ wsX5_putSet := by decide +kernel
  have hun : Y.length ≤ n := hb.1.2.2.2.2.2.2.2.2.1
  have hn6 : n ≤ 60000 := by have := hb.1.2.2.2.2.2.2.1; omega
  have h7 := hsq.le
  have hsm : ∀ i, i ≤ V.1 → boS V boN i ≤ boS V boN V.1 := fun i hi => boS_mono V boN hi
  have hK : seL V = mkL V ++ kyP V V.1 ++ (if hsP V then plP V V.1 else []) ++ bdP V V.1 := rfl
  generalize hpl : (if hsP V then plP V V.1 else []) = pl at hK
  have hKl : (seL V).length = (mkL V).length + 4 * V.1 + pl.length + boS V boN V.1 := by rw [hK]; simp only [List.length_append, kyP_len, bdP_len]
  have loop2 : ∀ (m j : Nat) (T : PS), 8 - j < m → (WL S br n Y (mkL V ++ kyP V V.1 ++ pl ++ bdP V j) T ∧ j ≤ V.1) → G F 3 T (bG n Y.length (mkL V ++ kyP V V.1 ++ pl ++ bdP V j).length) (60000 * bG n Y.length (mkL V ++ kyP V V.1 ++ pl ++ bdP V j).length) (QV F (fun T => WL S br n Y (seL V) T) (bG n Y.length (seL V).length) (60000 * bG n Y.length (seL V).length)) 67 [(0, .ref s), (1, .ref br), (2, .int (nI j))] [] := by
    intro m
    induction m with
    | zero => intros; omega
    | succ m ih =>
      intro j T hm ⟨hW, hj⟩
      have hqT := hW.1.sq hsq
      obtain ⟨hsL, hsK, hsit, hitL, hitK, hitl, hsu, hu7, -, -⟩ := id hqT.1
      refine g_iload_n Z dX5_putSet_67 rfl ?_
      refine g_aload_n Z dX5_putSet_68 rfl ?_
      refine g_geti Z 2 1 rfl (by decide) in2 lk15 dX5_putSet_69 (by assumption) (by assumption) ?_
      rw [hsu]
      refine g_icmp_ge Z 91 dX5_putSet_72 (by decide) (fun h72 => ?_) (fun h72 => ?_)
      · have he : j = V.1 := by have := ge_t (i := j) (N := V.1) (by omega) (by omega) h72; omega
        subst he
        exact g_vret Z dX5_putSet_91 (by rw [hK]; exact Nat.le_refl _) (by rw [hK]; exact Nat.le_refl _) (by rw [hK]; exact hW)
      · have hlt : j < V.1 := ge_f (by omega) (by omega) h72
        obtain ⟨c, hc, hcv⟩ := hqT.2 j hlt
        have hcl : (nI j).toNatClampNeg = j := nI_clamp (by omega)
        have hsj : boS V boN j + boN (V.2 j) ≤ boS V boN V.1 := hsm (j + 1) (by omega)
        refine g_aload_n Z dX5_putSet_75 rfl ?_
        refine g_getr Z 2 0 rfl (by decide) in2 lk21 dX5_putSet_76 (by assumption) (by assumption) (by assumption) ?_
        refine g_iload_n Z dX5_putSet_79 rfl ?_
        refine g_aald10 Z dX5_putSet_80 (by assumption) (by assumption) (by exact vin_of hitl (by omega) (by decide)) (by rw [hcl]; exact hc) ?_
        refine g_aload_n Z dX5_putSet_81 rfl ?_
        refine g_csV Z (f_X5_putBody F.l F.D F.cy F.nw _ c (V.2 j) hcv br _ _ _ (hW.2.choose_spec) (by first | omega | (simp only [List.length_append, byL_len, kyP_len, plP_len, bdP_len, boL_len]; omega))) 2 gX5_putSet_X5_putBody rfl (by decide +kernel) (by rw [hRf, hRl]; decide) rfl rfl (Nat.le_of_ble_eq_true rfl) dX5_putSet_82 (by rw [hRc, hRs]; exact wl_room hun hn6 (by first | omega | (simp only [List.length_append, byL_len, kyP_len, plP_len, bdP_len, boL_len]; omega)) (by first | omega | (simp only [List.length_append, byL_len, kyP_len, plP_len, bdP_len, boL_len]; omega))) (fun U hp => ?_)
        have hW2 := hW.app hun hn6 (by first | omega | (simp only [List.length_append, byL_len, kyP_len, plP_len, bdP_len, boL_len]; omega)) hp
        refine g_widen (wl_widG (G := boL (V.2 j)) hun hn6 (by first | omega | (simp only [List.length_append, byL_len, kyP_len, plP_len, bdP_len, boL_len]; omega)) (boL_len _)).1 (wl_widG (G := boL (V.2 j)) hun hn6 (by first | omega | (simp only [List.length_append, byL_len, kyP_len, plP_len, bdP_len, boL_len]; omega)) (boL_len _)).2 ?_
        refine g_iinc (c := 1) Z dX5_putSet_85 rfl (by decide) (by decide) ?_
        rw [nI_1]
        refine g_goto Z 67 dX5_putSet_88 (by decide) ?_
        rw [show (mkL V ++ kyP V V.1 ++ pl ++ bdP V j) ++ boL (V.2 j) = (mkL V ++ kyP V V.1 ++ pl ++ bdP V (j + 1)) from List.append_assoc _ _ _] at hW2 ⊢
        exact g_lv (by (repeat (first | exact trivial | refine And.intro rfl ?_)); done) (ih (j + 1) U (by omega) ⟨hW2, by omega⟩)
  have j53 : ∀ (T : PS), WL S br n Y (mkL V ++ kyP V V.1) T → ∀ q : Int32, G F 3 T (bG n Y.length (mkL V ++ kyP V V.1).length) (60000 * bG n Y.length (mkL V ++ kyP V V.1).length) (QV F (fun T => WL S br n Y (seL V) T) (bG n Y.length (seL V).length) (60000 * bG n Y.length (seL V).length)) 53 [(0, .ref s), (1, .ref br), (2, .int q)] [] := by
    intro T hW q
    have hqT := hW.1.sq hsq
    obtain ⟨hsL, hsK, hsit, hitL, hitK, hitl, hsu, hu7, -, -⟩ := id hqT.1
    refine g_aload_n Z dX5_putSet_53 rfl ?_
    refine g_csI Z (c_X5_hasPlaces F.l F.D F.cy F.nw _ s it V.1 hqT.1) 1 gX5_putSet_X5_hasPlaces rfl (by decide +kernel) (by rw [hRf, hRl]; decide) rfl rfl (Nat.le_of_ble_eq_true rfl) dX5_putSet_54 (by rw [hRc, hRs]; exact w_room0 (by first | omega | (simp only [List.length_append, byL_len, kyP_len, plP_len, bdP_len, boL_len]; omega))) (fun r U hp => ?_)
    obtain ⟨rfl, rfl⟩ := hp
    rw [hqT.hp]
    refine g_if_eq Z 65 dX5_putSet_57 (by decide) (fun h57 => ?_) (fun h57 => ?_)
    · have hnp : ¬ hsP V := fun e => by rw [if_pos e] at h57; exact absurd h57 (by decide)
      have hp0 : pl = [] := by rw [← hpl, if_neg hnp]
      refine g_iconst (v := 0) Z dX5_putSet_65 (by decide) ?_
      refine g_istore_n Z dX5_putSet_66 (by decide) ?_
      have e0 : (mkL V ++ kyP V V.1) = (mkL V ++ kyP V V.1 ++ pl ++ bdP V 0) := by rw [hp0]; show _ = mkL V ++ kyP V V.1 ++ [] ++ []; rw [List.append_nil, List.append_nil]
      rw [e0] at hW ⊢
      exact g_lv (by (repeat (first | exact trivial | refine And.intro rfl ?_)); done) (loop2 9 0 T (by omega) ⟨hW, by omega⟩)
    · have hyp : hsP V := Classical.byContradiction (fun e => h57 (by rw [if_neg e]))
      have hp4 : pl = plP V V.1 := by rw [← hpl, if_pos hyp]
      have hp4l : pl.length = 4 * V.1 := by rw [hp4, plP_len]
      refine g_aload_n Z dX5_putSet_60 rfl ?_
      refine g_aload_n Z dX5_putSet_61 rfl ?_
      refine g_csV Z (f_X5_putPlaces F.l F.D F.cy F.nw _ s it V hqT br _ _ _ (hW.2.choose_spec) (by first | omega | (simp only [List.length_append, byL_len, kyP_len, plP_len, bdP_len, boL_len]; omega))) 2 gX5_putSet_X5_putPlaces rfl (by decide +kernel) (by rw [hRf, hRl]; decide) rfl rfl (Nat.le_of_ble_eq_true rfl) dX5_putSet_62 (by rw [hRc, hRs]; exact wl_room hun hn6 (by first | omega | (simp only [List.length_append, byL_len, kyP_len, plP_len, bdP_len, boL_len]; omega)) (by first | omega | (simp only [List.length_append, byL_len, kyP_len, plP_len, bdP_len, boL_len]; omega))) (fun U hp => ?_)
      have hW2 := hW.app hun hn6 (by first | omega | (simp only [List.length_append, byL_len, kyP_len, plP_len, bdP_len, boL_len]; omega)) hp
      refine g_widen (wl_widG (G := plP V V.1) hun hn6 (by first | omega | (simp only [List.length_append, byL_len, kyP_len, plP_len, bdP_len, boL_len]; omega)) (plP_len V V.1)).1 (wl_widG (G := plP V V.1) hun hn6 (by first | omega | (simp only [List.length_append, byL_len, kyP_len, plP_len, bdP_len, boL_len]; omega)) (plP_len V V.1)).2 ?_
      refine g_iconst (v := 0) Z dX5_putSet_65 (by decide) ?_
      refine g_istore_n Z dX5_putSet_66 (by decide) ?_
      have e0 : (mkL V ++ kyP V V.1) ++ plP V V.1 = (mkL V ++ kyP V V.1 ++ pl ++ bdP V 0) := by rw [hp4]; show _ = mkL V ++ kyP V V.1 ++ plP V V.1 ++ []; rw [List.append_nil]
      rw [e0] at hW2 ⊢
      exact g_lv (by (repeat (first | exact trivial | refine And.intro rfl ?_)); done) (loop2 9 0 U (by omega) ⟨hW2, by omega⟩)
  have loop1 : ∀ (m j : Nat) (T : PS), 8 - j < m → (WL S br n Y (mkL V ++ kyP V j) T ∧ j ≤ V.1) → G F 3 T (bG n Y.length (mkL V ++ kyP V j).length) (60000 * bG n Y.length (mkL V ++ kyP V j).length) (QV F (fun T => WL S br n Y (seL V) T) (bG n Y.length (seL V).length) (60000 * bG n Y.length (seL V).length)) 7 [(0, .ref s), (1, .ref br), (2, .int (nI j))] [] := by
    intro m
    induction m with
    | zero => intros; omega
    | succ m ih =>
      intro j T hm ⟨hW, hj⟩
      have hqT := hW.1.sq hsq
      obtain ⟨hsL, hsK, hsit, hitL, hitK, hitl, hsu, hu7, -, -⟩ := id hqT.1
      refine g_iload_n Z dX5_putSet_7 rfl ?_
      refine g_aload_n Z dX5_putSet_8 rfl ?_
      refine g_geti Z 2 1 rfl (by decide) in2 lk15 dX5_putSet_9 (by assumption) (by assumption) ?_
      rw [hsu]
      refine g_icmp_ge Z 53 dX5_putSet_12 (by decide) (fun h12 => ?_) (fun h12 => ?_)
      · have he : j = V.1 := by have := ge_t (i := j) (N := V.1) (by omega) (by omega) h12; omega
        subst he
        exact g_lv (by (repeat (first | exact trivial | refine And.intro rfl ?_)); done) (j53 T hW _)
      · have hlt : j < V.1 := ge_f (by omega) (by omega) h12
        obtain ⟨c, hc, hcv⟩ := hqT.2 j hlt
        obtain ⟨hcL, hcK, -, -⟩ := id hcv.cr
        have hcl : (nI j).toNatClampNeg = j := nI_clamp (by omega)
        have hk6 := hcv.ky.2
        have ht6 := tot_le (V.2 j).2.2
        have ht1 := hpos j hlt
        refine g_aload_n Z dX5_putSet_15 rfl ?_
        refine g_aload_n Z dX5_putSet_16 rfl ?_
        refine g_getr Z 2 0 rfl (by decide) in2 lk21 dX5_putSet_17 (by assumption) (by assumption) (by assumption) ?_
        refine g_iload_n Z dX5_putSet_20 rfl ?_
        refine g_aald10 Z dX5_putSet_21 (by assumption) (by assumption) (by exact vin_of hitl (by omega) (by decide)) (by rw [hcl]; exact hc) ?_
        refine g_geti Z 1 0 rfl (by decide) in1 lk33 dX5_putSet_22 (by assumption) (by assumption) ?_
        rw [hcv.ky.1]
        refine g_i2l Z dX5_putSet_25 ?_
        rw [nI_l (by omega)]
        refine g_iconst (v := 2) Z dX5_putSet_26 (by decide) ?_
        refine g_cvV Z (f_X0_put F.l F.D F.cy F.nw _ br _ _ _ _ (hW.2.choose_spec) (V.2 j).1 (by omega) 2 (by omega) (by first | omega | (simp only [List.length_append, byL_len, kyP_len, plP_len, bdP_len, boL_len]; omega))) 2 gX5_putSet_X0_put rfl (by decide +kernel) (by rw [hRf, hRl]; decide) (by exact hW.2.choose_spec.1.1) (κ := 0) (by exact hW.2.choose_spec.1.2.1) rfl (by decide) rfl rfl (Nat.le_of_ble_eq_true rfl) dX5_putSet_27 (by rw [hRc, hRs]; exact wl_room hun hn6 (by first | omega | (simp only [List.length_append, byL_len, kyP_len, plP_len, bdP_len, boL_len]; omega)) (by first | omega | (simp only [List.length_append, byL_len, kyP_len, plP_len, bdP_len, boL_len]; omega))) (fun X hp => ?_)
        have hW2 := hW.put hun hn6 (by first | omega | (simp only [List.length_append, byL_len, kyP_len, plP_len, bdP_len, boL_len]; omega)) hp
        refine g_widen (wl_wid (v := (V.2 j).1) hun hn6 (by first | omega | (simp only [List.length_append, byL_len, kyP_len, plP_len, bdP_len, boL_len]; omega))).1 (wl_wid (v := (V.2 j).1) hun hn6 (by first | omega | (simp only [List.length_append, byL_len, kyP_len, plP_len, bdP_len, boL_len]; omega))).2 ?_
        have hs2 := (hW2.1.sq hsq).1
        obtain ⟨c2, hc2, hcv2⟩ := (hW2.1.sq hsq).2 j hlt
        refine g_aload_n Z dX5_putSet_30 rfl ?_
        refine g_aload_n Z dX5_putSet_31 rfl ?_
        refine g_getr Z 2 0 rfl (by decide) in2 lk21 dX5_putSet_32 (by exact hs2.1) (by exact hs2.2.1) (by exact hs2.2.2.1) ?_
        refine g_iload_n Z dX5_putSet_35 rfl ?_
        refine g_aald10 Z dX5_putSet_36 (by exact hs2.2.2.2.1) (by exact hs2.2.2.2.2.1) (by exact vin_of hs2.2.2.2.2.2.1 (by omega) (by decide)) (by rw [hcl]; exact hc2) ?_
        refine g_geti Z 1 2 rfl (by decide) in1 lk44 dX5_putSet_37 (by exact hcv2.cr.1) (by exact hcv2.cr.2.1) ?_
        rw [hcv2.tt]
        refine g_iconst (v := 1) Z dX5_putSet_40 (by decide) ?_
        refine g_isub Z dX5_putSet_41 ?_
        rw [show nI (tot (V.2 j).2.2) - 1 = nI (tot (V.2 j).2.2 - 1) from nI_sb (b := 1) ht1]
        refine g_i2l Z dX5_putSet_42 ?_
        rw [nI_l (by omega)]
        refine g_iconst (v := 2) Z dX5_putSet_43 (by decide) ?_
        refine g_cvV Z (f_X0_put F.l F.D F.cy F.nw _ br _ _ _ _ (hW2.2.choose_spec) (tot (V.2 j).2.2 - 1) (by omega) 2 (by omega) (by first | omega | (simp only [List.length_append, byL_len, kyP_len, plP_len, bdP_len, boL_len]; omega))) 2 gX5_putSet_X0_put rfl (by decide +kernel) (by rw [hRf, hRl]; decide) (by exact hW2.2.choose_spec.1.1) (κ := 0) (by exact hW2.2.choose_spec.1.2.1) rfl (by decide) rfl rfl (Nat.le_of_ble_eq_true rfl) dX5_putSet_44 (by rw [hRc, hRs]; exact wl_room hun hn6 (by first | omega | (simp only [List.length_append, byL_len, kyP_len, plP_len, bdP_len, boL_len]; omega)) (by first | omega | (simp only [List.length_append, byL_len, kyP_len, plP_len, bdP_len, boL_len]; omega))) (fun X2 hp => ?_)
        have hW3 := hW2.put hun hn6 (by first | omega | (simp only [List.length_append, byL_len, kyP_len, plP_len, bdP_len, boL_len]; omega)) hp
        refine g_widen (wl_wid (v := (tot (V.2 j).2.2 - 1)) hun hn6 (by first | omega | (simp only [List.length_append, byL_len, kyP_len, plP_len, bdP_len, boL_len]; omega))).1 (wl_wid (v := (tot (V.2 j).2.2 - 1)) hun hn6 (by first | omega | (simp only [List.length_append, byL_len, kyP_len, plP_len, bdP_len, boL_len]; omega))).2 ?_
        refine g_iinc (c := 1) Z dX5_putSet_47 rfl (by decide) (by decide) ?_
        rw [nI_1]
        refine g_goto Z 7 dX5_putSet_50 (by decide) ?_
        rw [show (mkL V ++ kyP V j) ++ byL (V.2 j).1 2 ++ byL (tot (V.2 j).2.2 - 1) 2 = (mkL V ++ kyP V (j + 1)) by show _ = mkL V ++ (kyP V j ++ (byL (V.2 j).1 2 ++ byL (tot (V.2 j).2.2 - 1) 2)); simp only [List.append_assoc]] at hW3 ⊢
        exact g_lv (by (repeat (first | exact trivial | refine And.intro rfl ?_)); done) (ih (j + 1) X2 (by omega) ⟨hW3, by omega⟩)
  have e00 : mkL V = mkL V ++ kyP V 0 := (List.append_nil _).symm
  refine g_aload_n Z dX5_putSet_0 rfl ?_
  refine g_aload_n Z dX5_putSet_1 rfl ?_
  refine g_csV Z (f_X5_putMark F.l F.D F.cy F.nw S s it V hsq br h n Y hb (by omega)) 2 gX5_putSet_X5_putMark rfl (by decide +kernel) (by rw [hRf, hRl]; decide) rfl rfl (Nat.le_of_ble_eq_true rfl) dX5_putSet_2 (by rw [hRc, hRs]; rw [Nat.zero_add, Nat.zero_add]; exact (w_room0 (n := n) (u := Y.length) (k := (mkL V).length) (K := (seL V).length) (by omega))) (fun U hp => ?_)
  refine g_widen (Nat.le_of_eq (Nat.zero_add _)) (Nat.le_of_eq (Nat.zero_add _)) ?_
  have hp2 : WL S br n Y (mkL V ++ kyP V 0) U := by rw [← e00]; exact hp
  refine g_widen (k2 := bG n Y.length (mkL V ++ kyP V 0).length) (s2 := 60000 * bG n Y.length (mkL V ++ kyP V 0).length) (Nat.le_of_eq (by rw [← e00])) (Nat.le_of_eq (by rw [← e00])) ?_
  refine g_iconst (v := 0) Z dX5_putSet_5 (by decide) ?_
  refine g_istore_n Z dX5_putSet_6 (by decide) ?_
  exact g_lv (by (repeat (first | exact trivial | refine And.intro rfl ?_)); done) (loop1 9 0 U (by omega) ⟨hp2, by omega⟩)
