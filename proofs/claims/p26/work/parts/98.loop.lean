set_option maxRecDepth 100000 in
set_option maxHeartbeats 2000000 in
/-- one turn -/
theorem lw_loop {F : Fx} {Q : State → Prop} {b L x m : Nat} {xs : Nat → Int32} (X : LX F b L xs) (hE : ∀ (S M : PS) (kc ks : Nat) (lv : List (Nat × Value)), kc ≤ 600000 → ks ≤ 7302250 → G2 F 4 S M kc ks Q 990 lv []) : ∀ (n k w g : Nat) (S M : PS), 513 - k < n → 6 * k ≤ L → LJ F.nw x m w g S M → G2 F 4 S M (200 + k + 12 * (300 - w) + g) (170000 + 1024 * k + 12288 * (300 - w) + 60000 * g) Q 18 (lvL b x m (6 * k)) [] := by
  obtain ⟨Z, -, -, -, hL, hRf, hRc, hRs, hRl⟩ := id X
  intro n
  induction n with
  | zero => intros; omega
  | succ n ih =>
    intro k w g S M hn hkL hI
    have hwg : w ≤ 300 ∧ g ≤ 1 := by
      obtain ⟨sa, pl, la, br, h, n, u, rd, rk, rt, fa, so, O, V, B, hx, hg, -⟩ := id hI
      exact ⟨hx.1.1.2.2.2.2.2.2.2.2.2, by omega⟩
    obtain ⟨hw3, hg1⟩ := hwg
    refine h_iload_n Z dL_law_18 rfl ?_
    refine h_aload_n Z dL_law_19 rfl ?_
    refine h_slen X dL_law_20 ?_
    refine h_bipush (v := 6) Z dL_law_21 (by decide) ?_
    refine h_isub Z dL_law_23 ?_
    refine h_icmp_gt Z 990 dL_law_24 (by decide) (fun h24 => ?_) (fun h24 => ?_)
    · exact hE _ _ _ _ _ (by omega) (by omega)
    · have hk6 : 6 * k + 6 ≤ L := by
        rw [Int32.lt_iff_toInt_lt, show (6 : Int32) = nI 6 from rfl, pk_sub_toInt (by omega) (by decide), nI_toInt (by omega)] at h24
        omega
      have hnx : ∀ (S2 M2 : PS) (w2 g2 : Nat), LJ F.nw x m w2 g2 S2 M2 → G2 F 4 S2 M2 (200 + (k + 1) + 12 * (300 - w2) + g2) (170000 + 1024 * (k + 1) + 12288 * (300 - w2) + 60000 * g2) Q 984 (lvL b x m (6 * k)) [] := by
        intro S2 M2 w2 g2 hI2
        refine h_iinc (c := 6) Z dL_law_984 rfl (by decide) (by decide) ?_
        refine h_goto Z 18 dL_law_987 (by decide) ?_
        rw [show (6 : Int32) = nI 6 from rfl, nI_add, show 6 * k + 6 = 6 * (k + 1) by omega]
        exact h_lv (by (repeat (first | exact trivial | refine And.intro rfl ?_)); done) (ih (k + 1) w2 g2 S2 M2 (by omega) (by omega) hI2)
      refine h_aload_n Z dL_law_27 rfl ?_
      refine h_iload_n Z dL_law_28 rfl ?_
      refine h_sld X (by omega) dL_law_29 ?_
      refine h_bipush (v := 31) Z dL_law_30 (by decide) ?_
      refine h_iand Z dL_law_32 ?_
      obtain ⟨j, hj, ej⟩ := i32_and (xs (6 * k)) 31 (by decide)
      rw [show xs (6 * k) &&& (31 : Int32) = nI j from ej]
      have hcs : j = 0 ∨ j = 1 ∨ j = 2 ∨ j = 3 ∨ j = 4 ∨ j = 5 ∨ j = 6 ∨ j = 7 ∨ j = 8 ∨ j = 9 ∨ j = 10 ∨ j = 11 ∨ j = 12 ∨ j = 13 ∨ j = 14 ∨ j = 15 ∨ j = 16 ∨ j = 17 ∨ j = 18 ∨ j = 19 ∨ j = 20 ∨ j = 21 ∨ j = 22 ∨ j = 23 ∨ j = 24 ∨ 24 < j := by omega
      rcases hcs with rfl | rfl | rfl | rfl | rfl | rfl | rfl | rfl | rfl | rfl | rfl | rfl | rfl | rfl | rfl | rfl | rfl | rfl | rfl | rfl | rfl | rfl | rfl | rfl | rfl | hj24
      · exact h_tableIn Z 148 dL_law_33 (by decide) (by decide) (off := 115) (by decide) (by decide) (lw_add X hk6 hI hnx)
      · exact h_tableIn Z 181 dL_law_33 (by decide) (by decide) (off := 148) (by decide) (by decide) (lw_remove X hk6 hI hnx)
      · exact h_tableIn Z 214 dL_law_33 (by decide) (by decide) (off := 181) (by decide) (by decide) (lw_range X hk6 hI hnx)
      · exact h_tableIn Z 277 dL_law_33 (by decide) (by decide) (off := 244) (by decide) (by decide) (lw_steps X hk6 hI hnx)
      · exact h_tableIn Z 330 dL_law_33 (by decide) (by decide) (off := 297) (by decide) (by decide) (lw_clear X hk6 hI hnx)
      · exact h_tableIn Z 353 dL_law_33 (by decide) (by decide) (off := 320) (by decide) (by decide) (lw_join X hk6 hI hnx)
      · exact h_tableIn Z 406 dL_law_33 (by decide) (by decide) (off := 373) (by decide) (by decide) (lw_shrink X hk6 hI hnx)
      · exact h_tableIn Z 429 dL_law_33 (by decide) (by decide) (off := 396) (by decide) (by decide) (lw_formula X hk6 hI hnx)
      · exact h_tableIn Z 502 dL_law_33 (by decide) (by decide) (off := 469) (by decide) (by decide) (lw_has X hk6 hI hnx)
      · exact h_tableIn Z 535 dL_law_33 (by decide) (by decide) (off := 502) (by decide) (by decide) (lw_rank X hk6 hI hnx)
      · exact h_tableIn Z 568 dL_law_33 (by decide) (by decide) (off := 535) (by decide) (by decide) (lw_select X hk6 hI hnx)
      · exact h_tableIn Z 601 dL_law_33 (by decide) (by decide) (off := 568) (by decide) (by decide) (lw_next X hk6 hI hnx)
      · exact h_tableIn Z 634 dL_law_33 (by decide) (by decide) (off := 601) (by decide) (by decide) (lw_count X hk6 hI hnx)
      · exact h_tableIn Z 667 dL_law_33 (by decide) (by decide) (off := 634) (by decide) (by decide) (lw_container X hk6 hI hnx)
      · exact h_tableIn Z 710 dL_law_33 (by decide) (by decide) (off := 677) (by decide) (by decide) (lw_compare X hk6 hI hnx)
      · exact h_tableIn Z 743 dL_law_33 (by decide) (by decide) (off := 710) (by decide) (by decide) (lw_write X hk6 hI hnx)
      · exact h_tableIn Z 766 dL_law_33 (by decide) (by decide) (off := 733) (by decide) (by decide) (lw_read X hk6 hI hnx)
      · exact h_tableIn Z 789 dL_law_33 (by decide) (by decide) (off := 756) (by decide) (by decide) (lw_fault X hk6 hI hnx)
      · exact h_tableIn Z 802 dL_law_33 (by decide) (by decide) (off := 769) (by decide) (by decide) (lw_cut X hk6 hI hnx)
      · exact h_tableIn Z 825 dL_law_33 (by decide) (by decide) (off := 792) (by decide) (by decide) (lw_type X hk6 hI hnx)
      · exact h_tableIn Z 888 dL_law_33 (by decide) (by decide) (off := 855) (by decide) (by decide) (lw_at X hk6 hI hnx)
      · exact h_tableIn Z 911 dL_law_33 (by decide) (by decide) (off := 878) (by decide) (by decide) (lw_alter X hk6 hI hnx)
      · exact h_tableIn Z 944 dL_law_33 (by decide) (by decide) (off := 911) (by decide) (by decide) (lw_work X hk6 hI hnx)
      · exact h_tableIn Z 957 dL_law_33 (by decide) (by decide) (off := 924) (by decide) (by decide) (lw_size X hk6 hI hnx)
      · exact h_tableIn Z 970 dL_law_33 (by decide) (by decide) (off := 937) (by decide) (by decide) (lw_digest X hk6 hI hnx)
      · refine h_tableOut Z 984 dL_law_33 (Or.inr (by rw [nI_toInt (by omega)]; omega)) (by decide) ?_
        exact h_widen (by omega) (by omega) (hnx S M w g hI)
theorem fs5 : ∀ j, j < 6 → defaultValue (tyX6 j) = vp_V (fval ([], fun _ => 0, fun _ _ => 0, fun _ _ => none, fun _ => 0, fun _ _ => 0, fun _ _ => 0, fun _ _ => none) 0 0 (lay 5)) j := fun j hj => by
  rcases (show j = 0 ∨ j = 1 ∨ j = 2 ∨ j = 3 ∨ j = 4 ∨ j = 5 by omega) with rfl | rfl | rfl | rfl | rfl | rfl <;> rfl
theorem fs6 : ∀ j, j < 16 → defaultValue (tyX7 j) = vp_V (fval ([], fun _ => 0, fun _ _ => 0, fun _ _ => none, fun _ => 0, fun _ _ => 0, fun _ _ => 0, fun _ _ => none) 0 0 (lay 6)) j := fun j hj => by
  rcases (show j = 0 ∨ j = 1 ∨ j = 2 ∨ j = 3 ∨ j = 4 ∨ j = 5 ∨ j = 6 ∨ j = 7 ∨ j = 8 ∨ j = 9 ∨ j = 10 ∨ j = 11 ∨ j = 12 ∨ j = 13 ∨ j = 14 ∨ j = 15 by omega) with rfl | rfl | rfl | rfl | rfl | rfl | rfl | rfl | rfl | rfl | rfl | rfl | rfl | rfl | rfl | rfl <;> rfl
theorem M0_mv : MV M0.1 (fun _ => eS) ∧ RBy M0.2 0 (fun _ => 0) ∧ M0.2.fa = nI 0 ∧ M0.2.wk = nI 300 := ⟨fun s _ => ⟨Nat.zero_le _, nI_0.symm, fun i h => absurd h (Nat.not_lt_zero _)⟩, ⟨nI_0.symm, by decide, fun i h => absurd h (Nat.not_lt_zero _)⟩, nI_0.symm, by decide⟩
set_option maxRecDepth 100000 in
set_option maxHeartbeats 2000000 in
/-- the law from its entry -/
theorem lw_start {F : Fx} {Q : State → Prop} {b L : Nat} {xs : Nat → Int32} (X : LX F b L xs) (hE : ∀ (S M : PS) (kc ks : Nat) (lv : List (Nat × Value)), kc ≤ 600000 → ks ≤ 7302250 → G2 F 4 S M kc ks Q 990 lv []) : G F 4 eP 0 0 Q 0 [(0, .ref b)] [] := by
  obtain ⟨Z, -, -, -, hL, hRf, hRc, hRs, hRl⟩ := id X
  have in5 : ∀ w ∈ u_ws RX6 TX6 6, w ∈ wsL_law := inlX6
  have in6 : ∀ w ∈ u_ws RX7 TX7 16, w ∈ wsL_law := inlX7
  refine g_new Z 5 rfl (by decide) tyX6 tyX6_ok in5 fs5 (by decide +kernel) (by decide +kernel) (by decide +kernel) dL_law_0 (by rw [hRc]; omega) (by rw [hRs]; omega) (fun x hx => ?_)
  refine g_dup Z dL_law_3 rfl ?_
  refine g_ci Z (f_X6_init F.l F.D F.cy F.nw _ x (in_new (κ := 5)) K_new) 0 gL_law_X6_init rfl (by decide +kernel) (by decide +kernel) (by decide +kernel) rfl (by decide +kernel) (by rw [hRf, hRl]; decide) rfl rfl (Nat.le_of_ble_eq_true rfl) dL_law_4 (by rw [hRc, hRs]; omega) (fun T hp => ?_)
  obtain ⟨sa, pl, la, br, h, rd, rk, rt, so, O, hX⟩ := hp
  refine g_astore_n Z dL_law_7 (by decide) ?_
  refine h_newm Z 6 rfl (by decide) tyX7 tyX7_ok in6 fs6 (by decide +kernel) (by decide +kernel) (by decide +kernel) dL_law_8 (by rw [hRc]; omega) (by rw [hRs]; omega) (fun m => ?_)
  refine h_dup Z dL_law_11 rfl ?_
  refine h_mi Z (c_X7_init F.l F.D F.cy F.nw m) 0 gL_law_X7_init rfl (by decide +kernel) (by decide +kernel) (by decide +kernel) rfl (by decide +kernel) (by rw [hRf, hRl]; decide) rfl rfl (Nat.le_of_ble_eq_true rfl) dL_law_12 (by rw [hRc, hRs]; omega) (fun M hp => ?_)
  obtain ⟨A, ho, rfl⟩ := hp
  refine h_astore_n Z dL_law_15 (by decide) ?_
  refine h_iconst (v := 0) Z dL_law_16 (by decide) ?_
  refine h_istore_n Z dL_law_17 (by decide) ?_
  refine h_widen (k2 := (200 + 0 + 12 * (300 - 300) + 0)) (s2 := (170000 + 1024 * 0 + 12288 * (300 - 300) + 60000 * 0)) (by omega) (by omega) ?_
  refine h_lv (by (repeat (first | exact trivial | refine And.intro rfl ?_)); done) (lw_loop (m := m) (x := x) X hE 514 0 300 0 T _ (by omega) (by omega) ⟨sa, pl, la, br, h, _, _, rd, rk, rt, _, so, O, _, _, hX, Or.inl rfl, A, M0.1, M0.2, ho, rfl, M0_mv.1, M0_mv.2.1, M0_mv.2.2.1, M0_mv.2.2.2⟩)
