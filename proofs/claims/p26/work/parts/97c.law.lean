set_option maxRecDepth 100000 in
set_option maxHeartbeats 2000000 in
/-- count -/
theorem lw_count {F : Fx} {Q : State → Prop} {b L x m k w g : Nat} {xs : Nat → Int32} {S M : PS} (X : LX F b L xs) (hk : 6 * k + 6 ≤ L) (hI : LJ F.nw x m w g S M) (nx : ∀ (S2 M2 : PS) (w2 g2 : Nat), LJ F.nw x m w2 g2 S2 M2 → G2 F 4 S2 M2 (200 + (k + 1) + 12 * (300 - w2) + g2) (170000 + 1024 * (k + 1) + 12288 * (300 - w2) + 60000 * g2) Q 984 (lvL b x m (6 * k)) []) : G2 F 4 S M (200 + k + 12 * (300 - w) + g) (170000 + 1024 * k + 12288 * (300 - w) + 60000 * g) Q 634 (lvL b x m (6 * k)) [] := by
  obtain ⟨Z, -, -, -, hL, hRf, hRc, hRs, hRl⟩ := id X
  obtain ⟨sa, pl, la, br, h, n, u, rd, rk, rt, fa, so, O, V, B, hx, hg, A, C, R, ho, rfl, hM, hB, hfa, hw⟩ := hI
  have hw3 : w ≤ 300 := hx.1.1.2.2.2.2.2.2.2.2.2
  have hV := hx.2.2
  refine h_aload_n Z dL_law_634 rfl ?_
  refine h_arg X 635 1 (by omega) (by decide) dL_law_635 dL_law_636 dL_law_637 dL_law_638 dL_law_639 ?_
  refine h_arg X 640 2 (by omega) (by decide) dL_law_640 dL_law_641 dL_law_642 dL_law_643 dL_law_644 ?_
  refine h_xI Z (s_X6_count F.l F.D F.cy F.nw S x sa pl la br h n u rd rk rt w fa so O V B hx _ _) 2 gL_law_X6_count rfl (by decide +kernel) (by rw [hRf, hRl]; decide) hx.1.1.1 (κ := 5) hx.1.1.2.1 rfl (by decide) rfl rfl (Nat.le_of_ble_eq_true rfl) dL_law_645 (by rw [hRc, hRs]; omega) (fun r T hp => ?_)
  refine h_pop Z dL_law_648 rfl ?_
  refine h_aload_n Z dL_law_649 rfl ?_
  refine h_arg X 650 1 (by omega) (by decide) dL_law_650 dL_law_651 dL_law_652 dL_law_653 dL_law_654 ?_
  refine h_arg X 655 2 (by omega) (by decide) dL_law_655 dL_law_656 dL_law_657 dL_law_658 dL_law_659 ?_
  refine h_mI Z (s_X7_count F.l F.D F.cy F.nw A m ho C R hM.inv _ _) 2 gL_law_X7_count rfl (by decide +kernel) (by rw [hRf, hRl]; decide) mP_x (κ := 6) mP_Kx rfl (by decide) rfl rfl (Nat.le_of_ble_eq_true rfl) dL_law_660 (by clear hp; rw [hRc, hRs]; omega) (fun r2 T2 hp2 => ?_)
  refine h_pop Z dL_law_663 rfl ?_
  refine h_goto Z 984 dL_law_664 (by decide) ?_
  subst hp
  subst hp2
  exact h_widen (by omega) (by omega) (nx S _ w g ⟨sa, pl, la, br, h, n, u, rd, rk, rt, fa, so, O, V, B, hx, hg, A, C, R, ho, rfl, hM, hB, hfa, hw⟩)

set_option maxRecDepth 100000 in
set_option maxHeartbeats 2000000 in
/-- container -/
theorem lw_container {F : Fx} {Q : State → Prop} {b L x m k w g : Nat} {xs : Nat → Int32} {S M : PS} (X : LX F b L xs) (hk : 6 * k + 6 ≤ L) (hI : LJ F.nw x m w g S M) (nx : ∀ (S2 M2 : PS) (w2 g2 : Nat), LJ F.nw x m w2 g2 S2 M2 → G2 F 4 S2 M2 (200 + (k + 1) + 12 * (300 - w2) + g2) (170000 + 1024 * (k + 1) + 12288 * (300 - w2) + 60000 * g2) Q 984 (lvL b x m (6 * k)) []) : G2 F 4 S M (200 + k + 12 * (300 - w) + g) (170000 + 1024 * k + 12288 * (300 - w) + 60000 * g) Q 667 (lvL b x m (6 * k)) [] := by
  obtain ⟨Z, -, -, -, hL, hRf, hRc, hRs, hRl⟩ := id X
  obtain ⟨sa, pl, la, br, h, n, u, rd, rk, rt, fa, so, O, V, B, hx, hg, A, C, R, ho, rfl, hM, hB, hfa, hw⟩ := hI
  have hw3 : w ≤ 300 := hx.1.1.2.2.2.2.2.2.2.2.2
  have hV := hx.2.2
  refine h_aload_n Z dL_law_667 rfl ?_
  refine h_arg X 668 1 (by omega) (by decide) dL_law_668 dL_law_669 dL_law_670 dL_law_671 dL_law_672 ?_
  refine h_arg X 673 2 (by omega) (by decide) dL_law_673 dL_law_674 dL_law_675 dL_law_676 dL_law_677 ?_
  refine h_arg X 678 3 (by omega) (by decide) dL_law_678 dL_law_679 dL_law_680 dL_law_681 dL_law_682 ?_
  refine h_xI Z (s_X6_container F.l F.D F.cy F.nw S x sa pl la br h n u rd rk rt w fa so O V B hx _ _ _) 3 gL_law_X6_container rfl (by decide +kernel) (by rw [hRf, hRl]; decide) hx.1.1.1 (κ := 5) hx.1.1.2.1 rfl (by decide) rfl rfl (Nat.le_of_ble_eq_true rfl) dL_law_683 (by rw [hRc, hRs]; omega) (fun r T hp => ?_)
  refine h_pop Z dL_law_686 rfl ?_
  refine h_aload_n Z dL_law_687 rfl ?_
  refine h_arg X 688 1 (by omega) (by decide) dL_law_688 dL_law_689 dL_law_690 dL_law_691 dL_law_692 ?_
  refine h_arg X 693 2 (by omega) (by decide) dL_law_693 dL_law_694 dL_law_695 dL_law_696 dL_law_697 ?_
  refine h_arg X 698 3 (by omega) (by decide) dL_law_698 dL_law_699 dL_law_700 dL_law_701 dL_law_702 ?_
  refine h_mI Z (s_X7_container F.l F.D F.cy F.nw A m ho C R hM.inv _ _ _) 3 gL_law_X7_container rfl (by decide +kernel) (by rw [hRf, hRl]; decide) mP_x (κ := 6) mP_Kx rfl (by decide) rfl rfl (Nat.le_of_ble_eq_true rfl) dL_law_703 (by clear hp; rw [hRc, hRs]; omega) (fun r2 T2 hp2 => ?_)
  refine h_pop Z dL_law_706 rfl ?_
  refine h_goto Z 984 dL_law_707 (by decide) ?_
  subst hp
  subst hp2
  exact h_widen (by omega) (by omega) (nx S _ w g ⟨sa, pl, la, br, h, n, u, rd, rk, rt, fa, so, O, V, B, hx, hg, A, C, R, ho, rfl, hM, hB, hfa, hw⟩)

set_option maxRecDepth 100000 in
set_option maxHeartbeats 2000000 in
/-- compare -/
theorem lw_compare {F : Fx} {Q : State → Prop} {b L x m k w g : Nat} {xs : Nat → Int32} {S M : PS} (X : LX F b L xs) (hk : 6 * k + 6 ≤ L) (hI : LJ F.nw x m w g S M) (nx : ∀ (S2 M2 : PS) (w2 g2 : Nat), LJ F.nw x m w2 g2 S2 M2 → G2 F 4 S2 M2 (200 + (k + 1) + 12 * (300 - w2) + g2) (170000 + 1024 * (k + 1) + 12288 * (300 - w2) + 60000 * g2) Q 984 (lvL b x m (6 * k)) []) : G2 F 4 S M (200 + k + 12 * (300 - w) + g) (170000 + 1024 * k + 12288 * (300 - w) + 60000 * g) Q 710 (lvL b x m (6 * k)) [] := by
  obtain ⟨Z, -, -, -, hL, hRf, hRc, hRs, hRl⟩ := id X
  obtain ⟨sa, pl, la, br, h, n, u, rd, rk, rt, fa, so, O, V, B, hx, hg, A, C, R, ho, rfl, hM, hB, hfa, hw⟩ := hI
  have hw3 : w ≤ 300 := hx.1.1.2.2.2.2.2.2.2.2.2
  have hV := hx.2.2
  refine h_aload_n Z dL_law_710 rfl ?_
  refine h_arg X 711 1 (by omega) (by decide) dL_law_711 dL_law_712 dL_law_713 dL_law_714 dL_law_715 ?_
  refine h_arg X 716 2 (by omega) (by decide) dL_law_716 dL_law_717 dL_law_718 dL_law_719 dL_law_720 ?_
  refine h_xI Z (s_X6_compare F.l F.D F.cy F.nw S x sa pl la br h n u rd rk rt w fa so O V B hx _ _) 2 gL_law_X6_compare rfl (by decide +kernel) (by rw [hRf, hRl]; decide) hx.1.1.1 (κ := 5) hx.1.1.2.1 rfl (by decide) rfl rfl (Nat.le_of_ble_eq_true rfl) dL_law_721 (by rw [hRc, hRs]; omega) (fun r T hp => ?_)
  refine h_pop Z dL_law_724 rfl ?_
  refine h_aload_n Z dL_law_725 rfl ?_
  refine h_arg X 726 1 (by omega) (by decide) dL_law_726 dL_law_727 dL_law_728 dL_law_729 dL_law_730 ?_
  refine h_arg X 731 2 (by omega) (by decide) dL_law_731 dL_law_732 dL_law_733 dL_law_734 dL_law_735 ?_
  refine h_mI Z (s_X7_compare F.l F.D F.cy F.nw A m ho C R hM.inv _ _) 2 gL_law_X7_compare rfl (by decide +kernel) (by rw [hRf, hRl]; decide) mP_x (κ := 6) mP_Kx rfl (by decide) rfl rfl (Nat.le_of_ble_eq_true rfl) dL_law_736 (by clear hp; rw [hRc, hRs]; omega) (fun r2 T2 hp2 => ?_)
  refine h_pop Z dL_law_739 rfl ?_
  refine h_goto Z 984 dL_law_740 (by decide) ?_
  subst hp
  subst hp2
  exact h_widen (by omega) (by omega) (nx S _ w g ⟨sa, pl, la, br, h, n, u, rd, rk, rt, fa, so, O, V, B, hx, hg, A, C, R, ho, rfl, hM, hB, hfa, hw⟩)

set_option maxRecDepth 100000 in
set_option maxHeartbeats 2000000 in
/-- write -/
theorem lw_write {F : Fx} {Q : State → Prop} {b L x m k w g : Nat} {xs : Nat → Int32} {S M : PS} (X : LX F b L xs) (hk : 6 * k + 6 ≤ L) (hI : LJ F.nw x m w g S M) (nx : ∀ (S2 M2 : PS) (w2 g2 : Nat), LJ F.nw x m w2 g2 S2 M2 → G2 F 4 S2 M2 (200 + (k + 1) + 12 * (300 - w2) + g2) (170000 + 1024 * (k + 1) + 12288 * (300 - w2) + 60000 * g2) Q 984 (lvL b x m (6 * k)) []) : G2 F 4 S M (200 + k + 12 * (300 - w) + g) (170000 + 1024 * k + 12288 * (300 - w) + 60000 * g) Q 743 (lvL b x m (6 * k)) [] := by
  obtain ⟨Z, -, -, -, hL, hRf, hRc, hRs, hRl⟩ := id X
  obtain ⟨sa, pl, la, br, h, n, u, rd, rk, rt, fa, so, O, V, B, hx, hg, A, C, R, ho, rfl, hM, hB, hfa, hw⟩ := hI
  have hw3 : w ≤ 300 := hx.1.1.2.2.2.2.2.2.2.2.2
  have hV := hx.2.2
  by_cases hyp : ∃ j : Nat, (xs (6 * k + 1)) = nI j ∧ j < 8 ∧ (seL (V j)).length ≤ 60000
  · obtain ⟨j, ej, hj, hbo⟩ := hyp
    have hX1 := f_X6_write_w F.l F.D F.cy F.nw S x sa pl la br h n u rd rk rt w fa so O V B hx j hj hbo
    rw [← ej] at hX1
    have hg2 := bg_step (u := 0) (K := (seL (V j)).length) hg
    refine h_aload_n Z dL_law_743 rfl ?_
    refine h_arg X 744 1 (by omega) (by decide) dL_law_744 dL_law_745 dL_law_746 dL_law_747 dL_law_748 ?_
    refine h_xI Z (hX1) 1 gL_law_X6_write rfl (by decide +kernel) (by rw [hRf, hRl]; decide) hx.1.1.1 (κ := 5) hx.1.1.2.1 rfl (by decide) rfl rfl (Nat.le_of_ble_eq_true rfl) dL_law_749 (by rw [hRc, hRs]; omega) (fun r T hp => ?_)
    refine h_pop Z dL_law_752 rfl ?_
    refine h_aload_n Z dL_law_753 rfl ?_
    refine h_arg X 754 1 (by omega) (by decide) dL_law_754 dL_law_755 dL_law_756 dL_law_757 dL_law_758 ?_
    refine h_mI Z (f_X7_write F.l F.D F.cy F.nw A m ho C R V hM hV _) 1 gL_law_X7_write rfl (by decide +kernel) (by rw [hRf, hRl]; decide) mP_x (κ := 6) mP_Kx rfl (by decide) rfl rfl (Nat.le_of_ble_eq_true rfl) dL_law_759 (by clear hp; rw [hRc, hRs]; omega) (fun r2 T2 hp2 => ?_)
    refine h_pop Z dL_law_762 rfl ?_
    refine h_goto Z 984 dL_law_763 (by decide) ?_
    obtain ⟨h2, O2, er, hx2⟩ := hp
    obtain ⟨Q2, er2, rfl, hq1, hq2, hq3, hq4⟩ : ∃ Q2, r2 = nI (seL (V j)).length ∧ mP A m (C, Q2) = T2 ∧ Q2.wk = R.wk ∧ Q2.fa = R.fa ∧ Q2.si = nI (seL (V j)).length ∧ ∀ i, i < (seL (V j)).length → (seL (V j)).getD i 0 < 256 ∧ Q2.bt i = nI ((seL (V j)).getD i 0) := by
      rcases hp2 with ⟨j2, hj2, ej2, hc⟩ | ⟨hno, -⟩
      · have e1 := s_eq (ej.symm.trans ej2) (by omega) (by omega)
        subst e1
        rcases hc with ⟨-, h3, Q2, h4, h5, h6, h7, h8⟩ | ⟨h3, -⟩
        · exact ⟨Q2, h3, h4, h5, h6, h7, h8⟩
        · exact absurd hbo h3
      · exact absurd ⟨j, hj, ej⟩ hno
    exact h_widen (by omega) (by omega) (nx T _ w (g + bG n 0 (seL (V j)).length) ⟨sa, pl, la, br, h2, _, _, rd, rk, rt, fa, so, O2, V, _, hx2, hg2, A, C, Q2, ho, rfl, hM, RBy.of (u := u) hq3 hbo hq4, hq2.trans hfa, hq1.trans hw⟩)
  · skip
    refine h_aload_n Z dL_law_743 rfl ?_
    refine h_arg X 744 1 (by omega) (by decide) dL_law_744 dL_law_745 dL_law_746 dL_law_747 dL_law_748 ?_
    refine h_xI Z (f_X6_write_n F.l F.D F.cy F.nw S x sa pl la br h n u rd rk rt w fa so O V B hx _ (fun j a1 a2 a3 => hyp ⟨j, a1, a2, a3⟩)) 1 gL_law_X6_write rfl (by decide +kernel) (by rw [hRf, hRl]; decide) hx.1.1.1 (κ := 5) hx.1.1.2.1 rfl (by decide) rfl rfl (Nat.le_of_ble_eq_true rfl) dL_law_749 (by rw [hRc, hRs]; omega) (fun r T hp => ?_)
    refine h_pop Z dL_law_752 rfl ?_
    refine h_aload_n Z dL_law_753 rfl ?_
    refine h_arg X 754 1 (by omega) (by decide) dL_law_754 dL_law_755 dL_law_756 dL_law_757 dL_law_758 ?_
    refine h_mI Z (f_X7_write F.l F.D F.cy F.nw A m ho C R V hM hV _) 1 gL_law_X7_write rfl (by decide +kernel) (by rw [hRf, hRl]; decide) mP_x (κ := 6) mP_Kx rfl (by decide) rfl rfl (Nat.le_of_ble_eq_true rfl) dL_law_759 (by clear hp; rw [hRc, hRs]; omega) (fun r2 T2 hp2 => ?_)
    refine h_pop Z dL_law_762 rfl ?_
    refine h_goto Z 984 dL_law_763 (by decide) ?_
    obtain ⟨rfl, er⟩ := hp
    obtain ⟨rfl, er2⟩ : mP A m (C, R) = T2 ∧ ((isS (xs (6 * k + 1)) ∧ r2 = -4) ∨ (¬ isS (xs (6 * k + 1)) ∧ r2 = -2)) := by
      rcases hp2 with ⟨j2, hj2, ej2, hc⟩ | ⟨hno, e, h⟩
      · rcases hc with ⟨h3, -⟩ | ⟨h3, e, h⟩
        · exact absurd ⟨j2, ej2, hj2, h3⟩ hyp
        · exact ⟨h, Or.inl ⟨⟨j2, hj2, ej2⟩, e⟩⟩
      · exact ⟨h, Or.inr ⟨hno, e⟩⟩
    exact h_widen (by omega) (by omega) (nx S _ w g ⟨sa, pl, la, br, h, n, u, rd, rk, rt, fa, so, O, V, B, hx, hg, A, C, R, ho, rfl, hM, hB, hfa, hw⟩)

set_option maxRecDepth 100000 in
set_option maxHeartbeats 2000000 in
/-- read -/
theorem lw_read {F : Fx} {Q : State → Prop} {b L x m k w g : Nat} {xs : Nat → Int32} {S M : PS} (X : LX F b L xs) (hk : 6 * k + 6 ≤ L) (hI : LJ F.nw x m w g S M) (nx : ∀ (S2 M2 : PS) (w2 g2 : Nat), LJ F.nw x m w2 g2 S2 M2 → G2 F 4 S2 M2 (200 + (k + 1) + 12 * (300 - w2) + g2) (170000 + 1024 * (k + 1) + 12288 * (300 - w2) + 60000 * g2) Q 984 (lvL b x m (6 * k)) []) : G2 F 4 S M (200 + k + 12 * (300 - w) + g) (170000 + 1024 * k + 12288 * (300 - w) + 60000 * g) Q 766 (lvL b x m (6 * k)) [] := by
  obtain ⟨Z, -, -, -, hL, hRf, hRc, hRs, hRl⟩ := id X
  obtain ⟨sa, pl, la, br, h, n, u, rd, rk, rt, fa, so, O, V, B, hx, hg, A, C, R, ho, rfl, hM, hB, hfa, hw⟩ := hI
  have hw3 : w ≤ 300 := hx.1.1.2.2.2.2.2.2.2.2.2
  have hV := hx.2.2
  by_cases hyp : isS (xs (6 * k + 1)) ∧ 1 ≤ w
  · obtain ⟨⟨jt, hjt, et⟩, hw1⟩ := id hyp
    have hX1 := f_X6_read_w F.l F.D F.cy F.nw S x sa pl la br h n u rd rk rt w fa so O V B hx jt hjt hw1
    rw [← et] at hX1
    have hX2 := f_X7_read_w F.l F.D F.cy F.nw A m ho C R V hM hV w hw3 hw u B hB jt hjt hw1
    rw [← et] at hX2
    refine h_aload_n Z dL_law_766 rfl ?_
    refine h_arg X 767 1 (by omega) (by decide) dL_law_767 dL_law_768 dL_law_769 dL_law_770 dL_law_771 ?_
    refine h_xI Z (hX1) 1 gL_law_X6_read rfl (by decide +kernel) (by rw [hRf, hRl]; decide) hx.1.1.1 (κ := 5) hx.1.1.2.1 rfl (by decide) rfl rfl (Nat.le_of_ble_eq_true rfl) dL_law_772 (by rw [hRc, hRs]; omega) (fun r T hp => ?_)
    refine h_pop Z dL_law_775 rfl ?_
    refine h_aload_n Z dL_law_776 rfl ?_
    refine h_arg X 777 1 (by omega) (by decide) dL_law_777 dL_law_778 dL_law_779 dL_law_780 dL_law_781 ?_
    refine h_mI Z (hX2) 1 gL_law_X7_read rfl (by decide +kernel) (by rw [hRf, hRl]; decide) mP_x (κ := 6) mP_Kx rfl (by decide) rfl rfl (Nat.le_of_ble_eq_true rfl) dL_law_782 (by clear hp; rw [hRc, hRs]; omega) (fun r2 T2 hp2 => ?_)
    refine h_pop Z dL_law_785 rfl ?_
    refine h_goto Z 984 dL_law_786 (by decide) ?_
    obtain ⟨O2, V2, fa2, hx2, hr⟩ := hp
    obtain ⟨E, Q2, V3, rfl, hq1, hB2, hM2, hr2⟩ := hp2
    rcases hr with ⟨f, g2, h3, h6, h4, h5⟩ | ⟨W, h3, h6, h4, h5⟩ <;> rcases hr2 with ⟨f2, g3, k3, k6, k4, k5⟩ | ⟨W2, k3, k6, k4, k5⟩
    · rw [h3] at k3; cases k3
      subst k5 h6
      exact h_widen (by omega) (by omega) (nx T _ (w - 1) g ⟨sa, pl, la, br, h, n, u, rd, rk, rt, _, so, O2, V2, B, hx2, hg, A, E, Q2, ho, rfl, hM2.cg h5, hB2, k6, hq1⟩)
    · rw [h3] at k3; cases k3
    · rw [h3] at k3; cases k3
    · rw [h3] at k3; cases k3
      subst k5 h6
      exact h_widen (by omega) (by omega) (nx T _ (w - 1) g ⟨sa, pl, la, br, h, n, u, rd, rk, rt, _, so, O2, V2, B, hx2, hg, A, E, Q2, ho, rfl, hM2.cg h5, hB2, k6, hq1⟩)
  · skip
    refine h_aload_n Z dL_law_766 rfl ?_
    refine h_arg X 767 1 (by omega) (by decide) dL_law_767 dL_law_768 dL_law_769 dL_law_770 dL_law_771 ?_
    refine h_xI Z (f_X6_read_n F.l F.D F.cy F.nw S x sa pl la br h n u rd rk rt w fa so O V B hx _ hyp) 1 gL_law_X6_read rfl (by decide +kernel) (by rw [hRf, hRl]; decide) hx.1.1.1 (κ := 5) hx.1.1.2.1 rfl (by decide) rfl rfl (Nat.le_of_ble_eq_true rfl) dL_law_772 (by rw [hRc, hRs]; omega) (fun r T hp => ?_)
    refine h_pop Z dL_law_775 rfl ?_
    refine h_aload_n Z dL_law_776 rfl ?_
    refine h_arg X 777 1 (by omega) (by decide) dL_law_777 dL_law_778 dL_law_779 dL_law_780 dL_law_781 ?_
    refine h_mI Z (f_X7_read_n F.l F.D F.cy F.nw A m ho C R w hw3 hw _ hyp) 1 gL_law_X7_read rfl (by decide +kernel) (by rw [hRf, hRl]; decide) mP_x (κ := 6) mP_Kx rfl (by decide) rfl rfl (Nat.le_of_ble_eq_true rfl) dL_law_782 (by clear hp; rw [hRc, hRs]; omega) (fun r2 T2 hp2 => ?_)
    refine h_pop Z dL_law_785 rfl ?_
    refine h_goto Z 984 dL_law_786 (by decide) ?_
    obtain ⟨rfl, er⟩ := hp
    obtain ⟨rfl, er2⟩ := hp2
    exact h_widen (by omega) (by omega) (nx S _ w g ⟨sa, pl, la, br, h, n, u, rd, rk, rt, fa, so, O, V, B, hx, hg, A, C, R, ho, rfl, hM, hB, hfa, hw⟩)

set_option maxRecDepth 100000 in
set_option maxHeartbeats 2000000 in
/-- fault -/
theorem lw_fault {F : Fx} {Q : State → Prop} {b L x m k w g : Nat} {xs : Nat → Int32} {S M : PS} (X : LX F b L xs) (hk : 6 * k + 6 ≤ L) (hI : LJ F.nw x m w g S M) (nx : ∀ (S2 M2 : PS) (w2 g2 : Nat), LJ F.nw x m w2 g2 S2 M2 → G2 F 4 S2 M2 (200 + (k + 1) + 12 * (300 - w2) + g2) (170000 + 1024 * (k + 1) + 12288 * (300 - w2) + 60000 * g2) Q 984 (lvL b x m (6 * k)) []) : G2 F 4 S M (200 + k + 12 * (300 - w) + g) (170000 + 1024 * k + 12288 * (300 - w) + 60000 * g) Q 789 (lvL b x m (6 * k)) [] := by
  obtain ⟨Z, -, -, -, hL, hRf, hRc, hRs, hRl⟩ := id X
  obtain ⟨sa, pl, la, br, h, n, u, rd, rk, rt, fa, so, O, V, B, hx, hg, A, C, R, ho, rfl, hM, hB, hfa, hw⟩ := hI
  have hw3 : w ≤ 300 := hx.1.1.2.2.2.2.2.2.2.2.2
  have hV := hx.2.2
  refine h_aload_n Z dL_law_789 rfl ?_
  refine h_xI Z (f_X6_fault F.l F.D F.cy F.nw S x sa pl la br h n u rd rk rt w fa so O V B hx) 0 gL_law_X6_fault rfl (by decide +kernel) (by rw [hRf, hRl]; decide) hx.1.1.1 (κ := 5) hx.1.1.2.1 rfl (by decide) rfl rfl (Nat.le_of_ble_eq_true rfl) dL_law_790 (by rw [hRc, hRs]; omega) (fun r T hp => ?_)
  refine h_pop Z dL_law_793 rfl ?_
  refine h_aload_n Z dL_law_794 rfl ?_
  refine h_mI Z (f_X7_fault F.l F.D F.cy F.nw A m ho C R) 0 gL_law_X7_fault rfl (by decide +kernel) (by rw [hRf, hRl]; decide) mP_x (κ := 6) mP_Kx rfl (by decide) rfl rfl (Nat.le_of_ble_eq_true rfl) dL_law_795 (by clear hp; rw [hRc, hRs]; omega) (fun r2 T2 hp2 => ?_)
  refine h_pop Z dL_law_798 rfl ?_
  refine h_goto Z 984 dL_law_799 (by decide) ?_
  obtain ⟨rfl, er⟩ := hp
  obtain ⟨rfl, er2⟩ := hp2
  exact h_widen (by omega) (by omega) (nx S _ w g ⟨sa, pl, la, br, h, n, u, rd, rk, rt, fa, so, O, V, B, hx, hg, A, C, R, ho, rfl, hM, hB, hfa, hw⟩)
