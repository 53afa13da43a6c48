set_option maxRecDepth 100000 in
set_option maxHeartbeats 2000000 in
/-- count -/
theorem law_count {F : Fx} {Q : State → Prop} {b L x m k w g : Nat} {xs : Nat → Int32} {S M : PS} (X : LX F b L xs) (hk : 6 * k + 6 ≤ L) (hI : LI F.nw x m w g S M) (nx : ∀ (S2 M2 : PS) (w2 g2 : Nat), LI F.nw x m w2 g2 S2 M2 → G2 F 4 S2 M2 (200 + (k + 1) + 12 * (300 - w2) + g2) (170000 + 1024 * (k + 1) + 12288 * (300 - w2) + 60000 * g2) Q 983 (lvL b x m (6 * k)) []) : G2 F 4 S M (200 + k + 12 * (300 - w) + g) (170000 + 1024 * k + 12288 * (300 - w) + 60000 * g) Q 634 (lvL b x m (6 * k)) [] := by
  obtain ⟨Z, -, -, -, hL, hRf, hRc, hRs, hRl⟩ := id X
  obtain ⟨sa, sp, pl, la, br, h, n, u, rd, rk, rt, hx, hg, A, C, R, ho, rfl, hC, hR, hw⟩ := hI
  have hw3 : w ≤ 300 := hx.2.2.2.2.2.2.2.2.1
  refine h_aload_n Z dL_law_634 rfl ?_
  refine h_arg X 635 1 (by omega) (by decide) dL_law_635 dL_law_636 dL_law_637 dL_law_638 dL_law_639 ?_
  refine h_arg X 640 2 (by omega) (by decide) dL_law_640 dL_law_641 dL_law_642 dL_law_643 dL_law_644 ?_
  refine h_xI Z (c_X6_count F.l F.D F.cy F.nw S x sa sp pl la br h n u rd rk rt w hx _ _) 2 gL_law_X6_count rfl (by decide +kernel) (by rw [hRf, hRl]; decide) hx.1 (κ := 5) hx.2.1 rfl (by decide) rfl rfl (Nat.le_of_ble_eq_true rfl) dL_law_645 (by rw [hRc, hRs]; omega) (fun r T hp => ?_)
  subst hp
  refine h_pop Z dL_law_648 rfl ?_
  refine h_aload_n Z dL_law_649 rfl ?_
  refine h_arg X 650 1 (by omega) (by decide) dL_law_650 dL_law_651 dL_law_652 dL_law_653 dL_law_654 ?_
  refine h_arg X 655 2 (by omega) (by decide) dL_law_655 dL_law_656 dL_law_657 dL_law_658 dL_law_659 ?_
  refine h_mI Z (c_X7_count F.l F.D F.cy F.nw A m ho C R hC _ _) 2 gL_law_X7_count rfl (by decide +kernel) (by rw [hRf, hRl]; decide) mP_x (κ := 6) mP_Kx rfl (by decide) rfl rfl (Nat.le_of_ble_eq_true rfl) dL_law_660 (by rw [hRc, hRs]; omega) (fun r2 T2 hp2 => ?_)
  subst hp2
  refine h_pop Z dL_law_663 rfl ?_
  refine h_goto Z 983 dL_law_664 (by decide) ?_
  exact h_widen (by omega) (by omega) (nx S _ w g ⟨sa, sp, pl, la, br, h, n, u, rd, rk, rt, hx, hg, A, C, R, ho, rfl, hC, hR, hw⟩)

set_option maxRecDepth 100000 in
set_option maxHeartbeats 2000000 in
/-- container -/
theorem law_container {F : Fx} {Q : State → Prop} {b L x m k w g : Nat} {xs : Nat → Int32} {S M : PS} (X : LX F b L xs) (hk : 6 * k + 6 ≤ L) (hI : LI F.nw x m w g S M) (nx : ∀ (S2 M2 : PS) (w2 g2 : Nat), LI F.nw x m w2 g2 S2 M2 → G2 F 4 S2 M2 (200 + (k + 1) + 12 * (300 - w2) + g2) (170000 + 1024 * (k + 1) + 12288 * (300 - w2) + 60000 * g2) Q 983 (lvL b x m (6 * k)) []) : G2 F 4 S M (200 + k + 12 * (300 - w) + g) (170000 + 1024 * k + 12288 * (300 - w) + 60000 * g) Q 667 (lvL b x m (6 * k)) [] := by
  obtain ⟨Z, -, -, -, hL, hRf, hRc, hRs, hRl⟩ := id X
  obtain ⟨sa, sp, pl, la, br, h, n, u, rd, rk, rt, hx, hg, A, C, R, ho, rfl, hC, hR, hw⟩ := hI
  have hw3 : w ≤ 300 := hx.2.2.2.2.2.2.2.2.1
  refine h_aload_n Z dL_law_667 rfl ?_
  refine h_arg X 668 1 (by omega) (by decide) dL_law_668 dL_law_669 dL_law_670 dL_law_671 dL_law_672 ?_
  refine h_arg X 673 2 (by omega) (by decide) dL_law_673 dL_law_674 dL_law_675 dL_law_676 dL_law_677 ?_
  refine h_arg X 678 3 (by omega) (by decide) dL_law_678 dL_law_679 dL_law_680 dL_law_681 dL_law_682 ?_
  refine h_xI Z (c_X6_container F.l F.D F.cy F.nw S x sa sp pl la br h n u rd rk rt w hx _ _ _) 3 gL_law_X6_container rfl (by decide +kernel) (by rw [hRf, hRl]; decide) hx.1 (κ := 5) hx.2.1 rfl (by decide) rfl rfl (Nat.le_of_ble_eq_true rfl) dL_law_683 (by rw [hRc, hRs]; omega) (fun r T hp => ?_)
  subst hp
  refine h_pop Z dL_law_686 rfl ?_
  refine h_aload_n Z dL_law_687 rfl ?_
  refine h_arg X 688 1 (by omega) (by decide) dL_law_688 dL_law_689 dL_law_690 dL_law_691 dL_law_692 ?_
  refine h_arg X 693 2 (by omega) (by decide) dL_law_693 dL_law_694 dL_law_695 dL_law_696 dL_law_697 ?_
  refine h_arg X 698 3 (by omega) (by decide) dL_law_698 dL_law_699 dL_law_700 dL_law_701 dL_law_702 ?_
  refine h_mI Z (c_X7_container F.l F.D F.cy F.nw A m ho C R hC _ _ _) 3 gL_law_X7_container rfl (by decide +kernel) (by rw [hRf, hRl]; decide) mP_x (κ := 6) mP_Kx rfl (by decide) rfl rfl (Nat.le_of_ble_eq_true rfl) dL_law_703 (by rw [hRc, hRs]; omega) (fun r2 T2 hp2 => ?_)
  subst hp2
  refine h_pop Z dL_law_706 rfl ?_
  refine h_goto Z 983 dL_law_707 (by decide) ?_
  exact h_widen (by omega) (by omega) (nx S _ w g ⟨sa, sp, pl, la, br, h, n, u, rd, rk, rt, hx, hg, A, C, R, ho, rfl, hC, hR, hw⟩)

set_option maxRecDepth 100000 in
set_option maxHeartbeats 2000000 in
/-- compare -/
theorem law_compare {F : Fx} {Q : State → Prop} {b L x m k w g : Nat} {xs : Nat → Int32} {S M : PS} (X : LX F b L xs) (hk : 6 * k + 6 ≤ L) (hI : LI F.nw x m w g S M) (nx : ∀ (S2 M2 : PS) (w2 g2 : Nat), LI F.nw x m w2 g2 S2 M2 → G2 F 4 S2 M2 (200 + (k + 1) + 12 * (300 - w2) + g2) (170000 + 1024 * (k + 1) + 12288 * (300 - w2) + 60000 * g2) Q 983 (lvL b x m (6 * k)) []) : G2 F 4 S M (200 + k + 12 * (300 - w) + g) (170000 + 1024 * k + 12288 * (300 - w) + 60000 * g) Q 710 (lvL b x m (6 * k)) [] := by
  obtain ⟨Z, -, -, -, hL, hRf, hRc, hRs, hRl⟩ := id X
  obtain ⟨sa, sp, pl, la, br, h, n, u, rd, rk, rt, hx, hg, A, C, R, ho, rfl, hC, hR, hw⟩ := hI
  have hw3 : w ≤ 300 := hx.2.2.2.2.2.2.2.2.1
  refine h_aload_n Z dL_law_710 rfl ?_
  refine h_arg X 711 1 (by omega) (by decide) dL_law_711 dL_law_712 dL_law_713 dL_law_714 dL_law_715 ?_
  refine h_arg X 716 2 (by omega) (by decide) dL_law_716 dL_law_717 dL_law_718 dL_law_719 dL_law_720 ?_
  refine h_xI Z (c_X6_compare F.l F.D F.cy F.nw S x sa sp pl la br h n u rd rk rt w hx _ _) 2 gL_law_X6_compare rfl (by decide +kernel) (by rw [hRf, hRl]; decide) hx.1 (κ := 5) hx.2.1 rfl (by decide) rfl rfl (Nat.le_of_ble_eq_true rfl) dL_law_721 (by rw [hRc, hRs]; omega) (fun r T hp => ?_)
  subst hp
  refine h_pop Z dL_law_724 rfl ?_
  refine h_aload_n Z dL_law_725 rfl ?_
  refine h_arg X 726 1 (by omega) (by decide) dL_law_726 dL_law_727 dL_law_728 dL_law_729 dL_law_730 ?_
  refine h_arg X 731 2 (by omega) (by decide) dL_law_731 dL_law_732 dL_law_733 dL_law_734 dL_law_735 ?_
  refine h_mI Z (c_X7_compare F.l F.D F.cy F.nw A m ho C R hC _ _) 2 gL_law_X7_compare rfl (by decide +kernel) (by rw [hRf, hRl]; decide) mP_x (κ := 6) mP_Kx rfl (by decide) rfl rfl (Nat.le_of_ble_eq_true rfl) dL_law_736 (by rw [hRc, hRs]; omega) (fun r2 T2 hp2 => ?_)
  subst hp2
  refine h_pop Z dL_law_739 rfl ?_
  refine h_goto Z 983 dL_law_740 (by decide) ?_
  exact h_widen (by omega) (by omega) (nx S _ w g ⟨sa, sp, pl, la, br, h, n, u, rd, rk, rt, hx, hg, A, C, R, ho, rfl, hC, hR, hw⟩)

set_option maxRecDepth 100000 in
set_option maxHeartbeats 2000000 in
/-- write -/
theorem law_write {F : Fx} {Q : State → Prop} {b L x m k w g : Nat} {xs : Nat → Int32} {S M : PS} (X : LX F b L xs) (hk : 6 * k + 6 ≤ L) (hI : LI F.nw x m w g S M) (nx : ∀ (S2 M2 : PS) (w2 g2 : Nat), LI F.nw x m w2 g2 S2 M2 → G2 F 4 S2 M2 (200 + (k + 1) + 12 * (300 - w2) + g2) (170000 + 1024 * (k + 1) + 12288 * (300 - w2) + 60000 * g2) Q 983 (lvL b x m (6 * k)) []) : G2 F 4 S M (200 + k + 12 * (300 - w) + g) (170000 + 1024 * k + 12288 * (300 - w) + 60000 * g) Q 743 (lvL b x m (6 * k)) [] := by
  obtain ⟨Z, -, -, -, hL, hRf, hRc, hRs, hRl⟩ := id X
  obtain ⟨sa, sp, pl, la, br, h, n, u, rd, rk, rt, hx, hg, A, C, R, ho, rfl, hC, hR, hw⟩ := hI
  have hw3 : w ≤ 300 := hx.2.2.2.2.2.2.2.2.1
  by_cases hyp : ∃ j s it us : Nat, (xs (6 * k + 1)) = nI j ∧ j < 8 ∧ S.rr sa j = some s ∧ SetAt S F.nw s it us ∧ boF S it us us ≤ 60000
  · obtain ⟨j, s, it, us, ej, hj, hs, hss, hbo⟩ := hyp
    have hM := c_X6_write_w F.l F.D F.cy F.nw S x sa sp pl la br h n u rd rk rt w hx j hj s it us hs hss hbo
    rw [← ej] at hM
    generalize setK (S.setI br 1 (nI 0)) it us = K at hM
    have hg2 := bg_step (u := 0) (K := K) hg
    refine h_aload_n Z dL_law_743 rfl ?_
    refine h_arg X 744 1 (by omega) (by decide) dL_law_744 dL_law_745 dL_law_746 dL_law_747 dL_law_748 ?_
    refine h_xI Z (hM) 1 gL_law_X6_write rfl (by decide +kernel) (by rw [hRf, hRl]; decide) hx.1 (κ := 5) hx.2.1 rfl (by decide) rfl rfl (Nat.le_of_ble_eq_true rfl) dL_law_749 (by rw [hRc, hRs]; omega) (fun r T hp => ?_)
    obtain ⟨h2, hp⟩ := hp
    refine h_pop Z dL_law_752 rfl ?_
    refine h_aload_n Z dL_law_753 rfl ?_
    refine h_arg X 754 1 (by omega) (by decide) dL_law_754 dL_law_755 dL_law_756 dL_law_757 dL_law_758 ?_
    refine h_mI Z (c_X7_write F.l F.D F.cy F.nw A m ho C R hC hR _) 1 gL_law_X7_write rfl (by decide +kernel) (by rw [hRf, hRl]; decide) mP_x (κ := 6) mP_Kx rfl (by decide) rfl rfl (Nat.le_of_ble_eq_true rfl) dL_law_759 (by rw [hRc, hRs]; omega) (fun r2 T2 hp2 => ?_)
    obtain ⟨Q2, rfl, hQ, hq⟩ := hp2
    refine h_pop Z dL_law_762 rfl ?_
    refine h_goto Z 983 dL_law_763 (by decide) ?_
    exact h_widen (by omega) (by omega) (nx T _ w (g + bG n 0 K) ⟨sa, sp, pl, la, br, h2, _, _, rd, rk, rt, hp, hg2, A, C, Q2, ho, rfl, hC, hQ, hq.trans hw⟩)
  · skip
    refine h_aload_n Z dL_law_743 rfl ?_
    refine h_arg X 744 1 (by omega) (by decide) dL_law_744 dL_law_745 dL_law_746 dL_law_747 dL_law_748 ?_
    refine h_xI Z (c_X6_write_n F.l F.D F.cy F.nw S x sa sp pl la br h n u rd rk rt w hx _ (fun j s it us a1 a2 a3 a4 a5 => hyp ⟨j, s, it, us, a1, a2, a3, a4, a5⟩)) 1 gL_law_X6_write rfl (by decide +kernel) (by rw [hRf, hRl]; decide) hx.1 (κ := 5) hx.2.1 rfl (by decide) rfl rfl (Nat.le_of_ble_eq_true rfl) dL_law_749 (by rw [hRc, hRs]; omega) (fun r T hp => ?_)
    subst hp
    refine h_pop Z dL_law_752 rfl ?_
    refine h_aload_n Z dL_law_753 rfl ?_
    refine h_arg X 754 1 (by omega) (by decide) dL_law_754 dL_law_755 dL_law_756 dL_law_757 dL_law_758 ?_
    refine h_mI Z (c_X7_write F.l F.D F.cy F.nw A m ho C R hC hR _) 1 gL_law_X7_write rfl (by decide +kernel) (by rw [hRf, hRl]; decide) mP_x (κ := 6) mP_Kx rfl (by decide) rfl rfl (Nat.le_of_ble_eq_true rfl) dL_law_759 (by rw [hRc, hRs]; omega) (fun r2 T2 hp2 => ?_)
    obtain ⟨Q2, rfl, hQ, hq⟩ := hp2
    refine h_pop Z dL_law_762 rfl ?_
    refine h_goto Z 983 dL_law_763 (by decide) ?_
    exact h_widen (by omega) (by omega) (nx S _ w g ⟨sa, sp, pl, la, br, h, n, u, rd, rk, rt, hx, hg, A, C, Q2, ho, rfl, hC, hQ, hq.trans hw⟩)

set_option maxRecDepth 100000 in
set_option maxHeartbeats 2000000 in
/-- read -/
theorem law_read {F : Fx} {Q : State → Prop} {b L x m k w g : Nat} {xs : Nat → Int32} {S M : PS} (X : LX F b L xs) (hk : 6 * k + 6 ≤ L) (hI : LI F.nw x m w g S M) (nx : ∀ (S2 M2 : PS) (w2 g2 : Nat), LI F.nw x m w2 g2 S2 M2 → G2 F 4 S2 M2 (200 + (k + 1) + 12 * (300 - w2) + g2) (170000 + 1024 * (k + 1) + 12288 * (300 - w2) + 60000 * g2) Q 983 (lvL b x m (6 * k)) []) : G2 F 4 S M (200 + k + 12 * (300 - w) + g) (170000 + 1024 * k + 12288 * (300 - w) + 60000 * g) Q 766 (lvL b x m (6 * k)) [] := by
  obtain ⟨Z, -, -, -, hL, hRf, hRc, hRs, hRl⟩ := id X
  obtain ⟨sa, sp, pl, la, br, h, n, u, rd, rk, rt, hx, hg, A, C, R, ho, rfl, hC, hR, hw⟩ := hI
  have hw3 : w ≤ 300 := hx.2.2.2.2.2.2.2.2.1
  by_cases hyp : isS (xs (6 * k + 1)) ∧ 1 ≤ w
  · obtain ⟨⟨jt, hjt, et⟩, hw1⟩ := id hyp
    have hM := c_X6_read_w F.l F.D F.cy F.nw S x sa sp pl la br h n u rd rk rt w hx jt hjt hw1
    rw [← et] at hM
    refine h_aload_n Z dL_law_766 rfl ?_
    refine h_arg X 767 1 (by omega) (by decide) dL_law_767 dL_law_768 dL_law_769 dL_law_770 dL_law_771 ?_
    refine h_xI Z (hM) 1 gL_law_X6_read rfl (by decide +kernel) (by rw [hRf, hRl]; decide) hx.1 (κ := 5) hx.2.1 rfl (by decide) rfl rfl (Nat.le_of_ble_eq_true rfl) dL_law_772 (by rw [hRc, hRs]; omega) (fun r T hp => ?_)
    refine h_pop Z dL_law_775 rfl ?_
    refine h_aload_n Z dL_law_776 rfl ?_
    refine h_arg X 777 1 (by omega) (by decide) dL_law_777 dL_law_778 dL_law_779 dL_law_780 dL_law_781 ?_
    refine h_mI Z (c_X7_read F.l F.D F.cy F.nw A m ho C R hC hR w hw3 hw _) 1 gL_law_X7_read rfl (by decide +kernel) (by rw [hRf, hRl]; decide) mP_x (κ := 6) mP_Kx rfl (by decide) rfl rfl (Nat.le_of_ble_eq_true rfl) dL_law_782 (by rw [hRc, hRs]; omega) (fun r2 T2 hp2 => ?_)
    obtain ⟨E, Q2, w3, rfl, hE, hQ, hq2, hk3⟩ := hp2
    have e3 : w3 = w - 1 := by
      rcases hk3 with ⟨-, -, h⟩ | ⟨h, -⟩
      · omega
      · exact absurd hyp h
    subst e3
    refine h_pop Z dL_law_785 rfl ?_
    refine h_goto Z 983 dL_law_786 (by decide) ?_
    exact h_widen (by omega) (by omega) (nx T _ (w - 1) g ⟨sa, sp, pl, la, br, h, n, u, rd, rk, rt, hp, hg, A, E, Q2, ho, rfl, hE, hQ, hq2⟩)
  · skip
    refine h_aload_n Z dL_law_766 rfl ?_
    refine h_arg X 767 1 (by omega) (by decide) dL_law_767 dL_law_768 dL_law_769 dL_law_770 dL_law_771 ?_
    refine h_xI Z (c_X6_read_n F.l F.D F.cy F.nw S x sa sp pl la br h n u rd rk rt w hx _ hyp) 1 gL_law_X6_read rfl (by decide +kernel) (by rw [hRf, hRl]; decide) hx.1 (κ := 5) hx.2.1 rfl (by decide) rfl rfl (Nat.le_of_ble_eq_true rfl) dL_law_772 (by rw [hRc, hRs]; omega) (fun r T hp => ?_)
    subst hp
    refine h_pop Z dL_law_775 rfl ?_
    refine h_aload_n Z dL_law_776 rfl ?_
    refine h_arg X 777 1 (by omega) (by decide) dL_law_777 dL_law_778 dL_law_779 dL_law_780 dL_law_781 ?_
    refine h_mI Z (c_X7_read F.l F.D F.cy F.nw A m ho C R hC hR w hw3 hw _) 1 gL_law_X7_read rfl (by decide +kernel) (by rw [hRf, hRl]; decide) mP_x (κ := 6) mP_Kx rfl (by decide) rfl rfl (Nat.le_of_ble_eq_true rfl) dL_law_782 (by rw [hRc, hRs]; omega) (fun r2 T2 hp2 => ?_)
    obtain ⟨E, Q2, w3, rfl, hE, hQ, hq2, hk3⟩ := hp2
    have e3 : w3 = w := by
      rcases hk3 with ⟨h1, h2, -⟩ | ⟨-, h⟩
      · exact absurd ⟨h1, h2⟩ hyp
      · exact h
    subst e3
    refine h_pop Z dL_law_785 rfl ?_
    refine h_goto Z 983 dL_law_786 (by decide) ?_
    exact h_widen (by omega) (by omega) (nx S _ w3 g ⟨sa, sp, pl, la, br, h, n, u, rd, rk, rt, hx, hg, A, E, Q2, ho, rfl, hE, hQ, hq2⟩)

set_option maxRecDepth 100000 in
set_option maxHeartbeats 2000000 in
/-- fault -/
theorem law_fault {F : Fx} {Q : State → Prop} {b L x m k w g : Nat} {xs : Nat → Int32} {S M : PS} (X : LX F b L xs) (hk : 6 * k + 6 ≤ L) (hI : LI F.nw x m w g S M) (nx : ∀ (S2 M2 : PS) (w2 g2 : Nat), LI F.nw x m w2 g2 S2 M2 → G2 F 4 S2 M2 (200 + (k + 1) + 12 * (300 - w2) + g2) (170000 + 1024 * (k + 1) + 12288 * (300 - w2) + 60000 * g2) Q 983 (lvL b x m (6 * k)) []) : G2 F 4 S M (200 + k + 12 * (300 - w) + g) (170000 + 1024 * k + 12288 * (300 - w) + 60000 * g) Q 789 (lvL b x m (6 * k)) [] := by
  obtain ⟨Z, -, -, -, hL, hRf, hRc, hRs, hRl⟩ := id X
  obtain ⟨sa, sp, pl, la, br, h, n, u, rd, rk, rt, hx, hg, A, C, R, ho, rfl, hC, hR, hw⟩ := hI
  have hw3 : w ≤ 300 := hx.2.2.2.2.2.2.2.2.1
  refine h_aload_n Z dL_law_789 rfl ?_
  refine h_xI Z (c_X6_fault F.l F.D F.cy F.nw S x sa sp pl la br h n u rd rk rt w hx ) 0 gL_law_X6_fault rfl (by decide +kernel) (by rw [hRf, hRl]; decide) hx.1 (κ := 5) hx.2.1 rfl (by decide) rfl rfl (Nat.le_of_ble_eq_true rfl) dL_law_790 (by rw [hRc, hRs]; omega) (fun r T hp => ?_)
  subst hp
  refine h_pop Z dL_law_793 rfl ?_
  refine h_aload_n Z dL_law_794 rfl ?_
  refine h_mI Z (c_X7_fault F.l F.D F.cy F.nw A m ho C R) 0 gL_law_X7_fault rfl (by decide +kernel) (by rw [hRf, hRl]; decide) mP_x (κ := 6) mP_Kx rfl (by decide) rfl rfl (Nat.le_of_ble_eq_true rfl) dL_law_795 (by rw [hRc, hRs]; omega) (fun r2 T2 hp2 => ?_)
  subst hp2
  refine h_pop Z dL_law_798 rfl ?_
  refine h_goto Z 983 dL_law_799 (by decide) ?_
  exact h_widen (by omega) (by omega) (nx S _ w g ⟨sa, sp, pl, la, br, h, n, u, rd, rk, rt, hx, hg, A, C, R, ho, rfl, hC, hR, hw⟩)
