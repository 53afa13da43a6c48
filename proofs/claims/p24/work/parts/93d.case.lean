set_option maxRecDepth 100000 in
set_option maxHeartbeats 2000000 in
/-- cut -/
theorem law_cut {F : Fx} {Q : State → Prop} {b L x m k w g : Nat} {xs : Nat → Int32} {S M : PS} (X : LX F b L xs) (hk : 6 * k + 6 ≤ L) (hI : LI F.nw x m w g S M) (nx : ∀ (S2 M2 : PS) (w2 g2 : Nat), LI F.nw x m w2 g2 S2 M2 → G2 F 4 S2 M2 (200 + (k + 1) + 12 * (300 - w2) + g2) (170000 + 1024 * (k + 1) + 12288 * (300 - w2) + 60000 * g2) Q 983 (lvL b x m (6 * k)) []) : G2 F 4 S M (200 + k + 12 * (300 - w) + g) (170000 + 1024 * k + 12288 * (300 - w) + 60000 * g) Q 802 (lvL b x m (6 * k)) [] := by
  obtain ⟨Z, -, -, -, hL, hRf, hRc, hRs, hRl⟩ := id X
  obtain ⟨sa, sp, pl, la, br, h, n, u, rd, rk, rt, hx, hg, A, C, R, ho, rfl, hC, hR, hw⟩ := hI
  have hw3 : w ≤ 300 := hx.2.2.2.2.2.2.2.2.1
  refine h_aload_n Z dL_law_802 rfl ?_
  refine h_arg X 803 1 (by omega) (by decide) dL_law_803 dL_law_804 dL_law_805 dL_law_806 dL_law_807 ?_
  refine h_xI Z (c_X6_cut F.l F.D F.cy F.nw S x sa sp pl la br h n u rd rk rt w hx _) 1 gL_law_X6_cut rfl (by decide +kernel) (by rw [hRf, hRl]; decide) hx.1 (κ := 5) hx.2.1 rfl (by decide) rfl rfl (Nat.le_of_ble_eq_true rfl) dL_law_808 (by rw [hRc, hRs]; omega) (fun r T hp => ?_)
  obtain ⟨u2, hp⟩ := hp
  refine h_pop Z dL_law_811 rfl ?_
  refine h_aload_n Z dL_law_812 rfl ?_
  refine h_arg X 813 1 (by omega) (by decide) dL_law_813 dL_law_814 dL_law_815 dL_law_816 dL_law_817 ?_
  refine h_mI Z (c_X7_cut F.l F.D F.cy F.nw A m ho C R hR _) 1 gL_law_X7_cut rfl (by decide +kernel) (by rw [hRf, hRl]; decide) mP_x (κ := 6) mP_Kx rfl (by decide) rfl rfl (Nat.le_of_ble_eq_true rfl) dL_law_818 (by rw [hRc, hRs]; omega) (fun r2 T2 hp2 => ?_)
  obtain ⟨Q2, rfl, hQ, hq⟩ := hp2
  refine h_pop Z dL_law_821 rfl ?_
  refine h_goto Z 983 dL_law_822 (by decide) ?_
  exact h_widen (by omega) (by omega) (nx T _ w g ⟨sa, sp, pl, la, br, h, n, u2, rd, rk, rt, hp, hg, A, C, Q2, ho, rfl, hC, hQ, hq.trans hw⟩)

set_option maxRecDepth 100000 in
set_option maxHeartbeats 2000000 in
/-- type -/
theorem law_type {F : Fx} {Q : State → Prop} {b L x m k w g : Nat} {xs : Nat → Int32} {S M : PS} (X : LX F b L xs) (hk : 6 * k + 6 ≤ L) (hI : LI F.nw x m w g S M) (nx : ∀ (S2 M2 : PS) (w2 g2 : Nat), LI F.nw x m w2 g2 S2 M2 → G2 F 4 S2 M2 (200 + (k + 1) + 12 * (300 - w2) + g2) (170000 + 1024 * (k + 1) + 12288 * (300 - w2) + 60000 * g2) Q 983 (lvL b x m (6 * k)) []) : G2 F 4 S M (200 + k + 12 * (300 - w) + g) (170000 + 1024 * k + 12288 * (300 - w) + 60000 * g) Q 825 (lvL b x m (6 * k)) [] := by
  obtain ⟨Z, -, -, -, hL, hRf, hRc, hRs, hRl⟩ := id X
  obtain ⟨sa, sp, pl, la, br, h, n, u, rd, rk, rt, hx, hg, A, C, R, ho, rfl, hC, hR, hw⟩ := hI
  have hw3 : w ≤ 300 := hx.2.2.2.2.2.2.2.2.1
  by_cases hyp : ∃ q : Nat, (xs (6 * k + 3)) = nI q ∧ q ≤ 8 ∧ u + q ≤ 60000
  · obtain ⟨q, eq, hq8, hqu⟩ := hyp
    have hM := c_X6_type_w F.l F.D F.cy F.nw S x sa sp pl la br h n u rd rk rt w hx (lgp (xs (6 * k + 1)) (xs (6 * k + (1 + 1)))) q hq8 hqu
    rw [← eq] at hM
    have hg2 := bg_step (u := u) (K := q) hg
    refine h_aload_n Z dL_law_825 rfl ?_
    refine h_lng X 826 1 (by omega) (by decide) (by decide) dL_law_826 dL_law_827 dL_law_828 dL_law_829 dL_law_830 dL_law_831 dL_law_832 dL_law_834 dL_law_835 dL_law_836 dL_law_837 dL_law_838 dL_law_839 dL_law_840 dL_law_841 dL_law_844 dL_law_845 ?_
    refine h_arg X 846 3 (by omega) (by decide) dL_law_846 dL_law_847 dL_law_848 dL_law_849 dL_law_850 ?_
    refine h_xI Z (hM) 2 gL_law_X6_type rfl (by decide +kernel) (by rw [hRf, hRl]; decide) hx.1 (κ := 5) hx.2.1 rfl (by decide) rfl rfl (Nat.le_of_ble_eq_true rfl) dL_law_851 (by rw [hRc, hRs]; omega) (fun r T hp => ?_)
    obtain ⟨h2, hp⟩ := hp
    refine h_pop Z dL_law_854 rfl ?_
    refine h_aload_n Z dL_law_855 rfl ?_
    refine h_lng X 856 1 (by omega) (by decide) (by decide) dL_law_856 dL_law_857 dL_law_858 dL_law_859 dL_law_860 dL_law_861 dL_law_862 dL_law_864 dL_law_865 dL_law_866 dL_law_867 dL_law_868 dL_law_869 dL_law_870 dL_law_871 dL_law_874 dL_law_875 ?_
    refine h_arg X 876 3 (by omega) (by decide) dL_law_876 dL_law_877 dL_law_878 dL_law_879 dL_law_880 ?_
    refine h_mI Z (c_X7_type F.l F.D F.cy F.nw A m ho C R hR _ _) 2 gL_law_X7_type rfl (by decide +kernel) (by rw [hRf, hRl]; decide) mP_x (κ := 6) mP_Kx rfl (by decide) rfl rfl (Nat.le_of_ble_eq_true rfl) dL_law_881 (by rw [hRc, hRs]; omega) (fun r2 T2 hp2 => ?_)
    obtain ⟨Q2, rfl, hQ, hq⟩ := hp2
    refine h_pop Z dL_law_884 rfl ?_
    refine h_goto Z 983 dL_law_885 (by decide) ?_
    exact h_widen (by omega) (by omega) (nx T _ w (g + bG n u q) ⟨sa, sp, pl, la, br, h2, _, _, rd, rk, rt, hp, hg2, A, C, Q2, ho, rfl, hC, hQ, hq.trans hw⟩)
  · skip
    refine h_aload_n Z dL_law_825 rfl ?_
    refine h_lng X 826 1 (by omega) (by decide) (by decide) dL_law_826 dL_law_827 dL_law_828 dL_law_829 dL_law_830 dL_law_831 dL_law_832 dL_law_834 dL_law_835 dL_law_836 dL_law_837 dL_law_838 dL_law_839 dL_law_840 dL_law_841 dL_law_844 dL_law_845 ?_
    refine h_arg X 846 3 (by omega) (by decide) dL_law_846 dL_law_847 dL_law_848 dL_law_849 dL_law_850 ?_
    refine h_xI Z (c_X6_type_n F.l F.D F.cy F.nw S x sa sp pl la br h n u rd rk rt w hx _ _ (fun q a1 a2 a3 => hyp ⟨q, a1, a2, a3⟩)) 2 gL_law_X6_type rfl (by decide +kernel) (by rw [hRf, hRl]; decide) hx.1 (κ := 5) hx.2.1 rfl (by decide) rfl rfl (Nat.le_of_ble_eq_true rfl) dL_law_851 (by rw [hRc, hRs]; omega) (fun r T hp => ?_)
    subst hp
    refine h_pop Z dL_law_854 rfl ?_
    refine h_aload_n Z dL_law_855 rfl ?_
    refine h_lng X 856 1 (by omega) (by decide) (by decide) dL_law_856 dL_law_857 dL_law_858 dL_law_859 dL_law_860 dL_law_861 dL_law_862 dL_law_864 dL_law_865 dL_law_866 dL_law_867 dL_law_868 dL_law_869 dL_law_870 dL_law_871 dL_law_874 dL_law_875 ?_
    refine h_arg X 876 3 (by omega) (by decide) dL_law_876 dL_law_877 dL_law_878 dL_law_879 dL_law_880 ?_
    refine h_mI Z (c_X7_type F.l F.D F.cy F.nw A m ho C R hR _ _) 2 gL_law_X7_type rfl (by decide +kernel) (by rw [hRf, hRl]; decide) mP_x (κ := 6) mP_Kx rfl (by decide) rfl rfl (Nat.le_of_ble_eq_true rfl) dL_law_881 (by rw [hRc, hRs]; omega) (fun r2 T2 hp2 => ?_)
    obtain ⟨Q2, rfl, hQ, hq⟩ := hp2
    refine h_pop Z dL_law_884 rfl ?_
    refine h_goto Z 983 dL_law_885 (by decide) ?_
    exact h_widen (by omega) (by omega) (nx S _ w g ⟨sa, sp, pl, la, br, h, n, u, rd, rk, rt, hx, hg, A, C, Q2, ho, rfl, hC, hQ, hq.trans hw⟩)

set_option maxRecDepth 100000 in
set_option maxHeartbeats 2000000 in
/-- at -/
theorem law_at {F : Fx} {Q : State → Prop} {b L x m k w g : Nat} {xs : Nat → Int32} {S M : PS} (X : LX F b L xs) (hk : 6 * k + 6 ≤ L) (hI : LI F.nw x m w g S M) (nx : ∀ (S2 M2 : PS) (w2 g2 : Nat), LI F.nw x m w2 g2 S2 M2 → G2 F 4 S2 M2 (200 + (k + 1) + 12 * (300 - w2) + g2) (170000 + 1024 * (k + 1) + 12288 * (300 - w2) + 60000 * g2) Q 983 (lvL b x m (6 * k)) []) : G2 F 4 S M (200 + k + 12 * (300 - w) + g) (170000 + 1024 * k + 12288 * (300 - w) + 60000 * g) Q 888 (lvL b x m (6 * k)) [] := by
  obtain ⟨Z, -, -, -, hL, hRf, hRc, hRs, hRl⟩ := id X
  obtain ⟨sa, sp, pl, la, br, h, n, u, rd, rk, rt, hx, hg, A, C, R, ho, rfl, hC, hR, hw⟩ := hI
  have hw3 : w ≤ 300 := hx.2.2.2.2.2.2.2.2.1
  refine h_aload_n Z dL_law_888 rfl ?_
  refine h_arg X 889 1 (by omega) (by decide) dL_law_889 dL_law_890 dL_law_891 dL_law_892 dL_law_893 ?_
  refine h_xI Z (c_X6_at F.l F.D F.cy F.nw S x sa sp pl la br h n u rd rk rt w hx _) 1 gL_law_X6_at rfl (by decide +kernel) (by rw [hRf, hRl]; decide) hx.1 (κ := 5) hx.2.1 rfl (by decide) rfl rfl (Nat.le_of_ble_eq_true rfl) dL_law_894 (by rw [hRc, hRs]; omega) (fun r T hp => ?_)
  subst hp
  refine h_pop Z dL_law_897 rfl ?_
  refine h_aload_n Z dL_law_898 rfl ?_
  refine h_arg X 899 1 (by omega) (by decide) dL_law_899 dL_law_900 dL_law_901 dL_law_902 dL_law_903 ?_
  refine h_mI Z (c_X7_at F.l F.D F.cy F.nw A m ho C R hR _) 1 gL_law_X7_at rfl (by decide +kernel) (by rw [hRf, hRl]; decide) mP_x (κ := 6) mP_Kx rfl (by decide) rfl rfl (Nat.le_of_ble_eq_true rfl) dL_law_904 (by rw [hRc, hRs]; omega) (fun r2 T2 hp2 => ?_)
  subst hp2
  refine h_pop Z dL_law_907 rfl ?_
  refine h_goto Z 983 dL_law_908 (by decide) ?_
  exact h_widen (by omega) (by omega) (nx S _ w g ⟨sa, sp, pl, la, br, h, n, u, rd, rk, rt, hx, hg, A, C, R, ho, rfl, hC, hR, hw⟩)

set_option maxRecDepth 100000 in
set_option maxHeartbeats 2000000 in
/-- alter -/
theorem law_alter {F : Fx} {Q : State → Prop} {b L x m k w g : Nat} {xs : Nat → Int32} {S M : PS} (X : LX F b L xs) (hk : 6 * k + 6 ≤ L) (hI : LI F.nw x m w g S M) (nx : ∀ (S2 M2 : PS) (w2 g2 : Nat), LI F.nw x m w2 g2 S2 M2 → G2 F 4 S2 M2 (200 + (k + 1) + 12 * (300 - w2) + g2) (170000 + 1024 * (k + 1) + 12288 * (300 - w2) + 60000 * g2) Q 983 (lvL b x m (6 * k)) []) : G2 F 4 S M (200 + k + 12 * (300 - w) + g) (170000 + 1024 * k + 12288 * (300 - w) + 60000 * g) Q 911 (lvL b x m (6 * k)) [] := by
  obtain ⟨Z, -, -, -, hL, hRf, hRc, hRs, hRl⟩ := id X
  obtain ⟨sa, sp, pl, la, br, h, n, u, rd, rk, rt, hx, hg, A, C, R, ho, rfl, hC, hR, hw⟩ := hI
  have hw3 : w ≤ 300 := hx.2.2.2.2.2.2.2.2.1
  refine h_aload_n Z dL_law_911 rfl ?_
  refine h_arg X 912 1 (by omega) (by decide) dL_law_912 dL_law_913 dL_law_914 dL_law_915 dL_law_916 ?_
  refine h_arg X 917 2 (by omega) (by decide) dL_law_917 dL_law_918 dL_law_919 dL_law_920 dL_law_921 ?_
  refine h_xI Z (c_X6_alter F.l F.D F.cy F.nw S x sa sp pl la br h n u rd rk rt w hx _ _) 2 gL_law_X6_alter rfl (by decide +kernel) (by rw [hRf, hRl]; decide) hx.1 (κ := 5) hx.2.1 rfl (by decide) rfl rfl (Nat.le_of_ble_eq_true rfl) dL_law_922 (by rw [hRc, hRs]; omega) (fun r T hp => ?_)
  refine h_pop Z dL_law_925 rfl ?_
  refine h_aload_n Z dL_law_926 rfl ?_
  refine h_arg X 927 1 (by omega) (by decide) dL_law_927 dL_law_928 dL_law_929 dL_law_930 dL_law_931 ?_
  refine h_arg X 932 2 (by omega) (by decide) dL_law_932 dL_law_933 dL_law_934 dL_law_935 dL_law_936 ?_
  refine h_mI Z (c_X7_alter F.l F.D F.cy F.nw A m ho C R hR _ _) 2 gL_law_X7_alter rfl (by decide +kernel) (by rw [hRf, hRl]; decide) mP_x (κ := 6) mP_Kx rfl (by decide) rfl rfl (Nat.le_of_ble_eq_true rfl) dL_law_937 (by rw [hRc, hRs]; omega) (fun r2 T2 hp2 => ?_)
  obtain ⟨Q2, rfl, hQ, hq⟩ := hp2
  refine h_pop Z dL_law_940 rfl ?_
  refine h_goto Z 983 dL_law_941 (by decide) ?_
  exact h_widen (by omega) (by omega) (nx T _ w g ⟨sa, sp, pl, la, br, h, n, u, rd, rk, rt, hp, hg, A, C, Q2, ho, rfl, hC, hQ, hq.trans hw⟩)

set_option maxRecDepth 100000 in
set_option maxHeartbeats 2000000 in
/-- work -/
theorem law_work {F : Fx} {Q : State → Prop} {b L x m k w g : Nat} {xs : Nat → Int32} {S M : PS} (X : LX F b L xs) (hk : 6 * k + 6 ≤ L) (hI : LI F.nw x m w g S M) (nx : ∀ (S2 M2 : PS) (w2 g2 : Nat), LI F.nw x m w2 g2 S2 M2 → G2 F 4 S2 M2 (200 + (k + 1) + 12 * (300 - w2) + g2) (170000 + 1024 * (k + 1) + 12288 * (300 - w2) + 60000 * g2) Q 983 (lvL b x m (6 * k)) []) : G2 F 4 S M (200 + k + 12 * (300 - w) + g) (170000 + 1024 * k + 12288 * (300 - w) + 60000 * g) Q 944 (lvL b x m (6 * k)) [] := by
  obtain ⟨Z, -, -, -, hL, hRf, hRc, hRs, hRl⟩ := id X
  obtain ⟨sa, sp, pl, la, br, h, n, u, rd, rk, rt, hx, hg, A, C, R, ho, rfl, hC, hR, hw⟩ := hI
  have hw3 : w ≤ 300 := hx.2.2.2.2.2.2.2.2.1
  refine h_aload_n Z dL_law_944 rfl ?_
  refine h_xI Z (c_X6_work F.l F.D F.cy F.nw S x hx.1 hx.2.1) 0 gL_law_X6_work rfl (by decide +kernel) (by rw [hRf, hRl]; decide) hx.1 (κ := 5) hx.2.1 rfl (by decide) rfl rfl (Nat.le_of_ble_eq_true rfl) dL_law_945 (by rw [hRc, hRs]; omega) (fun r T hp => ?_)
  obtain ⟨rfl, er⟩ := hp
  refine h_aload_n Z dL_law_948 rfl ?_
  refine h_mI Z (c_X7_work F.l F.D F.cy F.nw A m ho C R) 0 gL_law_X7_work rfl (by decide +kernel) (by rw [hRf, hRl]; decide) mP_x (κ := 6) mP_Kx rfl (by decide) rfl rfl (Nat.le_of_ble_eq_true rfl) dL_law_949 (by rw [hRc, hRs]; omega) (fun r2 T2 hp2 => ?_)
  obtain ⟨rfl, er2⟩ := hp2
  refine h_icmp_eq Z 983 dL_law_952 (by decide) (fun hc => ?_) (fun hc => absurd (by rw [er, er2, hw]; exact hx.2.2.2.2.2.2.2.1) hc)
  exact h_widen (by omega) (by omega) (nx S _ w g ⟨sa, sp, pl, la, br, h, n, u, rd, rk, rt, hx, hg, A, C, R, ho, rfl, hC, hR, hw⟩)

set_option maxRecDepth 100000 in
set_option maxHeartbeats 2000000 in
/-- size -/
theorem law_size {F : Fx} {Q : State → Prop} {b L x m k w g : Nat} {xs : Nat → Int32} {S M : PS} (X : LX F b L xs) (hk : 6 * k + 6 ≤ L) (hI : LI F.nw x m w g S M) (nx : ∀ (S2 M2 : PS) (w2 g2 : Nat), LI F.nw x m w2 g2 S2 M2 → G2 F 4 S2 M2 (200 + (k + 1) + 12 * (300 - w2) + g2) (170000 + 1024 * (k + 1) + 12288 * (300 - w2) + 60000 * g2) Q 983 (lvL b x m (6 * k)) []) : G2 F 4 S M (200 + k + 12 * (300 - w) + g) (170000 + 1024 * k + 12288 * (300 - w) + 60000 * g) Q 957 (lvL b x m (6 * k)) [] := by
  obtain ⟨Z, -, -, -, hL, hRf, hRc, hRs, hRl⟩ := id X
  obtain ⟨sa, sp, pl, la, br, h, n, u, rd, rk, rt, hx, hg, A, C, R, ho, rfl, hC, hR, hw⟩ := hI
  have hw3 : w ≤ 300 := hx.2.2.2.2.2.2.2.2.1
  refine h_aload_n Z dL_law_957 rfl ?_
  refine h_xI Z (c_X6_size F.l F.D F.cy F.nw S x sa sp pl la br h n u rd rk rt w hx ) 0 gL_law_X6_size rfl (by decide +kernel) (by rw [hRf, hRl]; decide) hx.1 (κ := 5) hx.2.1 rfl (by decide) rfl rfl (Nat.le_of_ble_eq_true rfl) dL_law_958 (by rw [hRc, hRs]; omega) (fun r T hp => ?_)
  subst hp
  refine h_pop Z dL_law_961 rfl ?_
  refine h_aload_n Z dL_law_962 rfl ?_
  refine h_mI Z (c_X7_size F.l F.D F.cy F.nw A m ho C R) 0 gL_law_X7_size rfl (by decide +kernel) (by rw [hRf, hRl]; decide) mP_x (κ := 6) mP_Kx rfl (by decide) rfl rfl (Nat.le_of_ble_eq_true rfl) dL_law_963 (by rw [hRc, hRs]; omega) (fun r2 T2 hp2 => ?_)
  subst hp2
  refine h_pop Z dL_law_966 rfl ?_
  refine h_goto Z 983 dL_law_967 (by decide) ?_
  exact h_widen (by omega) (by omega) (nx S _ w g ⟨sa, sp, pl, la, br, h, n, u, rd, rk, rt, hx, hg, A, C, R, ho, rfl, hC, hR, hw⟩)

set_option maxRecDepth 100000 in
set_option maxHeartbeats 2000000 in
/-- digest -/
theorem law_digest {F : Fx} {Q : State → Prop} {b L x m k w g : Nat} {xs : Nat → Int32} {S M : PS} (X : LX F b L xs) (hk : 6 * k + 6 ≤ L) (hI : LI F.nw x m w g S M) (nx : ∀ (S2 M2 : PS) (w2 g2 : Nat), LI F.nw x m w2 g2 S2 M2 → G2 F 4 S2 M2 (200 + (k + 1) + 12 * (300 - w2) + g2) (170000 + 1024 * (k + 1) + 12288 * (300 - w2) + 60000 * g2) Q 983 (lvL b x m (6 * k)) []) : G2 F 4 S M (200 + k + 12 * (300 - w) + g) (170000 + 1024 * k + 12288 * (300 - w) + 60000 * g) Q 970 (lvL b x m (6 * k)) [] := by
  obtain ⟨Z, -, -, -, hL, hRf, hRc, hRs, hRl⟩ := id X
  obtain ⟨sa, sp, pl, la, br, h, n, u, rd, rk, rt, hx, hg, A, C, R, ho, rfl, hC, hR, hw⟩ := hI
  have hw3 : w ≤ 300 := hx.2.2.2.2.2.2.2.2.1
  refine h_aload_n Z dL_law_970 rfl ?_
  refine h_xL Z (c_X6_digest F.l F.D F.cy F.nw S x sa sp pl la br h n u rd rk rt w hx ) 0 gL_law_X6_digest rfl (by decide +kernel) (by rw [hRf, hRl]; decide) hx.1 (κ := 5) hx.2.1 rfl (by decide) rfl rfl (Nat.le_of_ble_eq_true rfl) dL_law_971 (by rw [hRc, hRs]; omega) (fun r T hp => ?_)
  subst hp
  refine h_pop2 Z dL_law_974 rfl ?_
  refine h_aload_n Z dL_law_975 rfl ?_
  refine h_mL Z (c_X7_digest F.l F.D F.cy F.nw A m ho C R hC) 0 gL_law_X7_digest rfl (by decide +kernel) (by rw [hRf, hRl]; decide) mP_x (κ := 6) mP_Kx rfl (by decide) rfl rfl (Nat.le_of_ble_eq_true rfl) dL_law_976 (by rw [hRc, hRs]; omega) (fun r2 T2 hp2 => ?_)
  subst hp2
  refine h_pop2 Z dL_law_979 rfl ?_
  refine h_goto Z 983 dL_law_980 (by decide) ?_
  exact h_widen (by omega) (by omega) (nx S _ w g ⟨sa, sp, pl, la, br, h, n, u, rd, rk, rt, hx, hg, A, C, R, ho, rfl, hC, hR, hw⟩)
