set_option maxRecDepth 100000 in
set_option maxHeartbeats 2000000 in
/-- cut -/
theorem lw_cut {F : Fx} {Q : State → Prop} {b L x m k w g : Nat} {xs : Nat → Int32} {S M : PS} (X : LX F b L xs) (hk : 6 * k + 6 ≤ L) (hI : LJ F.nw x m w g S M) (nx : ∀ (S2 M2 : PS) (w2 g2 : Nat), LJ F.nw x m w2 g2 S2 M2 → G2 F 4 S2 M2 (200 + (k + 1) + 12 * (300 - w2) + g2) (170000 + 1024 * (k + 1) + 12288 * (300 - w2) + 60000 * g2) Q 984 (lvL b x m (6 * k)) []) : G2 F 4 S M (200 + k + 12 * (300 - w) + g) (170000 + 1024 * k + 12288 * (300 - w) + 60000 * g) Q 802 (lvL b x m (6 * k)) [] := by
  obtain ⟨Z, -, -, -, hL, hRf, hRc, hRs, hRl⟩ := id X
  obtain ⟨sa, pl, la, br, h, n, u, rd, rk, rt, fa, so, O, V, B, hx, hg, A, C, R, ho, rfl, hM, hB, hfa, hw⟩ := hI
  have hw3 : w ≤ 300 := hx.1.1.2.2.2.2.2.2.2.2.2
  have hV := hx.2.2
  refine h_aload_n Z dL_law_802 rfl ?_
  refine h_arg X 803 1 (by omega) (by decide) dL_law_803 dL_law_804 dL_law_805 dL_law_806 dL_law_807 ?_
  refine h_xI Z (f_X6_cut F.l F.D F.cy F.nw S x sa pl la br h n u rd rk rt w fa so O V B hx _) 1 gL_law_X6_cut rfl (by decide +kernel) (by rw [hRf, hRl]; decide) hx.1.1.1 (κ := 5) hx.1.1.2.1 rfl (by decide) rfl rfl (Nat.le_of_ble_eq_true rfl) dL_law_808 (by rw [hRc, hRs]; omega) (fun r T hp => ?_)
  refine h_pop Z dL_law_811 rfl ?_
  refine h_aload_n Z dL_law_812 rfl ?_
  refine h_arg X 813 1 (by omega) (by decide) dL_law_813 dL_law_814 dL_law_815 dL_law_816 dL_law_817 ?_
  refine h_mI Z (f_X7_cut F.l F.D F.cy F.nw A m ho C R u B hB _) 1 gL_law_X7_cut rfl (by decide +kernel) (by rw [hRf, hRl]; decide) mP_x (κ := 6) mP_Kx rfl (by decide) rfl rfl (Nat.le_of_ble_eq_true rfl) dL_law_818 (by clear hp; rw [hRc, hRs]; omega) (fun r2 T2 hp2 => ?_)
  refine h_pop Z dL_law_821 rfl ?_
  refine h_goto Z 984 dL_law_822 (by decide) ?_
  rcases hp with ⟨j, hj, ej, er, O2, hx2⟩ | ⟨hno, er, rfl⟩ <;> rcases hp2 with ⟨j2, hj2, ej2, er2, Q2, rfl, hq1, hq2, hB2⟩ | ⟨hno2, er2, rfl⟩
  · have hu6 := hB.2.1
    have e1 := s_eq (ej.symm.trans ej2) (by omega) (by omega)
    subst e1
    exact h_widen (by omega) (by omega) (nx T _ w g ⟨sa, pl, la, br, h, n, _, rd, rk, rt, fa, so, O2, V, B, hx2, hg, A, C, Q2, ho, rfl, hM, hB2, hq2.trans hfa, hq1.trans hw⟩)
  · exact absurd ⟨j, hj, ej⟩ hno2
  · exact absurd ⟨j2, hj2, ej2⟩ hno
  · exact h_widen (by omega) (by omega) (nx S _ w g ⟨sa, pl, la, br, h, n, u, rd, rk, rt, fa, so, O, V, B, hx, hg, A, C, R, ho, rfl, hM, hB, hfa, hw⟩)

set_option maxRecDepth 100000 in
set_option maxHeartbeats 2000000 in
/-- type -/
theorem lw_type {F : Fx} {Q : State → Prop} {b L x m k w g : Nat} {xs : Nat → Int32} {S M : PS} (X : LX F b L xs) (hk : 6 * k + 6 ≤ L) (hI : LJ F.nw x m w g S M) (nx : ∀ (S2 M2 : PS) (w2 g2 : Nat), LJ F.nw x m w2 g2 S2 M2 → G2 F 4 S2 M2 (200 + (k + 1) + 12 * (300 - w2) + g2) (170000 + 1024 * (k + 1) + 12288 * (300 - w2) + 60000 * g2) Q 984 (lvL b x m (6 * k)) []) : G2 F 4 S M (200 + k + 12 * (300 - w) + g) (170000 + 1024 * k + 12288 * (300 - w) + 60000 * g) Q 825 (lvL b x m (6 * k)) [] := by
  obtain ⟨Z, -, -, -, hL, hRf, hRc, hRs, hRl⟩ := id X
  obtain ⟨sa, pl, la, br, h, n, u, rd, rk, rt, fa, so, O, V, B, hx, hg, A, C, R, ho, rfl, hM, hB, hfa, hw⟩ := hI
  have hw3 : w ≤ 300 := hx.1.1.2.2.2.2.2.2.2.2.2
  have hV := hx.2.2
  by_cases hyp : ∃ q : Nat, q ≤ 8 ∧ u + q ≤ 60000 ∧ (xs (6 * k + 3)) = nI q
  · obtain ⟨q, hq8, hqu, eq⟩ := id hyp
    have hX1 := f_X6_type_w F.l F.D F.cy F.nw S x sa pl la br h n u rd rk rt w fa so O V B hx (wv (lgp (xs (6 * k + 1)) (xs (6 * k + (1 + 1))))) (wv_lt _) q hq8 hqu
    rw [← eq, lN_wv] at hX1
    have hg2 := bg_step (u := u) (K := q) hg
    refine h_aload_n Z dL_law_825 rfl ?_
    refine h_lng X 826 1 (by omega) (by decide) (by decide) dL_law_826 dL_law_827 dL_law_828 dL_law_829 dL_law_830 dL_law_831 dL_law_832 dL_law_834 dL_law_835 dL_law_836 dL_law_837 dL_law_838 dL_law_839 dL_law_840 dL_law_841 dL_law_844 dL_law_845 ?_
    refine h_arg X 846 3 (by omega) (by decide) dL_law_846 dL_law_847 dL_law_848 dL_law_849 dL_law_850 ?_
    refine h_xI Z (hX1) 2 gL_law_X6_type rfl (by decide +kernel) (by rw [hRf, hRl]; decide) hx.1.1.1 (κ := 5) hx.1.1.2.1 rfl (by decide) rfl rfl (Nat.le_of_ble_eq_true rfl) dL_law_851 (by rw [hRc, hRs]; omega) (fun r T hp => ?_)
    refine h_pop Z dL_law_854 rfl ?_
    refine h_aload_n Z dL_law_855 rfl ?_
    refine h_lng X 856 1 (by omega) (by decide) (by decide) dL_law_856 dL_law_857 dL_law_858 dL_law_859 dL_law_860 dL_law_861 dL_law_862 dL_law_864 dL_law_865 dL_law_866 dL_law_867 dL_law_868 dL_law_869 dL_law_870 dL_law_871 dL_law_874 dL_law_875 ?_
    refine h_arg X 876 3 (by omega) (by decide) dL_law_876 dL_law_877 dL_law_878 dL_law_879 dL_law_880 ?_
    refine h_mI Z (f_X7_type F.l F.D F.cy F.nw A m ho C R u B hB _ _) 2 gL_law_X7_type rfl (by decide +kernel) (by rw [hRf, hRl]; decide) mP_x (κ := 6) mP_Kx rfl (by decide) rfl rfl (Nat.le_of_ble_eq_true rfl) dL_law_881 (by clear hp; rw [hRc, hRs]; omega) (fun r2 T2 hp2 => ?_)
    refine h_pop Z dL_law_884 rfl ?_
    refine h_goto Z 984 dL_law_885 (by decide) ?_
    obtain ⟨h2, O2, er, hx2⟩ := hp
    obtain ⟨Q2, er2, rfl, hq1, hq2, hB2⟩ : ∃ Q2, r2 = nI (u + q) ∧ mP A m (C, Q2) = T2 ∧ Q2.wk = R.wk ∧ Q2.fa = R.fa ∧ RBy Q2 (u + q) (ptB B u (wv (lgp (xs (6 * k + 1)) (xs (6 * k + (1 + 1)))))) := by
      rcases hp2 with ⟨q2, h3, h4, h5, h6, Q2, h7, h8, h9, h10⟩ | ⟨hno, -⟩
      · have e1 := s_eq (eq.symm.trans h5) (by omega) (by omega)
        subst e1
        exact ⟨Q2, h6, h7, h8, h9, h10⟩
      · exact absurd hyp hno
    exact h_widen (by omega) (by omega) (nx T _ w (g + bG n u q) ⟨sa, pl, la, br, h2, _, _, rd, rk, rt, fa, so, O2, V, _, hx2, hg2, A, C, Q2, ho, rfl, hM, hB2, hq2.trans hfa, hq1.trans hw⟩)
  · skip
    refine h_aload_n Z dL_law_825 rfl ?_
    refine h_lng X 826 1 (by omega) (by decide) (by decide) dL_law_826 dL_law_827 dL_law_828 dL_law_829 dL_law_830 dL_law_831 dL_law_832 dL_law_834 dL_law_835 dL_law_836 dL_law_837 dL_law_838 dL_law_839 dL_law_840 dL_law_841 dL_law_844 dL_law_845 ?_
    refine h_arg X 846 3 (by omega) (by decide) dL_law_846 dL_law_847 dL_law_848 dL_law_849 dL_law_850 ?_
    refine h_xI Z (f_X6_type_n F.l F.D F.cy F.nw S x sa pl la br h n u rd rk rt w fa so O V B hx _ _ (fun q a1 a2 a3 => hyp ⟨q, a2, a3, a1⟩)) 2 gL_law_X6_type rfl (by decide +kernel) (by rw [hRf, hRl]; decide) hx.1.1.1 (κ := 5) hx.1.1.2.1 rfl (by decide) rfl rfl (Nat.le_of_ble_eq_true rfl) dL_law_851 (by rw [hRc, hRs]; omega) (fun r T hp => ?_)
    refine h_pop Z dL_law_854 rfl ?_
    refine h_aload_n Z dL_law_855 rfl ?_
    refine h_lng X 856 1 (by omega) (by decide) (by decide) dL_law_856 dL_law_857 dL_law_858 dL_law_859 dL_law_860 dL_law_861 dL_law_862 dL_law_864 dL_law_865 dL_law_866 dL_law_867 dL_law_868 dL_law_869 dL_law_870 dL_law_871 dL_law_874 dL_law_875 ?_
    refine h_arg X 876 3 (by omega) (by decide) dL_law_876 dL_law_877 dL_law_878 dL_law_879 dL_law_880 ?_
    refine h_mI Z (f_X7_type F.l F.D F.cy F.nw A m ho C R u B hB _ _) 2 gL_law_X7_type rfl (by decide +kernel) (by rw [hRf, hRl]; decide) mP_x (κ := 6) mP_Kx rfl (by decide) rfl rfl (Nat.le_of_ble_eq_true rfl) dL_law_881 (by clear hp; rw [hRc, hRs]; omega) (fun r2 T2 hp2 => ?_)
    refine h_pop Z dL_law_884 rfl ?_
    refine h_goto Z 984 dL_law_885 (by decide) ?_
    obtain ⟨rfl, er⟩ := hp
    obtain ⟨rfl, er2⟩ : mP A m (C, R) = T2 ∧ (((∃ z : Nat, z ≤ 8 ∧ (xs (6 * k + 3)) = nI z) ∧ r2 = -4) ∨ ((¬ ∃ z : Nat, z ≤ 8 ∧ (xs (6 * k + 3)) = nI z) ∧ r2 = -2)) := by
      rcases hp2 with ⟨q2, h3, h4, h5, -⟩ | ⟨-, h, e⟩
      · exact absurd ⟨q2, h3, h4, h5⟩ hyp
      · exact ⟨h, e⟩
    exact h_widen (by omega) (by omega) (nx S _ w g ⟨sa, pl, la, br, h, n, u, rd, rk, rt, fa, so, O, V, B, hx, hg, A, C, R, ho, rfl, hM, hB, hfa, hw⟩)

set_option maxRecDepth 100000 in
set_option maxHeartbeats 2000000 in
/-- at -/
theorem lw_at {F : Fx} {Q : State → Prop} {b L x m k w g : Nat} {xs : Nat → Int32} {S M : PS} (X : LX F b L xs) (hk : 6 * k + 6 ≤ L) (hI : LJ F.nw x m w g S M) (nx : ∀ (S2 M2 : PS) (w2 g2 : Nat), LJ F.nw x m w2 g2 S2 M2 → G2 F 4 S2 M2 (200 + (k + 1) + 12 * (300 - w2) + g2) (170000 + 1024 * (k + 1) + 12288 * (300 - w2) + 60000 * g2) Q 984 (lvL b x m (6 * k)) []) : G2 F 4 S M (200 + k + 12 * (300 - w) + g) (170000 + 1024 * k + 12288 * (300 - w) + 60000 * g) Q 888 (lvL b x m (6 * k)) [] := by
  obtain ⟨Z, -, -, -, hL, hRf, hRc, hRs, hRl⟩ := id X
  obtain ⟨sa, pl, la, br, h, n, u, rd, rk, rt, fa, so, O, V, B, hx, hg, A, C, R, ho, rfl, hM, hB, hfa, hw⟩ := hI
  have hw3 : w ≤ 300 := hx.1.1.2.2.2.2.2.2.2.2.2
  have hV := hx.2.2
  refine h_aload_n Z dL_law_888 rfl ?_
  refine h_arg X 889 1 (by omega) (by decide) dL_law_889 dL_law_890 dL_law_891 dL_law_892 dL_law_893 ?_
  refine h_xI Z (f_X6_at F.l F.D F.cy F.nw S x sa pl la br h n u rd rk rt w fa so O V B hx _) 1 gL_law_X6_at rfl (by decide +kernel) (by rw [hRf, hRl]; decide) hx.1.1.1 (κ := 5) hx.1.1.2.1 rfl (by decide) rfl rfl (Nat.le_of_ble_eq_true rfl) dL_law_894 (by rw [hRc, hRs]; omega) (fun r T hp => ?_)
  refine h_pop Z dL_law_897 rfl ?_
  refine h_aload_n Z dL_law_898 rfl ?_
  refine h_arg X 899 1 (by omega) (by decide) dL_law_899 dL_law_900 dL_law_901 dL_law_902 dL_law_903 ?_
  refine h_mI Z (f_X7_at F.l F.D F.cy F.nw A m ho C R u B hB _) 1 gL_law_X7_at rfl (by decide +kernel) (by rw [hRf, hRl]; decide) mP_x (κ := 6) mP_Kx rfl (by decide) rfl rfl (Nat.le_of_ble_eq_true rfl) dL_law_904 (by clear hp; rw [hRc, hRs]; omega) (fun r2 T2 hp2 => ?_)
  refine h_pop Z dL_law_907 rfl ?_
  refine h_goto Z 984 dL_law_908 (by decide) ?_
  obtain ⟨rfl, hr⟩ := hp
  obtain ⟨rfl, hr2⟩ := hp2
  have her : r = r2 := by
    have hu6 := hB.2.1
    rcases hr with ⟨j, hj, ej, e⟩ | ⟨h1, e⟩ <;> rcases hr2 with ⟨j2, hj2, ej2, e2⟩ | ⟨h2, e2⟩
    · have e1 := s_eq (ej.symm.trans ej2) (by omega) (by omega)
      subst e1; exact e.trans e2.symm
    · exact absurd ⟨j, hj, ej⟩ h2
    · exact absurd ⟨j2, hj2, ej2⟩ h1
    · exact e.trans e2.symm
  exact h_widen (by omega) (by omega) (nx S _ w g ⟨sa, pl, la, br, h, n, u, rd, rk, rt, fa, so, O, V, B, hx, hg, A, C, R, ho, rfl, hM, hB, hfa, hw⟩)

set_option maxRecDepth 100000 in
set_option maxHeartbeats 2000000 in
/-- alter -/
theorem lw_alter {F : Fx} {Q : State → Prop} {b L x m k w g : Nat} {xs : Nat → Int32} {S M : PS} (X : LX F b L xs) (hk : 6 * k + 6 ≤ L) (hI : LJ F.nw x m w g S M) (nx : ∀ (S2 M2 : PS) (w2 g2 : Nat), LJ F.nw x m w2 g2 S2 M2 → G2 F 4 S2 M2 (200 + (k + 1) + 12 * (300 - w2) + g2) (170000 + 1024 * (k + 1) + 12288 * (300 - w2) + 60000 * g2) Q 984 (lvL b x m (6 * k)) []) : G2 F 4 S M (200 + k + 12 * (300 - w) + g) (170000 + 1024 * k + 12288 * (300 - w) + 60000 * g) Q 911 (lvL b x m (6 * k)) [] := by
  obtain ⟨Z, -, -, -, hL, hRf, hRc, hRs, hRl⟩ := id X
  obtain ⟨sa, pl, la, br, h, n, u, rd, rk, rt, fa, so, O, V, B, hx, hg, A, C, R, ho, rfl, hM, hB, hfa, hw⟩ := hI
  have hw3 : w ≤ 300 := hx.1.1.2.2.2.2.2.2.2.2.2
  have hV := hx.2.2
  refine h_aload_n Z dL_law_911 rfl ?_
  refine h_arg X 912 1 (by omega) (by decide) dL_law_912 dL_law_913 dL_law_914 dL_law_915 dL_law_916 ?_
  refine h_arg X 917 2 (by omega) (by decide) dL_law_917 dL_law_918 dL_law_919 dL_law_920 dL_law_921 ?_
  refine h_xI Z (f_X6_alter F.l F.D F.cy F.nw S x sa pl la br h n u rd rk rt w fa so O V B hx _ _) 2 gL_law_X6_alter rfl (by decide +kernel) (by rw [hRf, hRl]; decide) hx.1.1.1 (κ := 5) hx.1.1.2.1 rfl (by decide) rfl rfl (Nat.le_of_ble_eq_true rfl) dL_law_922 (by rw [hRc, hRs]; omega) (fun r T hp => ?_)
  refine h_pop Z dL_law_925 rfl ?_
  refine h_aload_n Z dL_law_926 rfl ?_
  refine h_arg X 927 1 (by omega) (by decide) dL_law_927 dL_law_928 dL_law_929 dL_law_930 dL_law_931 ?_
  refine h_arg X 932 2 (by omega) (by decide) dL_law_932 dL_law_933 dL_law_934 dL_law_935 dL_law_936 ?_
  refine h_mI Z (f_X7_alter F.l F.D F.cy F.nw A m ho C R u B hB _ _) 2 gL_law_X7_alter rfl (by decide +kernel) (by rw [hRf, hRl]; decide) mP_x (κ := 6) mP_Kx rfl (by decide) rfl rfl (Nat.le_of_ble_eq_true rfl) dL_law_937 (by clear hp; rw [hRc, hRs]; omega) (fun r2 T2 hp2 => ?_)
  refine h_pop Z dL_law_940 rfl ?_
  refine h_goto Z 984 dL_law_941 (by decide) ?_
  rcases hp with ⟨j, q, hj, ej, hq, eq, er, O2, hx2⟩ | ⟨hno, er, rfl⟩ <;> rcases hp2 with ⟨j2, q2, hj2, ej2, hq2, eq2, er2, Q2, rfl, hr1, hr2, hB2⟩ | ⟨hno2, er2, rfl⟩
  · have hu6 := hB.2.1
    have e1 := s_eq (ej.symm.trans ej2) (by omega) (by omega)
    subst e1
    have e2 := s_eq (eq.symm.trans eq2) (by omega) (by omega)
    subst e2
    exact h_widen (by omega) (by omega) (nx T _ w g ⟨sa, pl, la, br, h, n, u, rd, rk, rt, fa, so, O2, V, _, hx2, hg, A, C, Q2, ho, rfl, hM, hB2, hr2.trans hfa, hr1.trans hw⟩)
  · exact absurd ⟨j, q, hj, ej, hq, eq⟩ hno2
  · exact absurd ⟨j2, q2, hj2, ej2, hq2, eq2⟩ hno
  · exact h_widen (by omega) (by omega) (nx S _ w g ⟨sa, pl, la, br, h, n, u, rd, rk, rt, fa, so, O, V, B, hx, hg, A, C, R, ho, rfl, hM, hB, hfa, hw⟩)

set_option maxRecDepth 100000 in
set_option maxHeartbeats 2000000 in
/-- work -/
theorem lw_work {F : Fx} {Q : State → Prop} {b L x m k w g : Nat} {xs : Nat → Int32} {S M : PS} (X : LX F b L xs) (hk : 6 * k + 6 ≤ L) (hI : LJ F.nw x m w g S M) (nx : ∀ (S2 M2 : PS) (w2 g2 : Nat), LJ F.nw x m w2 g2 S2 M2 → G2 F 4 S2 M2 (200 + (k + 1) + 12 * (300 - w2) + g2) (170000 + 1024 * (k + 1) + 12288 * (300 - w2) + 60000 * g2) Q 984 (lvL b x m (6 * k)) []) : G2 F 4 S M (200 + k + 12 * (300 - w) + g) (170000 + 1024 * k + 12288 * (300 - w) + 60000 * g) Q 944 (lvL b x m (6 * k)) [] := by
  obtain ⟨Z, -, -, -, hL, hRf, hRc, hRs, hRl⟩ := id X
  obtain ⟨sa, pl, la, br, h, n, u, rd, rk, rt, fa, so, O, V, B, hx, hg, A, C, R, ho, rfl, hM, hB, hfa, hw⟩ := hI
  have hw3 : w ≤ 300 := hx.1.1.2.2.2.2.2.2.2.2.2
  have hV := hx.2.2
  refine h_aload_n Z dL_law_944 rfl ?_
  refine h_xI Z (f_X6_work F.l F.D F.cy F.nw S x sa pl la br h n u rd rk rt w fa so O V B hx) 0 gL_law_X6_work rfl (by decide +kernel) (by rw [hRf, hRl]; decide) hx.1.1.1 (κ := 5) hx.1.1.2.1 rfl (by decide) rfl rfl (Nat.le_of_ble_eq_true rfl) dL_law_945 (by rw [hRc, hRs]; omega) (fun r T hp => ?_)
  refine h_pop Z dL_law_948 rfl ?_
  refine h_aload_n Z dL_law_949 rfl ?_
  refine h_mI Z (f_X7_work F.l F.D F.cy F.nw A m ho C R) 0 gL_law_X7_work rfl (by decide +kernel) (by rw [hRf, hRl]; decide) mP_x (κ := 6) mP_Kx rfl (by decide) rfl rfl (Nat.le_of_ble_eq_true rfl) dL_law_950 (by clear hp; rw [hRc, hRs]; omega) (fun r2 T2 hp2 => ?_)
  refine h_pop Z dL_law_953 rfl ?_
  refine h_goto Z 984 dL_law_954 (by decide) ?_
  obtain ⟨rfl, er⟩ := hp
  obtain ⟨rfl, er2⟩ := hp2
  exact h_widen (by omega) (by omega) (nx S _ w g ⟨sa, pl, la, br, h, n, u, rd, rk, rt, fa, so, O, V, B, hx, hg, A, C, R, ho, rfl, hM, hB, hfa, hw⟩)

set_option maxRecDepth 100000 in
set_option maxHeartbeats 2000000 in
/-- size -/
theorem lw_size {F : Fx} {Q : State → Prop} {b L x m k w g : Nat} {xs : Nat → Int32} {S M : PS} (X : LX F b L xs) (hk : 6 * k + 6 ≤ L) (hI : LJ F.nw x m w g S M) (nx : ∀ (S2 M2 : PS) (w2 g2 : Nat), LJ F.nw x m w2 g2 S2 M2 → G2 F 4 S2 M2 (200 + (k + 1) + 12 * (300 - w2) + g2) (170000 + 1024 * (k + 1) + 12288 * (300 - w2) + 60000 * g2) Q 984 (lvL b x m (6 * k)) []) : G2 F 4 S M (200 + k + 12 * (300 - w) + g) (170000 + 1024 * k + 12288 * (300 - w) + 60000 * g) Q 957 (lvL b x m (6 * k)) [] := by
  obtain ⟨Z, -, -, -, hL, hRf, hRc, hRs, hRl⟩ := id X
  obtain ⟨sa, pl, la, br, h, n, u, rd, rk, rt, fa, so, O, V, B, hx, hg, A, C, R, ho, rfl, hM, hB, hfa, hw⟩ := hI
  have hw3 : w ≤ 300 := hx.1.1.2.2.2.2.2.2.2.2.2
  have hV := hx.2.2
  refine h_aload_n Z dL_law_957 rfl ?_
  refine h_xI Z (f_X6_size F.l F.D F.cy F.nw S x sa pl la br h n u rd rk rt w fa so O V B hx) 0 gL_law_X6_size rfl (by decide +kernel) (by rw [hRf, hRl]; decide) hx.1.1.1 (κ := 5) hx.1.1.2.1 rfl (by decide) rfl rfl (Nat.le_of_ble_eq_true rfl) dL_law_958 (by rw [hRc, hRs]; omega) (fun r T hp => ?_)
  refine h_pop Z dL_law_961 rfl ?_
  refine h_aload_n Z dL_law_962 rfl ?_
  refine h_mI Z (f_X7_size F.l F.D F.cy F.nw A m ho C R) 0 gL_law_X7_size rfl (by decide +kernel) (by rw [hRf, hRl]; decide) mP_x (κ := 6) mP_Kx rfl (by decide) rfl rfl (Nat.le_of_ble_eq_true rfl) dL_law_963 (by clear hp; rw [hRc, hRs]; omega) (fun r2 T2 hp2 => ?_)
  refine h_pop Z dL_law_966 rfl ?_
  refine h_goto Z 984 dL_law_967 (by decide) ?_
  obtain ⟨rfl, er⟩ := hp
  obtain ⟨rfl, er2⟩ := hp2
  exact h_widen (by omega) (by omega) (nx S _ w g ⟨sa, pl, la, br, h, n, u, rd, rk, rt, fa, so, O, V, B, hx, hg, A, C, R, ho, rfl, hM, hB, hfa, hw⟩)

set_option maxRecDepth 100000 in
set_option maxHeartbeats 2000000 in
/-- digest -/
theorem lw_digest {F : Fx} {Q : State → Prop} {b L x m k w g : Nat} {xs : Nat → Int32} {S M : PS} (X : LX F b L xs) (hk : 6 * k + 6 ≤ L) (hI : LJ F.nw x m w g S M) (nx : ∀ (S2 M2 : PS) (w2 g2 : Nat), LJ F.nw x m w2 g2 S2 M2 → G2 F 4 S2 M2 (200 + (k + 1) + 12 * (300 - w2) + g2) (170000 + 1024 * (k + 1) + 12288 * (300 - w2) + 60000 * g2) Q 984 (lvL b x m (6 * k)) []) : G2 F 4 S M (200 + k + 12 * (300 - w) + g) (170000 + 1024 * k + 12288 * (300 - w) + 60000 * g) Q 970 (lvL b x m (6 * k)) [] := by
  obtain ⟨Z, -, -, -, hL, hRf, hRc, hRs, hRl⟩ := id X
  obtain ⟨sa, pl, la, br, h, n, u, rd, rk, rt, fa, so, O, V, B, hx, hg, A, C, R, ho, rfl, hM, hB, hfa, hw⟩ := hI
  have hw3 : w ≤ 300 := hx.1.1.2.2.2.2.2.2.2.2.2
  have hV := hx.2.2
  refine h_aload_n Z dL_law_970 rfl ?_
  refine h_xL Z (f_X6_digest F.l F.D F.cy F.nw S x sa pl la br h n u rd rk rt w fa so O V B hx) 0 gL_law_X6_digest rfl (by decide +kernel) (by rw [hRf, hRl]; decide) hx.1.1.1 (κ := 5) hx.1.1.2.1 rfl (by decide) rfl rfl (Nat.le_of_ble_eq_true rfl) dL_law_971 (by rw [hRc, hRs]; omega) (fun r T hp => ?_)
  refine h_aload_n Z dL_law_974 rfl ?_
  refine h_mL Z (f_X7_digest F.l F.D F.cy F.nw A m ho C R V hM) 0 gL_law_X7_digest rfl (by decide +kernel) (by rw [hRf, hRl]; decide) mP_x (κ := 6) mP_Kx rfl (by decide) rfl rfl (Nat.le_of_ble_eq_true rfl) dL_law_975 (by clear hp; rw [hRc, hRs]; omega) (fun r2 T2 hp2 => ?_)
  obtain ⟨rfl, er⟩ := hp
  obtain ⟨rfl, er2⟩ := hp2
  refine h_lcmp Z dL_law_978 ?_
  refine h_if_eq Z 984 dL_law_979 (by decide) (fun hc => ?_) (fun hc => absurd (lc_eq.mpr (er.trans er2.symm)) hc)
  exact h_widen (by omega) (by omega) (nx S _ w g ⟨sa, pl, la, br, h, n, u, rd, rk, rt, fa, so, O, V, B, hx, hg, A, C, R, ho, rfl, hM, hB, hfa, hw⟩)
