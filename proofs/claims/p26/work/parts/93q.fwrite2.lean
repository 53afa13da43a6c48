theorem rnT_le (W : Nat → Int64) : rnT W ≤ 32768 := by
  rw [rnT_eq]
  exact rn_top W 0
theorem rn_st {W : Nat → Int64} {i : Nat} (h : i < 65536) (hc : cb W 0 i = 1) (hz : i = 0 ∨ ¬ cb W 0 (i - 1) = 1) : rn W 0 i + 1 ≤ rnT W := by
  have hp : pv W 0 i = 0 := by
    cases i with
    | zero => rfl
    | succ d =>
      rcases hz with e | e
      · exact absurd e (Nat.succ_ne_zero _)
      · have := cb_le W 0 d
        show cb W 0 d = 0
        have e2 : ¬ cb W 0 d = 1 := e
        omega
  have hn : rn W 0 (i + 1) = rn W 0 i + cb W 0 i * (1 - pv W 0 i) := rfl
  rw [hc, hp] at hn
  have := rn_mono' W 0 (show i + 1 ≤ 65536 by omega)
  rw [rnT_eq]
  omega
theorem rn_all {W : Nat → Int64} : rn W 0 65536 = rnT W := (rnT_eq W).symm

set_option maxRecDepth 100000 in
set_option maxHeartbeats 2000000 in
/-- static -/
theorem f_X5_putRuns (l : Launch) (D : va_G) (cy : Nat → ClassId) (nw : Nat) (S : PS) (c : Nat) (a : Cn) (hc : Cv S c a) (br h n : Nat) (Y : List Nat) (hb : ByL S br h n Y) (hlen : Y.length + (2 + 4 * rnT a.2.2) ≤ 60000) : kV l yX5_putRuns wsX5_putRuns 4 106 D cy nw [.ref c, .ref br] S (fun T => WL S br n Y (byL (rnT a.2.2) 2 ++ rnL a.2.2) T) (bG n Y.length (2 + 4 * rnT a.2.2)) (60000 * bG n Y.length (2 + 4 * rnT a.2.2)) := by
  refine enterV (cc := cX5_putRuns) (nL := 6) (ret := none) (by decide +kernel) rfl (Nat.le_of_ble_eq_true rfl) ?_
  intro F Z hl hR hD hcy hnw hnm
  subst hl hD hcy hnw
  have hRf : F.R.frames = 4 := by rw [hR]
  have hRc : F.R.cells = (bG n Y.length (2 + 4 * rnT a.2.2)) := by rw [hR]
  have hRs : F.R.slots = (60000 * bG n Y.length (2 + 4 * rnT a.2.2)) := by rw [hR]
  have hRl : F.R.locals = 106 := by rw [hR]
  have hun : Y.length ≤ n := hb.1.2.2.2.2.2.2.2.2.1
  have hn6 : n ≤ 60000 := by have := hb.1.2.2.2.2.2.2.1; omega
  have hr6 := rnT_le a.2.2
  have hall := rn_all (W := a.2.2)
  have loop : ∀ (m q i : Nat) (E : List Nat) (T : PS), rnT a.2.2 - q < m → (WL S br n Y E T ∧ q ≤ rnT a.2.2 ∧ i ≤ 65536 ∧ E = byL (rnT a.2.2) 2 ++ rnP a.2.2 i ∧ E.length = 2 + 4 * q ∧ rn a.2.2 0 i = q ∧ (i < 65536 → cb a.2.2 0 i = 1) ∧ (i < 65536 → i = 0 ∨ ¬ cb a.2.2 0 (i - 1) = 1)) → G F 6 T (bG n Y.length E.length) (60000 * bG n Y.length E.length) (QV F (fun T => WL S br n Y (byL (rnT a.2.2) 2 ++ rnL a.2.2) T) (bG n Y.length (2 + 4 * rnT a.2.2)) (60000 * bG n Y.length (2 + 4 * rnT a.2.2))) 21 [(0, .ref c), (1, .ref br), (2, .int (nI (rnT a.2.2))), (3, .int (nI i)), (4, .int (nI q))] [] := by
    intro m
    induction m with
    | zero => intros; omega
    | succ m ih =>
      intro q i E T hm ⟨hW, hq, hi, hE, hEl, hrn, hci, hzi⟩
      have hcT := hW.1.cv nPb1 nPb9 hc
      obtain ⟨w, ⟨hcL, hcK, hww, hwL, hwK, hwl⟩, hk0, hk0b, hk1, hk2, hrow⟩ := id hcT
      refine g_iload Z dX5_putRuns_21 rfl ?_
      refine g_iload_n Z dX5_putRuns_23 rfl ?_
      refine g_icmp_ge Z 66 dX5_putRuns_24 (by decide) (fun h24 => ?_) (fun h24 => ?_)
      · have he : q = rnT a.2.2 := by have := ge_t (i := q) (N := rnT a.2.2) (by omega) (by omega) h24; omega
        have hi6 : i = 65536 := by
          apply Nat.le_antisymm hi
          apply Nat.le_of_not_lt
          intro g
          have := rn_st g (hci g) (hzi g)
          omega
        have e8 : E.length = 2 + 4 * rnT a.2.2 := by omega
        have eL : E = byL (rnT a.2.2) 2 ++ rnL a.2.2 := by rw [hE, hi6]; unfold rnL; rw [N16_eq]
        exact g_vret Z dX5_putRuns_66 (by rw [e8]; exact Nat.le_refl _) (by rw [e8]; exact Nat.le_refl _) (by rw [← eL]; exact hW)
      · have hlt : q < rnT a.2.2 := ge_f (by omega) (by omega) h24
        have hi6 : i < 65536 := by
          apply Nat.lt_of_not_le
          intro g
          have e : i = 65536 := by omega
          rw [e, hall] at hrn
          omega
        have hc1 := hci hi6
        have hz1 := hzi hi6
        refine g_aload_n Z dX5_putRuns_27 rfl ?_
        refine g_iload_n Z dX5_putRuns_28 rfl ?_
        refine g_cvI Z (f_X1_firstOut F.l F.D F.cy F.nw T c a hcT i hi) 1 gX5_putRuns_X1_firstOut rfl (by decide +kernel) (by rw [hRf, hRl]; decide) (by assumption) (κ := 1) (by assumption) rfl (by decide) rfl rfl (Nat.le_of_ble_eq_true rfl) dX5_putRuns_29 (by rw [hRc, hRs]; exact w_room0 (by first | omega | (simp only [List.length_append, byL_len]; omega))) (fun r V hp => ?_)
        obtain ⟨rfl, r2, rfl, f1, f2, f3, f4⟩ := hp
        have hir : i < r2 := by
          apply Nat.lt_of_le_of_ne f1
          intro e
          have := f4 (by omega)
          rw [← e, hc1] at this
          exact absurd this (by decide)
        have run := rnP_run hz1 hir f2 (fun l h1 h2 => by have := f3 l h1 h2; have := cb_le a.2.2 0 l; omega) (fun g => by rw [f4 g]; decide)
        refine g_istore Z dX5_putRuns_32 (by decide) ?_
        refine g_aload_n Z dX5_putRuns_34 rfl ?_
        refine g_iload_n Z dX5_putRuns_35 rfl ?_
        refine g_i2l Z dX5_putRuns_36 ?_
        rw [nI_l (by omega)]
        refine g_iconst (v := 2) Z dX5_putRuns_37 (by decide) ?_
        refine g_cvV Z (f_X0_put F.l F.D F.cy F.nw _ br _ _ _ _ (hW.2.choose_spec) i (by omega) 2 (by omega) (by first | omega | (simp only [List.length_append, byL_len]; omega))) 2 gX5_putRuns_X0_put rfl (by decide +kernel) (by rw [hRf, hRl]; decide) (by exact hW.2.choose_spec.1.1) (κ := 0) (by exact hW.2.choose_spec.1.2.1) rfl (by decide) rfl rfl (Nat.le_of_ble_eq_true rfl) dX5_putRuns_38 (by rw [hRc, hRs]; exact wl_room hun hn6 (by first | omega | (simp only [List.length_append, byL_len]; omega)) (by first | omega | (simp only [List.length_append, byL_len]; omega))) (fun V hp => ?_)
        have hW2 := hW.put hun hn6 (by first | omega | (simp only [List.length_append, byL_len]; omega)) hp
        refine g_widen (wl_wid (v := i) hun hn6 (by first | omega | (simp only [List.length_append, byL_len]; omega))).1 (wl_wid (v := i) hun hn6 (by first | omega | (simp only [List.length_append, byL_len]; omega))).2 ?_
        refine g_aload_n Z dX5_putRuns_41 rfl ?_
        refine g_iload Z dX5_putRuns_42 rfl ?_
        refine g_iload_n Z dX5_putRuns_44 rfl ?_
        refine g_isub Z dX5_putRuns_45 ?_
        rw [nI_sb (by omega)]
        refine g_iconst (v := 1) Z dX5_putRuns_46 (by decide) ?_
        refine g_isub Z dX5_putRuns_47 ?_
        rw [show nI (r2 - i) - 1 = nI (r2 - i - 1) from nI_sb (b := 1) (by omega)]
        refine g_i2l Z dX5_putRuns_48 ?_
        rw [nI_l (by omega)]
        refine g_iconst (v := 2) Z dX5_putRuns_49 (by decide) ?_
        refine g_cvV Z (f_X0_put F.l F.D F.cy F.nw _ br _ _ _ _ (hW2.2.choose_spec) (r2 - i - 1) (by omega) 2 (by omega) (by first | omega | (simp only [List.length_append, byL_len]; omega))) 2 gX5_putRuns_X0_put rfl (by decide +kernel) (by rw [hRf, hRl]; decide) (by exact hW2.2.choose_spec.1.1) (κ := 0) (by exact hW2.2.choose_spec.1.2.1) rfl (by decide) rfl rfl (Nat.le_of_ble_eq_true rfl) dX5_putRuns_50 (by rw [hRc, hRs]; exact wl_room hun hn6 (by first | omega | (simp only [List.length_append, byL_len]; omega)) (by first | omega | (simp only [List.length_append, byL_len]; omega))) (fun X hp => ?_)
        have hW3 := hW2.put hun hn6 (by first | omega | (simp only [List.length_append, byL_len]; omega)) hp
        refine g_widen (wl_wid (v := (r2 - i - 1)) hun hn6 (by first | omega | (simp only [List.length_append, byL_len]; omega))).1 (wl_wid (v := (r2 - i - 1)) hun hn6 (by first | omega | (simp only [List.length_append, byL_len]; omega))).2 ?_
        refine g_aload_n Z dX5_putRuns_53 rfl ?_
        refine g_iload Z dX5_putRuns_54 rfl ?_
        refine g_cvI Z (f_X1_firstIn F.l F.D F.cy F.nw _ c a (hW3.1.cv nPb1 nPb9 hc) r2 f2) 1 gX5_putRuns_X1_firstIn rfl (by decide +kernel) (by rw [hRf, hRl]; decide) (by exact (hW3.1 c hc.cr.1).1) (κ := 1) (by exact (hW3.1 c hc.cr.1).2.1.trans hc.cr.2.1) rfl (by decide) rfl rfl (Nat.le_of_ble_eq_true rfl) dX5_putRuns_56 (by rw [hRc, hRs]; exact w_room0 (by first | omega | (simp only [List.length_append, byL_len]; omega))) (fun r Y9 hp => ?_)
        obtain ⟨rfl, i3, rfl, g1, g2, g3, g4⟩ := hp
        have out := rnP_out i3 g1 g3
        refine g_istore_n Z dX5_putRuns_59 (by decide) ?_
        refine g_iinc (c := 1) Z dX5_putRuns_60 rfl (by decide) (by decide) ?_
        rw [nI_1]
        refine g_goto Z 21 dX5_putRuns_63 (by decide) ?_
        exact g_lv (by (repeat (first | exact trivial | refine And.intro rfl ?_)); done) (ih (q + 1) i3 _ X (by omega) ⟨hW3, by omega, g2, by rw [hE, out.1, run.1]; simp only [List.append_assoc], by simp only [List.length_append, byL_len]; omega, by rw [out.2, run.2]; omega, g4, fun g => Or.inr (by
          by_cases e : i3 = r2
          · have a1 := g4 g
            rw [e, f4 (by omega)] at a1
            exact absurd a1 (by decide)
          · exact g3 (i3 - 1) (by omega) (by omega))⟩)
  obtain ⟨w, ⟨hcL, hcK, hww, hwL, hwK, hwl⟩, hk0, hk0b, hk1, hk2, hrow⟩ := id hc
  have hWr := WL.rf hb
  have hn0 : ([] : List Nat).length = 0 := rfl
  refine g_aload_n Z dX5_putRuns_0 rfl ?_
  refine g_cvI Z (c_X1_totalRuns F.l F.D F.cy F.nw _ c hc.cr) 0 gX5_putRuns_X1_totalRuns rfl (by decide +kernel) (by rw [hRf, hRl]; decide) (by assumption) (κ := 1) (by assumption) rfl (by decide) rfl rfl (Nat.le_of_ble_eq_true rfl) dX5_putRuns_1 (by rw [hRc, hRs]; exact ⟨Nat.zero_le _, Nat.zero_le _⟩) (fun r V hp => ?_)
  obtain ⟨rfl, hr⟩ := hp
  have hr2 := hr w hww
  subst hr2
  rw [trF_rnT, rnT_congr hrow]
  refine g_widen (Nat.zero_le (bG n Y.length ([] : List Nat).length)) (Nat.zero_le (60000 * bG n Y.length ([] : List Nat).length)) ?_
  refine g_istore_n Z dX5_putRuns_4 (by decide) ?_
  refine g_aload_n Z dX5_putRuns_5 rfl ?_
  refine g_iload_n Z dX5_putRuns_6 rfl ?_
  refine g_i2l Z dX5_putRuns_7 ?_
  rw [nI_l (by omega)]
  refine g_iconst (v := 2) Z dX5_putRuns_8 (by decide) ?_
  refine g_cvV Z (f_X0_put F.l F.D F.cy F.nw _ br _ _ _ _ (hWr.2.choose_spec) (rnT a.2.2) (by omega) 2 (by omega) (by first | omega | (simp only [List.length_append, byL_len]; omega))) 2 gX5_putRuns_X0_put rfl (by decide +kernel) (by rw [hRf, hRl]; decide) (by exact hWr.2.choose_spec.1.1) (κ := 0) (by exact hWr.2.choose_spec.1.2.1) rfl (by decide) rfl rfl (Nat.le_of_ble_eq_true rfl) dX5_putRuns_9 (by rw [hRc, hRs]; exact wl_room hun hn6 (by first | omega | (simp only [List.length_append, byL_len]; omega)) (by first | omega | (simp only [List.length_append, byL_len]; omega))) (fun X hp => ?_)
  have hW3 := hWr.put hun hn6 (by first | omega | (simp only [List.length_append, byL_len]; omega)) hp
  refine g_widen (wl_wid (v := (rnT a.2.2)) hun hn6 (by first | omega | (simp only [List.length_append, byL_len]; omega))).1 (wl_wid (v := (rnT a.2.2)) hun hn6 (by first | omega | (simp only [List.length_append, byL_len]; omega))).2 ?_
  refine g_aload_n Z dX5_putRuns_12 rfl ?_
  refine g_iconst (v := 0) Z dX5_putRuns_13 (by decide) ?_
  refine g_cvI Z (f_X1_firstIn F.l F.D F.cy F.nw _ c a (hW3.1.cv nPb1 nPb9 hc) 0 (by omega)) 1 gX5_putRuns_X1_firstIn rfl (by decide +kernel) (by rw [hRf, hRl]; decide) (by exact (hW3.1 c hc.cr.1).1) (κ := 1) (by exact (hW3.1 c hc.cr.1).2.1.trans hc.cr.2.1) rfl (by decide) rfl rfl (Nat.le_of_ble_eq_true rfl) dX5_putRuns_14 (by rw [hRc, hRs]; exact w_room0 (by first | omega | (simp only [List.length_append, byL_len]; omega))) (fun r Y9 hp => ?_)
  obtain ⟨rfl, i3, rfl, g1, g2, g3, g4⟩ := hp
  have out := rnP_out i3 g1 g3
  refine g_istore_n Z dX5_putRuns_17 (by decide) ?_
  refine g_iconst (v := 0) Z dX5_putRuns_18 (by decide) ?_
  refine g_istore Z dX5_putRuns_19 (by decide) ?_
  exact g_lv (by (repeat (first | exact trivial | refine And.intro rfl ?_)); done) (loop (rnT a.2.2 + 1) 0 i3 _ X (by omega) ⟨hW3, by omega, g2, by rw [out.1]; exact (List.append_nil _).symm, by simp only [List.length_append, byL_len]; omega, out.2, g4, fun g => by
    by_cases e : i3 = 0
    · exact Or.inl e
    · exact Or.inr (g3 (i3 - 1) (by omega) (by omega))⟩)

set_option maxRecDepth 100000 in
set_option maxHeartbeats 2000000 in
/-- static -/
theorem f_X5_putBody (l : Launch) (D : va_G) (cy : Nat → ClassId) (nw : Nat) (S : PS) (c : Nat) (a : Cn) (hc : Cv S c a) (br h n : Nat) (Y : List Nat) (hb : ByL S br h n Y) (hlen : Y.length + boN a ≤ 60000) : kV l yX5_putBody wsX5_putBody 5 132 D cy nw [.ref c, .ref br] S (fun T => WL S br n Y (boL a) T) (bG n Y.length (boN a)) (60000 * bG n Y.length (boN a)) := by
  refine enterV (cc := cX5_putBody) (nL := 2) (ret := none) (by decide +kernel) rfl (Nat.le_of_ble_eq_true rfl) ?_
  intro F Z hl hR hD hcy hnw hnm
  subst hl hD hcy hnw
  have hRf : F.R.frames = 5 := by rw [hR]
  have hRc : F.R.cells = (bG n Y.length (boN a)) := by rw [hR]
  have hRs : F.R.slots = (60000 * bG n Y.length (boN a)) := by rw [hR]
  have hRl : F.R.locals = 132 := by rw [hR]
  have in1 : ∀ w ∈ u_ws RX1 TX1 4, w ∈ wsX5_putBody := by decide +kernel
  have lk65 : Cond.fieldLink RX5 65 (TX1 1).1 (TX1 1).2.1 (TX1 1).2.2.1 ∈ wsX5_putBody := by decide +kernel
  obtain ⟨w, ⟨hcL, hcK, hww, hwL, hwK, hwl⟩, hk0, hk0b, hk1, hk2, hrow⟩ := id hc
  have hbL := hb.1.1
  have hbK := hb.1.2.1
  refine g_aload_n Z dX5_putBody_0 rfl ?_
  refine g_geti Z 1 1 rfl (by decide) in1 lk65 dX5_putBody_1 hcL hcK ?_
  rw [hk1]
  by_cases h0 : a.2.1 = 0
  · have hk : boN a = 2 * tot a.2.2 := if_pos h0
    have hL : boL a = arL a.2.2 := if_pos h0
    rw [hk] at hR hRc hRs hlen ⊢
    refine g_lookup Z 32 dX5_putBody_4 (by decide) (by rw [h0]) (by decide) ?_
    refine g_aload_n Z dX5_putBody_32 rfl ?_
    refine g_aload_n Z dX5_putBody_33 rfl ?_
    refine g_csV Z (f_X5_putArray F.l F.D F.cy F.nw S c a hc br h n Y hb hlen) 2 gX5_putBody_X5_putArray rfl (by decide +kernel) (by rw [hRf, hRl]; decide) rfl rfl (Nat.le_of_ble_eq_true rfl) dX5_putBody_34 (by rw [hRc, hRs]; exact ⟨Nat.le_of_eq (Nat.zero_add _), Nat.le_of_eq (Nat.zero_add _)⟩) (fun U hp => ?_)
    refine g_goto Z 53 dX5_putBody_37 (by decide) ?_
    exact g_vret Z dX5_putBody_53 (by exact Nat.le_of_eq (Nat.zero_add _)) (by exact Nat.le_of_eq (Nat.zero_add _)) (by rw [hL]; exact hp)
  · by_cases h1 : a.2.1 = 1
    · have hk : boN a = 8192 := (if_neg h0).trans (if_pos h1)
      have hL : boL a = bmL a.2.2 := (if_neg h0).trans (if_pos h1)
      rw [hk] at hR hRc hRs hlen ⊢
      refine g_lookup Z 40 dX5_putBody_4 (by decide) (by rw [h1]) (by decide) ?_
      refine g_aload_n Z dX5_putBody_40 rfl ?_
      refine g_aload_n Z dX5_putBody_41 rfl ?_
      refine g_csV Z (f_X5_putBitmap F.l F.D F.cy F.nw S c a hc br h n Y hb hlen) 2 gX5_putBody_X5_putBitmap rfl (by decide +kernel) (by rw [hRf, hRl]; decide) rfl rfl (Nat.le_of_ble_eq_true rfl) dX5_putBody_42 (by rw [hRc, hRs]; exact ⟨Nat.le_of_eq (Nat.zero_add _), Nat.le_of_eq (Nat.zero_add _)⟩) (fun U hp => ?_)
      refine g_goto Z 53 dX5_putBody_45 (by decide) ?_
      exact g_vret Z dX5_putBody_53 (by exact Nat.le_of_eq (Nat.zero_add _)) (by exact Nat.le_of_eq (Nat.zero_add _)) (by rw [hL]; exact hp)
    · have hk : boN a = 2 + 4 * rnT a.2.2 := (if_neg h0).trans (if_neg h1)
      have hL : boL a = byL (rnT a.2.2) 2 ++ rnL a.2.2 := (if_neg h0).trans (if_neg h1)
      rw [hk] at hR hRc hRs hlen ⊢
      refine g_lookup Z 48 dX5_putBody_4 (by decide) (look2 h0 h1) (by decide) ?_
      refine g_aload_n Z dX5_putBody_48 rfl ?_
      refine g_aload_n Z dX5_putBody_49 rfl ?_
      refine g_csV Z (f_X5_putRuns F.l F.D F.cy F.nw S c a hc br h n Y hb hlen) 2 gX5_putBody_X5_putRuns rfl (by decide +kernel) (by rw [hRf, hRl]; decide) rfl rfl (Nat.le_of_ble_eq_true rfl) dX5_putBody_50 (by rw [hRc, hRs]; exact ⟨Nat.le_of_eq (Nat.zero_add _), Nat.le_of_eq (Nat.zero_add _)⟩) (fun U hp => ?_)
      exact g_vret Z dX5_putBody_53 (by exact Nat.le_of_eq (Nat.zero_add _)) (by exact Nat.le_of_eq (Nat.zero_add _)) (by rw [hL]; exact hp)
