theorem rl_rowI {S : PS} {a : Nat} {f : Nat → Int32} (h : S.K a = 8) : Rl Pr S (S.rowI a f) := Rl.rf.rowI (by rw [h]; exact Or.inr rfl)

set_option maxRecDepth 100000 in
set_option maxHeartbeats 2000000 in
/-- keys and totals -/
theorem c_X4_takeHeads (l : Launch) (D : va_G) (cy : Nat → ClassId) (nw : Nat) (S : PS) (rd rk rt p e : Nat) (hr : RdAt S rd rk rt p e) (br h n u : Nat) (hb : BytesAt S br h n u) (heu : e ≤ u) (k : Nat) (hk : k ≤ 6) (hn : S.fi rd 4 = nI k) : kI l yX4_takeHeads wsX4_takeHeads 3 70 D cy nw [.ref rd, .ref br] S (fun r T => (r = 0 ∨ r = 1) ∧ Hd nw rd rk rt e S T ∧ T.fi rd 4 = nI k ∧ T.fi rd 7 = S.fi rd 7) 0 0 := by
  refine enterI (cc := cX4_takeHeads) (nL := 3) (ret := (some .boolean)) (by decide +kernel) rfl (Nat.le_of_ble_eq_true rfl) ?_
  intro F Z hl hR hD hcy hnw hnm
  subst hl hD hcy hnw
  have hRf : F.R.frames = 3 := by rw [hR]
  have hRc : F.R.cells = 0 := by rw [hR]
  have hRs : F.R.slots = 0 := by rw [hR]
  have hRl : F.R.locals = 70 := by rw [hR]
  have in4 : ∀ w ∈ u_ws RX4 TX4 10, w ∈ wsX4_takeHeads := by decide +kernel
  have lk9 : Cond.fieldLink RX4 9 (TX4 8).1 (TX4 8).2.1 (TX4 8).2.2.1 ∈ wsX4_takeHeads := by decide +kernel
  have lk15 : Cond.fieldLink RX4 15 (TX4 9).1 (TX4 9).2.1 (TX4 9).2.2.1 ∈ wsX4_takeHeads := by decide +kernel
  have lk25 : Cond.fieldLink RX4 25 (TX4 2).1 (TX4 2).2.1 (TX4 2).2.2.1 ∈ wsX4_takeHeads := by decide +kernel
  have lk36 : Cond.fieldLink RX4 36 (TX4 4).1 (TX4 4).2.1 (TX4 4).2.2.1 ∈ wsX4_takeHeads := by decide +kernel
  have loop : ∀ (m i p : Nat) (T : PS), 8 - i < m → (Eg F.nw Pr S T ∧ Hs F.nw S T ∧ RdAt T rd rk rt p e ∧ BytesAt T br h n u ∧ T.fi rd 4 = nI k ∧ T.fi rd 7 = S.fi rd 7 ∧ i ≤ k) → G F 3 T 0 0 (QI F (fun r T => (r = 0 ∨ r = 1) ∧ Hd F.nw rd rk rt e S T ∧ T.fi rd 4 = nI k ∧ T.fi rd 7 = S.fi rd 7) 0 0) 2 [(0, .ref rd), (1, .ref br), (2, .int (nI i))] [] := by
    intro m
    induction m with
    | zero => intros; omega
    | succ m ih =>
      intro i p T hm ⟨hG, hH, hr2, hb2, hn2, hf2, hik⟩
      obtain ⟨hrL, hrK, hrk, hkL, hkK, hkl, hrt, htL, htK, htl, hkt, hrp, hre, hpe, he6, hkeys⟩ := id hr2
      have hG2 := hG
      have hH2 := hH
      refine g_iload_n Z dX4_takeHeads_2 rfl ?_
      refine g_aload_n Z dX4_takeHeads_3 rfl ?_
      refine g_geti Z 4 4 rfl (by decide) in4 lk36 dX4_takeHeads_4 (by assumption) (by assumption) ?_
      rw [hn2]
      refine g_icmp_ge Z 97 dX4_takeHeads_7 (by decide) (fun h7 => ?_) (fun h7 => ?_)
      · refine g_iconst (v := 1) Z dX4_takeHeads_97 (by decide) ?_
        exact g_zret Z dX4_takeHeads_98 (by rfl) (by omega) (by omega) (⟨Or.inr rfl, ⟨hG, hH, ⟨p, hr2⟩, ⟨k, hk, hn2⟩⟩, hn2, hf2⟩)
      · have hlt : i < k := ge_f (by omega) (by omega) h7
        have hcl : (nI i).toNatClampNeg = i := nI_clamp (by omega)
        refine g_aload_n Z dX4_takeHeads_10 rfl ?_
        refine g_iconst (v := 2) Z dX4_takeHeads_11 (by decide) ?_
        refine g_cvI Z (c_X4_isThere F.l F.D F.cy F.nw _ rd rk rt p e hr2 2 (by decide)) 1 gX4_takeHeads_X4_isThere rfl (by decide +kernel) (by rw [hRf, hRl]; decide) (by assumption) (κ := 4) (by assumption) rfl (by decide) rfl rfl (Nat.le_of_ble_eq_true rfl) dX4_takeHeads_12 (by rw [hRc, hRs]; omega) (fun r T3 hp => ?_)
        obtain ⟨hE3, hp3, hcase3⟩ := hp
        have hr3 := hE3.rd hr2 hp3 hpe
        have hb3 := hE3.bytes hr2.2.1 hb2
        have hrL3 := hr3.1
        have hrK3 := hr3.2.1
        have hG3 := hG2.tr (hE3.eg hr2.2.1)
        have hH3 := hH2.tr (hE3.hs hr2.2.1)
        have hn3 := (hE3.2.2.1 4 (by decide)).trans hn2
        have hf3 := (hE3.2.2.1 7 (by decide)).trans hf2
        have hkL3 := hr3.2.2.2.1
        have hkK3 := hr3.2.2.2.2.1
        have hkl3 := hr3.2.2.2.2.2.1
        have hrk3 := hr3.2.2.1
        have hrt3 := hr3.2.2.2.2.2.2.1
        have htL3 := hr3.2.2.2.2.2.2.2.1
        have htK3 := hr3.2.2.2.2.2.2.2.2.1
        have htl3 := hr3.2.2.2.2.2.2.2.2.2.1
        refine g_if_ne Z 20 dX4_takeHeads_15 (by decide) (fun h15 => ?_) (fun h15 => ?_)
        · have hpa : p + 2 ≤ e := by
            rcases hcase3 with ⟨-, h⟩ | h
            · exact h
            · exact absurd h h15
          refine g_aload_n Z dX4_takeHeads_20 rfl ?_
          refine g_getr Z 4 8 rfl (by decide) in4 lk9 dX4_takeHeads_21 (by assumption) (by assumption) (by assumption) ?_
          refine g_iload_n Z dX4_takeHeads_24 rfl ?_
          refine g_aload_n Z dX4_takeHeads_25 rfl ?_
          refine g_aload_n Z dX4_takeHeads_26 rfl ?_
          refine g_iconst (v := 2) Z dX4_takeHeads_27 (by decide) ?_
          refine g_cvL Z (c_X4_take F.l F.D F.cy F.nw _ rd rk rt p e hr3 br h n u hb3 heu 2 (by decide) hpa) 2 gX4_takeHeads_X4_take rfl (by decide +kernel) (by rw [hRf, hRl]; decide) (by assumption) (κ := 4) (by assumption) rfl (by decide) rfl rfl (Nat.le_of_ble_eq_true rfl) dX4_takeHeads_28 (by rw [hRc, hRs]; omega) (fun r T4 hp => ?_)
          obtain ⟨hE4, hp4, v4, hv4, rfl⟩ := hp
          have hr4 := hE4.rd hr3 hp4 hpa
          have hb4 := hE4.bytes hr3.2.1 hb3
          have hrL4 := hr4.1
          have hrK4 := hr4.2.1
          have hG4 := hG3.tr (hE4.eg hr3.2.1)
          have hH4 := hH3.tr (hE4.hs hr3.2.1)
          have hn4 := (hE4.2.2.1 4 (by decide)).trans hn3
          have hf4 := (hE4.2.2.1 7 (by decide)).trans hf3
          have hkL4 := hr4.2.2.2.1
          have hkK4 := hr4.2.2.2.2.1
          have hkl4 := hr4.2.2.2.2.2.1
          have hrk4 := hr4.2.2.1
          have hrt4 := hr4.2.2.2.2.2.2.1
          have htL4 := hr4.2.2.2.2.2.2.2.1
          have htK4 := hr4.2.2.2.2.2.2.2.2.1
          have htl4 := hr4.2.2.2.2.2.2.2.2.2.1
          refine g_l2i Z dX4_takeHeads_31 ?_
          rw [(lN_2 hv4).1]
          refine g_iast Z dX4_takeHeads_32 (by assumption) (by assumption) (by exact vin_of hkl4 (by omega) (by decide)) ?_
          have hR5 : Rl Pr T4 (T4.rowI rk (upd (T4.ri rk) (nI i).toNatClampNeg (nI v4))) := rl_rowI hkK4
          have hr5 := hr4.key (j := (nI i).toNatClampNeg) (lN_2 hv4).2
          have hb5 := hR5.bytes nPr0 nPr7 hb4
          have hG5 := hG4.tr (hR5.eg nPr1 nPr2 nPr10)
          have hH5 := hH4.tr (hR5.hs nPr1 nPr2 nPr10)
          have hn5 : (T4.rowI rk (upd (T4.ri rk) (nI i).toNatClampNeg (nI v4))).fi rd 4 = nI k := hn4
          have hf5 : (T4.rowI rk (upd (T4.ri rk) (nI i).toNatClampNeg (nI v4))).fi rd 7 = S.fi rd 7 := hf4
          generalize T4.rowI rk (upd (T4.ri rk) (nI i).toNatClampNeg (nI v4)) = T5 at hr5 hb5 hG5 hH5 hn5 hf5 hR5 ⊢
          have hrL5 := hr5.1
          have hrK5 := hr5.2.1
          have hkL5 := hr5.2.2.2.1
          have hkK5 := hr5.2.2.2.2.1
          have hkl5 := hr5.2.2.2.2.2.1
          have hrk5 := hr5.2.2.1
          have hrt5 := hr5.2.2.2.2.2.2.1
          have htL5 := hr5.2.2.2.2.2.2.2.1
          have htK5 := hr5.2.2.2.2.2.2.2.2.1
          have htl5 := hr5.2.2.2.2.2.2.2.2.2.1
          refine g_iload_n Z dX4_takeHeads_33 rfl ?_
          refine g_if_le Z 66 dX4_takeHeads_34 (by decide) (fun h34 => ?_) (fun h34 => ?_)
          · refine g_aload_n Z dX4_takeHeads_66 rfl ?_
            refine g_iconst (v := 2) Z dX4_takeHeads_67 (by decide) ?_
            refine g_cvI Z (c_X4_isThere F.l F.D F.cy F.nw _ rd rk rt (p + 2) e hr5 2 (by decide)) 1 gX4_takeHeads_X4_isThere rfl (by decide +kernel) (by rw [hRf, hRl]; decide) (by assumption) (κ := 4) (by assumption) rfl (by decide) rfl rfl (Nat.le_of_ble_eq_true rfl) dX4_takeHeads_68 (by rw [hRc, hRs]; omega) (fun r T7 hp => ?_)
            obtain ⟨hE7, hp7, hcase7⟩ := hp
            have hr7 := hE7.rd hr5 hp7 hpa
            have hb7 := hE7.bytes hr5.2.1 hb5
            have hrL7 := hr7.1
            have hrK7 := hr7.2.1
            have hG7 := hG5.tr (hE7.eg hr5.2.1)
            have hH7 := hH5.tr (hE7.hs hr5.2.1)
            have hn7 := (hE7.2.2.1 4 (by decide)).trans hn5
            have hf7 := (hE7.2.2.1 7 (by decide)).trans hf5
            have hkL7 := hr7.2.2.2.1
            have hkK7 := hr7.2.2.2.2.1
            have hkl7 := hr7.2.2.2.2.2.1
            have hrk7 := hr7.2.2.1
            have hrt7 := hr7.2.2.2.2.2.2.1
            have htL7 := hr7.2.2.2.2.2.2.2.1
            have htK7 := hr7.2.2.2.2.2.2.2.2.1
            have htl7 := hr7.2.2.2.2.2.2.2.2.2.1
            refine g_if_ne Z 76 dX4_takeHeads_71 (by decide) (fun h71 => ?_) (fun h71 => ?_)
            · have hpb : p + 2 + 2 ≤ e := by
                rcases hcase7 with ⟨-, h⟩ | h
                · exact h
                · exact absurd h h71
              refine g_aload_n Z dX4_takeHeads_76 rfl ?_
              refine g_getr Z 4 9 rfl (by decide) in4 lk15 dX4_takeHeads_77 (by assumption) (by assumption) (by assumption) ?_
              refine g_iload_n Z dX4_takeHeads_80 rfl ?_
              refine g_aload_n Z dX4_takeHeads_81 rfl ?_
              refine g_aload_n Z dX4_takeHeads_82 rfl ?_
              refine g_iconst (v := 2) Z dX4_takeHeads_83 (by decide) ?_
              refine g_cvL Z (c_X4_take F.l F.D F.cy F.nw _ rd rk rt (p + 2) e hr7 br h n u hb7 heu 2 (by decide) hpb) 2 gX4_takeHeads_X4_take rfl (by decide +kernel) (by rw [hRf, hRl]; decide) (by assumption) (κ := 4) (by assumption) rfl (by decide) rfl rfl (Nat.le_of_ble_eq_true rfl) dX4_takeHeads_84 (by rw [hRc, hRs]; omega) (fun r T8 hp => ?_)
              obtain ⟨hE8, hp8, v8, hv8, rfl⟩ := hp
              have hr8 := hE8.rd hr7 hp8 hpb
              have hb8 := hE8.bytes hr7.2.1 hb7
              have hrL8 := hr8.1
              have hrK8 := hr8.2.1
              have hG8 := hG7.tr (hE8.eg hr7.2.1)
              have hH8 := hH7.tr (hE8.hs hr7.2.1)
              have hn8 := (hE8.2.2.1 4 (by decide)).trans hn7
              have hf8 := (hE8.2.2.1 7 (by decide)).trans hf7
              have hkL8 := hr8.2.2.2.1
              have hkK8 := hr8.2.2.2.2.1
              have hkl8 := hr8.2.2.2.2.2.1
              have hrk8 := hr8.2.2.1
              have hrt8 := hr8.2.2.2.2.2.2.1
              have htL8 := hr8.2.2.2.2.2.2.2.1
              have htK8 := hr8.2.2.2.2.2.2.2.2.1
              have htl8 := hr8.2.2.2.2.2.2.2.2.2.1
              refine g_l2i Z dX4_takeHeads_87 ?_
              refine g_iconst (v := 1) Z dX4_takeHeads_88 (by decide) ?_
              refine g_iadd Z dX4_takeHeads_89 ?_
              refine g_iast Z dX4_takeHeads_90 (by assumption) (by assumption) (by exact vin_of htl8 (by omega) (by decide)) ?_
              refine g_iinc (c := 1) Z dX4_takeHeads_91 rfl (by decide) (by decide) ?_
              rw [nI_1]
              refine g_goto Z 2 dX4_takeHeads_94 (by decide) ?_
              exact g_lv (by (repeat (first | exact trivial | refine And.intro rfl ?_)); done) (ih (i + 1) (p + 2 + 2) _ (by omega) ⟨hG8.tr ((rl_rowI htK8).eg nPr1 nPr2 nPr10), hH8.tr ((rl_rowI htK8).hs nPr1 nPr2 nPr10), hr8.tot, (rl_rowI htK8).bytes nPr0 nPr7 hb8, hn8, hf8, by omega⟩)
            · refine g_iconst (v := 0) Z dX4_takeHeads_74 (by decide) ?_
              exact g_zret Z dX4_takeHeads_75 (by rfl) (by omega) (by omega) (⟨Or.inl rfl, ⟨hG7, hH7, ⟨p + 2, hr7⟩, ⟨k, hk, hn7⟩⟩, hn7, hf7⟩)
          · have hi0 : 0 < i := by have := le_f (i := i) (N := 0) (by omega) (by decide) h34; omega
            refine g_aload_n Z dX4_takeHeads_37 rfl ?_
            refine g_getr Z 4 8 rfl (by decide) in4 lk9 dX4_takeHeads_38 (by assumption) (by assumption) (by assumption) ?_
            refine g_iload_n Z dX4_takeHeads_41 rfl ?_
            refine g_iald Z dX4_takeHeads_42 (by assumption) (by assumption) (by exact vin_of hkl5 (by omega) (by decide)) ?_
            refine g_aload_n Z dX4_takeHeads_43 rfl ?_
            refine g_getr Z 4 8 rfl (by decide) in4 lk9 dX4_takeHeads_44 (by assumption) (by assumption) (by assumption) ?_
            refine g_iload_n Z dX4_takeHeads_47 rfl ?_
            refine g_iconst (v := 1) Z dX4_takeHeads_48 (by decide) ?_
            refine g_isub Z dX4_takeHeads_49 ?_
            rw [show nI i - 1 = nI (i - 1) from pk_sub (a := i) (b := 1) (by omega)]
            refine g_iald Z dX4_takeHeads_50 (by assumption) (by assumption) (by exact vin_of hkl5 (by omega) (by decide)) ?_
            refine g_icmp_gt Z 66 dX4_takeHeads_51 (by decide) (fun h51 => ?_) (fun h51 => ?_)
            · refine g_aload_n Z dX4_takeHeads_66 rfl ?_
              refine g_iconst (v := 2) Z dX4_takeHeads_67 (by decide) ?_
              refine g_cvI Z (c_X4_isThere F.l F.D F.cy F.nw _ rd rk rt (p + 2) e hr5 2 (by decide)) 1 gX4_takeHeads_X4_isThere rfl (by decide +kernel) (by rw [hRf, hRl]; decide) (by assumption) (κ := 4) (by assumption) rfl (by decide) rfl rfl (Nat.le_of_ble_eq_true rfl) dX4_takeHeads_68 (by rw [hRc, hRs]; omega) (fun r T7 hp => ?_)
              obtain ⟨hE7, hp7, hcase7⟩ := hp
              have hr7 := hE7.rd hr5 hp7 hpa
              have hb7 := hE7.bytes hr5.2.1 hb5
              have hrL7 := hr7.1
              have hrK7 := hr7.2.1
              have hG7 := hG5.tr (hE7.eg hr5.2.1)
              have hH7 := hH5.tr (hE7.hs hr5.2.1)
              have hn7 := (hE7.2.2.1 4 (by decide)).trans hn5
              have hf7 := (hE7.2.2.1 7 (by decide)).trans hf5
              have hkL7 := hr7.2.2.2.1
              have hkK7 := hr7.2.2.2.2.1
              have hkl7 := hr7.2.2.2.2.2.1
              have hrk7 := hr7.2.2.1
              have hrt7 := hr7.2.2.2.2.2.2.1
              have htL7 := hr7.2.2.2.2.2.2.2.1
              have htK7 := hr7.2.2.2.2.2.2.2.2.1
              have htl7 := hr7.2.2.2.2.2.2.2.2.2.1
              refine g_if_ne Z 76 dX4_takeHeads_71 (by decide) (fun h71 => ?_) (fun h71 => ?_)
              · have hpb : p + 2 + 2 ≤ e := by
                  rcases hcase7 with ⟨-, h⟩ | h
                  · exact h
                  · exact absurd h h71
                refine g_aload_n Z dX4_takeHeads_76 rfl ?_
                refine g_getr Z 4 9 rfl (by decide) in4 lk15 dX4_takeHeads_77 (by assumption) (by assumption) (by assumption) ?_
                refine g_iload_n Z dX4_takeHeads_80 rfl ?_
                refine g_aload_n Z dX4_takeHeads_81 rfl ?_
                refine g_aload_n Z dX4_takeHeads_82 rfl ?_
                refine g_iconst (v := 2) Z dX4_takeHeads_83 (by decide) ?_
                refine g_cvL Z (c_X4_take F.l F.D F.cy F.nw _ rd rk rt (p + 2) e hr7 br h n u hb7 heu 2 (by decide) hpb) 2 gX4_takeHeads_X4_take rfl (by decide +kernel) (by rw [hRf, hRl]; decide) (by assumption) (κ := 4) (by assumption) rfl (by decide) rfl rfl (Nat.le_of_ble_eq_true rfl) dX4_takeHeads_84 (by rw [hRc, hRs]; omega) (fun r T8 hp => ?_)
                obtain ⟨hE8, hp8, v8, hv8, rfl⟩ := hp
                have hr8 := hE8.rd hr7 hp8 hpb
                have hb8 := hE8.bytes hr7.2.1 hb7
                have hrL8 := hr8.1
                have hrK8 := hr8.2.1
                have hG8 := hG7.tr (hE8.eg hr7.2.1)
                have hH8 := hH7.tr (hE8.hs hr7.2.1)
                have hn8 := (hE8.2.2.1 4 (by decide)).trans hn7
                have hf8 := (hE8.2.2.1 7 (by decide)).trans hf7
                have hkL8 := hr8.2.2.2.1
                have hkK8 := hr8.2.2.2.2.1
                have hkl8 := hr8.2.2.2.2.2.1
                have hrk8 := hr8.2.2.1
                have hrt8 := hr8.2.2.2.2.2.2.1
                have htL8 := hr8.2.2.2.2.2.2.2.1
                have htK8 := hr8.2.2.2.2.2.2.2.2.1
                have htl8 := hr8.2.2.2.2.2.2.2.2.2.1
                refine g_l2i Z dX4_takeHeads_87 ?_
                refine g_iconst (v := 1) Z dX4_takeHeads_88 (by decide) ?_
                refine g_iadd Z dX4_takeHeads_89 ?_
                refine g_iast Z dX4_takeHeads_90 (by assumption) (by assumption) (by exact vin_of htl8 (by omega) (by decide)) ?_
                refine g_iinc (c := 1) Z dX4_takeHeads_91 rfl (by decide) (by decide) ?_
                rw [nI_1]
                refine g_goto Z 2 dX4_takeHeads_94 (by decide) ?_
                exact g_lv (by (repeat (first | exact trivial | refine And.intro rfl ?_)); done) (ih (i + 1) (p + 2 + 2) _ (by omega) ⟨hG8.tr ((rl_rowI htK8).eg nPr1 nPr2 nPr10), hH8.tr ((rl_rowI htK8).hs nPr1 nPr2 nPr10), hr8.tot, (rl_rowI htK8).bytes nPr0 nPr7 hb8, hn8, hf8, by omega⟩)
              · refine g_iconst (v := 0) Z dX4_takeHeads_74 (by decide) ?_
                exact g_zret Z dX4_takeHeads_75 (by rfl) (by omega) (by omega) (⟨Or.inl rfl, ⟨hG7, hH7, ⟨p + 2, hr7⟩, ⟨k, hk, hn7⟩⟩, hn7, hf7⟩)
            · refine g_aload_n Z dX4_takeHeads_54 rfl ?_
              refine g_iconst (v := 5) Z dX4_takeHeads_55 (by decide) ?_
              refine g_aload_n Z dX4_takeHeads_56 rfl ?_
              refine g_geti Z 4 2 rfl (by decide) in4 lk25 dX4_takeHeads_57 (by assumption) (by assumption) ?_
              refine g_iconst (v := 2) Z dX4_takeHeads_60 (by decide) ?_
              refine g_isub Z dX4_takeHeads_61 ?_
              refine g_cvI Z (c_X4_tellFault F.l F.D F.cy F.nw _ rd rk rt (p + 2) e hr5 _ _) 2 gX4_takeHeads_X4_tellFault rfl (by decide +kernel) (by rw [hRf, hRl]; decide) (by assumption) (κ := 4) (by assumption) rfl (by decide) rfl rfl (Nat.le_of_ble_eq_true rfl) dX4_takeHeads_62 (by rw [hRc, hRs]; omega) (fun r T6 hp => ?_)
              obtain ⟨rfl, hE6, hp6⟩ := hp
              have hr6 := hE6.rd hr5 hp6 hpa
              exact g_zret Z dX4_takeHeads_65 (by rfl) (by omega) (by omega) (⟨Or.inl rfl, ⟨hG5.tr (hE6.eg hrK5), hH5.tr (hE6.hs hrK5), ⟨p + 2, hr6⟩, ⟨k, hk, (hE6.2.2.1 4 (by decide)).trans hn5⟩⟩, (hE6.2.2.1 4 (by decide)).trans hn5, (hE6.2.2.1 7 (by decide)).trans hf5⟩)
        · refine g_iconst (v := 0) Z dX4_takeHeads_18 (by decide) ?_
          exact g_zret Z dX4_takeHeads_19 (by rfl) (by omega) (by omega) (⟨Or.inl rfl, ⟨hG3, hH3, ⟨p, hr3⟩, ⟨k, hk, hn3⟩⟩, hn3, hf3⟩)
  refine g_iconst (v := 0) Z dX4_takeHeads_0 (by decide) ?_
  refine g_istore_n Z dX4_takeHeads_1 (by decide) ?_
  exact g_lv (by (repeat (first | exact trivial | refine And.intro rfl ?_)); done) (loop 9 0 p S (by omega) ⟨Eg.rf, fun _ _ _ k => k, hr, hb, hn, rfl, by omega⟩)

theorem tc_post {nw rd rk rt p e s it i p2 : Nat} {S T U V : PS} {r : Int32} (hE : Es nw S T) (hr : RdAt T rd rk rt p e) (hfi : T.fi rd = S.fi rd) (hs : SetAt T nw s it (i + 1)) (hX : Ex nw T U) (hr3 : RdAt U rd rk rt p e ∧ U.fi rd = T.fi rd) (hL : rd ∈ T.L) (hK : T.K rd = 4) (h1 : r = 0 ∨ r = 1) (h2 : Ei nw rd U V) (h3 : p2 ≤ e) (h4 : V.fi rd 2 = nI p2) : (r = 0 ∨ r = 1) ∧ Eg nw Pr S V ∧ (∃ p2, RdAt V rd rk rt p2 e) ∧ V.fi rd 4 = S.fi rd 4 ∧ V.fi rd 7 = S.fi rd 7 ∧ (r = 1 → SetAt V nw s it (i + 1)) := by
  have hKU := hr3.1.2.1
  refine ⟨h1, (hE.eg.tr hX.es.eg).tr (h2.eg hKU), ⟨p2, h2.rd hr3.1 h4 h3⟩, ?_, ?_, fun _ => h2.set hKU (hs.ex hX)⟩
  · rw [h2.2.2.1 4 (by decide), hr3.2, hfi]
  · rw [h2.2.2.1 7 (by decide), hr3.2, hfi]

set_option maxRecDepth 100000 in
set_option maxHeartbeats 2000000 in
/-- a container is read -/
theorem c_X4_takeContainer (l : Launch) (D : va_G) (cy : Nat → ClassId) (nw : Nat) (S : PS) (rd rk rt p e : Nat) (hr : RdAt S rd rk rt p e) (br h n u : Nat) (hb : BytesAt S br h n u) (heu : e ≤ u) (s it i : Nat) (hs : SetAt S nw s it i) (hi6 : i < 6) (hpf : S.fi rd 7 = -1 ∨ ∃ q : Nat, S.fi rd 7 = nI q ∧ q + 4 * i + 4 ≤ e) : kI l yX4_takeContainer wsX4_takeContainer 4 98 D cy nw [.ref rd, .ref br, .ref s, .int (nI i)] S (fun r T => (r = 0 ∨ r = 1) ∧ Eg nw Pr S T ∧ (∃ p2, RdAt T rd rk rt p2 e) ∧ T.fi rd 4 = S.fi rd 4 ∧ T.fi rd 7 = S.fi rd 7 ∧ (r = 1 → SetAt T nw s it (i + 1))) 1 1024 := by
  refine enterI (cc := cX4_takeContainer) (nL := 5) (ret := (some .boolean)) (by decide +kernel) rfl (Nat.le_of_ble_eq_true rfl) ?_
  intro F Z hl hR hD hcy hnw hnm
  subst hl hD hcy hnw
  have hRf : F.R.frames = 4 := by rw [hR]
  have hRc : F.R.cells = 1 := by rw [hR]
  have hRs : F.R.slots = 1024 := by rw [hR]
  have hRl : F.R.locals = 98 := by rw [hR]
  have in1 : ∀ w ∈ u_ws RX1 TX1 4, w ∈ wsX4_takeContainer := by decide +kernel
  have in2 : ∀ w ∈ u_ws RX2 TX2 2, w ∈ wsX4_takeContainer := by decide +kernel
  have in4 : ∀ w ∈ u_ws RX4 TX4 10, w ∈ wsX4_takeContainer := by decide +kernel
  have lk9 : Cond.fieldLink RX4 9 (TX4 8).1 (TX4 8).2.1 (TX4 8).2.2.1 ∈ wsX4_takeContainer := by decide +kernel
  have lk15 : Cond.fieldLink RX4 15 (TX4 9).1 (TX4 9).2.1 (TX4 9).2.2.1 ∈ wsX4_takeContainer := by decide +kernel
  have lk25 : Cond.fieldLink RX4 25 (TX4 2).1 (TX4 2).2.1 (TX4 2).2.2.1 ∈ wsX4_takeContainer := by decide +kernel
  have lk43 : Cond.fieldLink RX4 43 (TX4 6).1 (TX4 6).2.1 (TX4 6).2.2.1 ∈ wsX4_takeContainer := by decide +kernel
  have lk46 : Cond.fieldLink RX4 46 (TX4 7).1 (TX4 7).2.1 (TX4 7).2.2.1 ∈ wsX4_takeContainer := by decide +kernel
  have lk49 : Cond.fieldLink RX4 49 (TX2 1).1 (TX2 1).2.1 (TX2 1).2.2.1 ∈ wsX4_takeContainer := by decide +kernel
  have lk98 : Cond.fieldLink RX4 98 (TX2 0).1 (TX2 0).2.1 (TX2 0).2.2.1 ∈ wsX4_takeContainer := by decide +kernel
  have lk108 : Cond.fieldLink RX4 108 (TX1 1).1 (TX1 1).2.1 (TX1 1).2.2.1 ∈ wsX4_takeContainer := by decide +kernel
  obtain ⟨hrL, hrK, hrk, hkL, hkK, hkl, hrt, htL, htK, htl, hkt, hrp, hre, hpe, he6, hkeys⟩ := id hr
  obtain ⟨hsL, hsK, hsit, hitL, hitK, hitl, hsu, hu7, hsw, hsr⟩ := id hs
  have hbL := hb.1
  have hbK := hb.2.1
  have hcl : (nI i).toNatClampNeg = i := nI_clamp (by omega)
  have j45 : G F 5 S 0 0 (QI F (fun r T => (r = 0 ∨ r = 1) ∧ Eg F.nw Pr S T ∧ (∃ p2, RdAt T rd rk rt p2 e) ∧ T.fi rd 4 = S.fi rd 4 ∧ T.fi rd 7 = S.fi rd 7 ∧ (r = 1 → SetAt T F.nw s it (i + 1))) 1 1024) 45 [(0, .ref rd), (1, .ref br), (2, .ref s), (3, .int (nI i))] [] := by
    obtain ⟨c, hc, hcw⟩ := hsw i (by omega)
    obtain ⟨hcL, hcK, -, -⟩ := id hcw
    obtain ⟨key, hkey, ekey⟩ := hkeys i hi6
    refine g_aload_n Z dX4_takeContainer_45 rfl ?_
    refine g_getr Z 2 0 rfl (by decide) in2 lk98 dX4_takeContainer_46 (by assumption) (by assumption) (by assumption) ?_
    refine g_iload_n Z dX4_takeContainer_49 rfl ?_
    refine g_aald10 Z dX4_takeContainer_50 (by assumption) (by assumption) (by exact vin_of hitl (by omega) (by decide)) (by rw [hcl]; exact hc) ?_
    refine g_astore Z dX4_takeContainer_51 (by decide) ?_
    refine g_aload Z dX4_takeContainer_53 rfl ?_
    refine g_aload_n Z dX4_takeContainer_55 rfl ?_
    refine g_getr Z 4 8 rfl (by decide) in4 lk9 dX4_takeContainer_56 (by assumption) (by assumption) (by assumption) ?_
    refine g_iload_n Z dX4_takeContainer_59 rfl ?_
    refine g_iald Z dX4_takeContainer_60 (by assumption) (by assumption) (by exact vin_of hkl hi6 (by decide)) ?_
    rw [hcl, ekey]
    refine g_cvV Z (c_X1_begin F.l F.D F.cy F.nw _ c hcw key hkey) 1 gX4_takeContainer_X1_begin rfl (by decide +kernel) (by rw [hRf, hRl]; decide) (by assumption) (κ := 1) (by assumption) rfl (by decide) rfl rfl (Nat.le_of_ble_eq_true rfl) dX4_takeContainer_61 (by rw [hRc, hRs]; omega) (fun T1 hp => ?_)
    obtain ⟨hEx, hcr⟩ := hp
    have hs1 := hs.ex hEx
    have hc1 : T1.rr it i = some c := by rw [((hEx.1 it hitL).2.2.2.2 (by rw [hitK]; decide)).2]; exact hc
    obtain ⟨hs2, hE2⟩ := used_set hs1 (v := i + 1) (by omega) (fun q hq => mix_step hc1 hcr hs1 q hq)
    have hE02 : Es F.nw S (T1.setI s 1 (nI (i + 1))) := hEx.es.tr hE2
    obtain ⟨hr2, hfi2⟩ := hE02.rd hr
    have hb2 := hE02.bytes hb
    have hcr2 := hE2.2.2.1 c hcr
    have hsL1 := hs1.1
    have hsK1 := hs1.2.1
    refine g_aload_n Z dX4_takeContainer_64 rfl ?_
    refine g_iload_n Z dX4_takeContainer_65 rfl ?_
    refine g_iconst (v := 1) Z dX4_takeContainer_66 (by decide) ?_
    refine g_iadd Z dX4_takeContainer_67 ?_
    rw [nI_1]
    refine g_puti Z 2 1 rfl (by decide) tyX2 tyX2_ok nmX2 rfl in2 lk49 dX4_takeContainer_68 rfl rfl (by assumption) (by assumption) ?_
    generalize T1.setI s 1 (nI (i + 1)) = T2 at hs2 hE2 hE02 hr2 hfi2 hb2 hcr2 ⊢
    obtain ⟨hrL2, hrK2, hrk2, hkL2, hkK2, hkl2, hrt2, htL2, htK2, htl2, -, hrp2, -, hpe2, -, -⟩ := id hr2
    obtain ⟨hcL2, hcK2, -, -⟩ := id hcr2
    have hX : ∀ v : Int32, Ex F.nw T2 (T2.setI c 1 v) := fun v => Cs.ex (c := c) (Cs.rf.setI (by decide)) hcK2
    have hr3 : ∀ v : Int32, RdAt (T2.setI c 1 v) rd rk rt p e ∧ (T2.setI c 1 v).fi rd = T2.fi rd := fun v => (hX v).es.rd hr2
    have hb3 : ∀ v : Int32, BytesAt (T2.setI c 1 v) br h n u := fun v => (hX v).es.bytes hb2
    have hbL2 := hb2.1
    have hbK2 := hb2.2.1
    refine g_aload_n Z dX4_takeContainer_71 rfl ?_
    refine g_geti Z 4 6 rfl (by decide) in4 lk43 dX4_takeContainer_72 (by assumption) (by assumption) ?_
    refine g_iload_n Z dX4_takeContainer_75 rfl ?_
    refine g_iushr Z dX4_takeContainer_76 ?_
    refine g_iconst (v := 1) Z dX4_takeContainer_77 (by decide) ?_
    refine g_iand Z dX4_takeContainer_78 ?_
    refine g_if_eq Z 102 dX4_takeContainer_79 (by decide) (fun h79 => ?_) (fun h79 => ?_)
    · refine g_aload_n Z dX4_takeContainer_102 rfl ?_
      refine g_getr Z 4 9 rfl (by decide) in4 lk15 dX4_takeContainer_103 (by assumption) (by assumption) (by assumption) ?_
      refine g_iload_n Z dX4_takeContainer_106 rfl ?_
      refine g_iald Z dX4_takeContainer_107 (by assumption) (by assumption) (by exact vin_of htl2 hi6 (by decide)) ?_
      refine g_sipush (v := 4096) Z dX4_takeContainer_108 (by decide) ?_
      refine g_icmp_gt Z 134 dX4_takeContainer_111 (by decide) (fun h111 => ?_) (fun h111 => ?_)
      · refine g_aload Z dX4_takeContainer_134 rfl ?_
        refine g_iconst (v := 1) Z dX4_takeContainer_136 (by decide) ?_
        refine g_puti Z 1 1 rfl (by decide) tyX1 tyX1_ok nmX1 rfl in1 lk108 dX4_takeContainer_137 rfl rfl (by assumption) (by assumption) ?_
        refine g_aload_n Z dX4_takeContainer_140 rfl ?_
        refine g_aload_n Z dX4_takeContainer_141 rfl ?_
        refine g_aload Z dX4_takeContainer_142 rfl ?_
        refine g_aload_n Z dX4_takeContainer_144 rfl ?_
        refine g_getr Z 4 9 rfl (by decide) in4 lk15 dX4_takeContainer_145 (by assumption) (by assumption) (by assumption) ?_
        refine g_iload_n Z dX4_takeContainer_148 rfl ?_
        refine g_iald Z dX4_takeContainer_149 (by assumption) (by assumption) (by exact vin_of htl2 hi6 (by decide)) ?_
        refine g_cvI Z (c_X4_takeBitmap F.l F.D F.cy F.nw _ rd rk rt p e (hr3 1).1 br h n u (hb3 1) heu c ((hX 1).2.2 c hcr2) _) 3 gX4_takeContainer_X4_takeBitmap rfl (by decide +kernel) (by rw [hRf, hRl]; decide) (by exact hrL2) (κ := 4) (by exact hrK2) rfl (by decide) rfl rfl (Nat.le_of_ble_eq_true rfl) dX4_takeContainer_150 (by rw [hRc, hRs]; omega) (fun r T3 hq => ?_)
        have hE3 := hq.2.1
        exact g_zret Z dX4_takeContainer_153 (nar01 hq.1) (by omega) (by omega) (by obtain ⟨h1, h2, p2, h3, h4⟩ := hq; exact tc_post hE02 hr2 hfi2 hs2 (hX 1) (hr3 1) hrL2 hrK2 h1 h2 h3 h4)
      · refine g_aload Z dX4_takeContainer_114 rfl ?_
        refine g_iconst (v := 0) Z dX4_takeContainer_116 (by decide) ?_
        refine g_puti Z 1 1 rfl (by decide) tyX1 tyX1_ok nmX1 rfl in1 lk108 dX4_takeContainer_117 rfl rfl (by assumption) (by assumption) ?_
        refine g_aload_n Z dX4_takeContainer_120 rfl ?_
        refine g_aload_n Z dX4_takeContainer_121 rfl ?_
        refine g_aload Z dX4_takeContainer_122 rfl ?_
        refine g_aload_n Z dX4_takeContainer_124 rfl ?_
        refine g_getr Z 4 9 rfl (by decide) in4 lk15 dX4_takeContainer_125 (by assumption) (by assumption) (by assumption) ?_
        refine g_iload_n Z dX4_takeContainer_128 rfl ?_
        refine g_iald Z dX4_takeContainer_129 (by assumption) (by assumption) (by exact vin_of htl2 hi6 (by decide)) ?_
        refine g_cvI Z (c_X4_takeArray F.l F.D F.cy F.nw _ rd rk rt p e (hr3 0).1 br h n u (hb3 0) heu c ((hX 0).2.2 c hcr2) _) 3 gX4_takeContainer_X4_takeArray rfl (by decide +kernel) (by rw [hRf, hRl]; decide) (by exact hrL2) (κ := 4) (by exact hrK2) rfl (by decide) rfl rfl (Nat.le_of_ble_eq_true rfl) dX4_takeContainer_130 (by rw [hRc, hRs]; omega) (fun r T3 hq => ?_)
        have hE3 := hq.2.1
        exact g_zret Z dX4_takeContainer_133 (nar01 hq.1) (by omega) (by omega) (by obtain ⟨h1, h2, p2, h3, h4⟩ := hq; exact tc_post hE02 hr2 hfi2 hs2 (hX 0) (hr3 0) hrL2 hrK2 h1 h2 h3 h4)
    · refine g_aload Z dX4_takeContainer_82 rfl ?_
      refine g_iconst (v := 2) Z dX4_takeContainer_84 (by decide) ?_
      refine g_puti Z 1 1 rfl (by decide) tyX1 tyX1_ok nmX1 rfl in1 lk108 dX4_takeContainer_85 rfl rfl (by assumption) (by assumption) ?_
      refine g_aload_n Z dX4_takeContainer_88 rfl ?_
      refine g_aload_n Z dX4_takeContainer_89 rfl ?_
      refine g_aload Z dX4_takeContainer_90 rfl ?_
      refine g_aload_n Z dX4_takeContainer_92 rfl ?_
      refine g_getr Z 4 9 rfl (by decide) in4 lk15 dX4_takeContainer_93 (by assumption) (by assumption) (by assumption) ?_
      refine g_iload_n Z dX4_takeContainer_96 rfl ?_
      refine g_iald Z dX4_takeContainer_97 (by assumption) (by assumption) (by exact vin_of htl2 hi6 (by decide)) ?_
      refine g_cvI Z (c_X4_takeRuns F.l F.D F.cy F.nw _ rd rk rt p e (hr3 2).1 br h n u (hb3 2) heu c ((hX 2).2.2 c hcr2) _) 3 gX4_takeContainer_X4_takeRuns rfl (by decide +kernel) (by rw [hRf, hRl]; decide) (by exact hrL2) (κ := 4) (by exact hrK2) rfl (by decide) rfl rfl (Nat.le_of_ble_eq_true rfl) dX4_takeContainer_98 (by rw [hRc, hRs]; omega) (fun r T3 hq => ?_)
      have hE3 := hq.2.1
      exact g_zret Z dX4_takeContainer_101 (nar01 hq.1) (by omega) (by omega) (by obtain ⟨h1, h2, p2, h3, h4⟩ := hq; exact tc_post hE02 hr2 hfi2 hs2 (hX 2) (hr3 2) hrL2 hrK2 h1 h2 h3 h4)
  refine g_aload_n Z dX4_takeContainer_0 rfl ?_
  refine g_geti Z 4 7 rfl (by decide) in4 lk46 dX4_takeContainer_1 (by assumption) (by assumption) ?_
  refine g_iconst (v := (-1)) Z dX4_takeContainer_4 (by decide) ?_
  refine g_icmp_eq Z 45 dX4_takeContainer_5 (by decide) (fun h5 => ?_) (fun h5 => ?_)
  · first | exact g_lv (by (repeat (first | exact trivial | refine And.intro rfl ?_)); done) j45 | (rw [hq] at j45; exact g_lv (by (repeat (first | exact trivial | refine And.intro rfl ?_)); done) j45)
  · obtain ⟨q, hq, hqe⟩ : ∃ q : Nat, S.fi rd 7 = nI q ∧ q + 4 * i + 4 ≤ e := by
      rcases hpf with h | h
      · exact absurd h h5
      · exact h
    refine g_aload_n Z dX4_takeContainer_8 rfl ?_
    refine g_aload_n Z dX4_takeContainer_9 rfl ?_
    refine g_geti Z 4 7 rfl (by decide) in4 lk46 dX4_takeContainer_10 (by assumption) (by assumption) ?_
    rw [show S.fi rd 7 = nI q from hq]
    refine g_iconst (v := 4) Z dX4_takeContainer_13 (by decide) ?_
    refine g_iload_n Z dX4_takeContainer_14 rfl ?_
    refine g_imul Z dX4_takeContainer_15 ?_
    rw [show (4 : Int32) * nI i = nI (4 * i) from pk_mul 4 i]
    refine g_iadd Z dX4_takeContainer_16 ?_
    rw [nI_add]
    refine g_iconst (v := 4) Z dX4_takeContainer_17 (by decide) ?_
    refine g_cvL Z (c_X0_numberAt F.l F.D F.cy F.nw _ br h n u hb (q + 4 * i) 4 (by decide) (by omega)) 2 gX4_takeContainer_X0_numberAt rfl (by decide +kernel) (by rw [hRf, hRl]; decide) (by assumption) (κ := 0) (by assumption) rfl (by decide) rfl rfl (Nat.le_of_ble_eq_true rfl) dX4_takeContainer_18 (by rw [hRc, hRs]; omega) (fun r T1 hp => ?_)
    obtain ⟨rfl, -⟩ := hp
    refine g_aload_n Z dX4_takeContainer_21 rfl ?_
    refine g_geti Z 4 2 rfl (by decide) in4 lk25 dX4_takeContainer_22 (by assumption) (by assumption) ?_
    refine g_i2l Z dX4_takeContainer_25 ?_
    refine g_lcmp Z dX4_takeContainer_26 ?_
    refine g_if_eq Z 45 dX4_takeContainer_27 (by decide) (fun h27 => ?_) (fun h27 => ?_)
    · first | exact g_lv (by (repeat (first | exact trivial | refine And.intro rfl ?_)); done) j45 | (rw [hq] at j45; exact g_lv (by (repeat (first | exact trivial | refine And.intro rfl ?_)); done) j45)
    · refine g_aload_n Z dX4_takeContainer_30 rfl ?_
      refine g_bipush (v := 6) Z dX4_takeContainer_31 (by decide) ?_
      refine g_aload_n Z dX4_takeContainer_33 rfl ?_
      refine g_geti Z 4 7 rfl (by decide) in4 lk46 dX4_takeContainer_34 (by assumption) (by assumption) ?_
      refine g_iconst (v := 4) Z dX4_takeContainer_37 (by decide) ?_
      refine g_iload_n Z dX4_takeContainer_38 rfl ?_
      refine g_imul Z dX4_takeContainer_39 ?_
      refine g_iadd Z dX4_takeContainer_40 ?_
      refine g_cvI Z (c_X4_tellFault F.l F.D F.cy F.nw _ rd rk rt p e hr _ _) 2 gX4_takeContainer_X4_tellFault rfl (by decide +kernel) (by rw [hRf, hRl]; decide) (by assumption) (κ := 4) (by assumption) rfl (by decide) rfl rfl (Nat.le_of_ble_eq_true rfl) dX4_takeContainer_41 (by rw [hRc, hRs]; omega) (fun r T1 hp => ?_)
      obtain ⟨rfl, hE1, hp1⟩ := hp
      have hr3 := hE1.rd hr hp1 hpe
      exact g_zret Z dX4_takeContainer_44 (by rfl) (by omega) (by omega) (⟨Or.inl rfl, hE1.eg hrK, ⟨p, hr3⟩, hE1.2.2.1 4 (by decide), (hE1.2.2.1 7 (by decide)).trans (by first | rfl | exact hq), fun h => absurd h (by decide)⟩)
