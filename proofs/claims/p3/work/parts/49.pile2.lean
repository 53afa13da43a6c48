abbrev Pp : Nat → Prop := fun κ => κ = 3
abbrev nPp1 : ¬ Pp 1 := by decide
abbrev nPp2 : ¬ Pp 2 := by decide
abbrev nPp10 : ¬ Pp 10 := by decide
/-- a row of eight sets -/
def SaAt (S : PS) (nw sa : Nat) : Prop := sa ∈ S.L ∧ S.K sa = 11 ∧ S.ln sa = 8 ∧ ∀ i, i < 8 → ∃ s, S.rr sa i = some s ∧ SetOK S nw s
def PlAt (S : PS) (nw pl la d : Nat) : Prop := pl ∈ S.L ∧ S.K pl = 3 ∧ S.fr pl 0 = some la ∧ SaAt S nw la ∧ S.fi pl 1 = nI d ∧ d ≤ 8
theorem SaAt.eg {nw sa : Nat} {Q : Nat → Prop} {S T : PS} (h : Eg nw Q S T) (h11 : ¬ Q 11) (k : SaAt S nw sa) : SaAt T nw sa := by
  obtain ⟨k1, k2, k3, k4⟩ := k
  obtain ⟨a1, a2, a3, -, -, a6⟩ := h.1 sa k1
  have e := a6 (by rw [k2]; exact h11) (by rw [k2]; decide) (by rw [k2]; decide)
  refine ⟨a1, a2.trans k2, a3.trans k3, fun i hi => ?_⟩
  obtain ⟨s, h1, h2⟩ := k4 i hi
  exact ⟨s, by rw [e]; exact h1, h.2.2.2 s h2⟩
theorem PlAt.es {nw pl la d : Nat} {S T : PS} (h : Es nw S T) (k : PlAt S nw pl la d) : PlAt T nw pl la d := by
  obtain ⟨k1, k2, k3, k4, k5, k6⟩ := k
  obtain ⟨a1, a2, -, a4, -⟩ := h.1 pl k1
  obtain ⟨e1, e2⟩ := a4 (by rw [k2]; decide) (by rw [k2]; decide)
  exact ⟨a1, a2.trans k2, by rw [e2]; exact k3, k4.eg (h.eg (Q := Pp)) (by decide), by rw [e1]; exact k5, k6⟩
theorem PlAt.dep {nw pl la d d2 : Nat} {S : PS} (k : PlAt S nw pl la d) (h : d2 ≤ 8) : PlAt (S.setI pl 1 (nI d2)) nw pl la d2 ∧ Eg nw Pp S (S.setI pl 1 (nI d2)) := by
  obtain ⟨k1, k2, k3, k4, k5, k6⟩ := k
  have hR : Rl Pp S (S.setI pl 1 (nI d2)) := Rl.rf.setI k2
  have hG := hR.eg (nw := nw) nPp1 nPp2 nPp10
  exact ⟨⟨k1, k2, k3, k4.eg hG (by decide), up2_self _ _ _ _, h⟩, hG⟩

set_option maxRecDepth 100000 in
set_option maxHeartbeats 2000000 in
/-- the two upper sets become one -/
theorem c_X3_joinUpperTwo (l : Launch) (D : va_G) (cy : Nat → ClassId) (nw : Nat) (S : PS) (pl la d : Nat) (hp0 : PlAt S nw pl la d) (s : Nat) (hs0 : SetOK S nw s) (x : Int32) : kI l yX3_joinUpperTwo wsX3_joinUpperTwo 4 109 D cy nw [.ref pl, .int x, .ref s] S (fun r T => (r = 0 ∨ r = 1) ∧ Eg nw Pp S T ∧ ∃ d, PlAt T nw pl la d) 12 12288 := by
  refine enterI (cc := cX3_joinUpperTwo) (nL := 3) (ret := (some .boolean)) (by decide +kernel) rfl (Nat.le_of_ble_eq_true rfl) ?_
  intro F Z hl hR hD hcy hnw hnm
  subst hl hD hcy hnw
  have hRf : F.R.frames = 4 := by rw [hR]
  have hRc : F.R.cells = 12 := by rw [hR]
  have hRs : F.R.slots = 12288 := by rw [hR]
  have hRl : F.R.locals = 109 := by rw [hR]
  have in3 : ∀ w ∈ u_ws RX3 TX3 2, w ∈ wsX3_joinUpperTwo := by decide +kernel
  have lk11 : Cond.fieldLink RX3 11 (TX3 0).1 (TX3 0).2.1 (TX3 0).2.2.1 ∈ wsX3_joinUpperTwo := by decide +kernel
  have lk26 : Cond.fieldLink RX3 26 (TX3 1).1 (TX3 1).2.1 (TX3 1).2.2.1 ∈ wsX3_joinUpperTwo := by decide +kernel
  obtain ⟨hpL, hpK, hpl, hla, hpd, hd8⟩ := id hp0
  obtain ⟨hlL, hlK, hll, hls⟩ := id hla
  obtain ⟨its, us, hs⟩ := id hs0
  refine g_aload_n Z dX3_joinUpperTwo_0 rfl ?_
  refine g_geti Z 3 1 rfl (by decide) in3 lk26 dX3_joinUpperTwo_1 (by assumption) (by assumption) ?_
  rw [hpd]
  refine g_iconst (v := 2) Z dX3_joinUpperTwo_4 (by decide) ?_
  refine g_icmp_lt Z 38 dX3_joinUpperTwo_5 (by decide) (fun h5 => ?_) (fun h5 => ?_)
  · refine g_iconst (v := 0) Z dX3_joinUpperTwo_38 (by decide) ?_
    exact g_zret Z dX3_joinUpperTwo_39 (by rfl) (by omega) (by omega) (by first | exact ⟨Or.inl rfl, Es.eg hE, d, hp0.es hE⟩ | exact ⟨Or.inl rfl, Eg.rf, d, hp0⟩)
  · have hd2 : 2 ≤ d := lt_f (N := 2) (by omega) (by decide) h5
    obtain ⟨a, ha, ita, ua, hsa⟩ := hls (d - 2) (by omega)
    obtain ⟨b, hb, itb, ub, hsb⟩ := hls (d - 1) (by omega)
    have hc2 : (nI (d - 2)).toNatClampNeg = d - 2 := nI_clamp (by omega)
    have hc1 : (nI (d - 1)).toNatClampNeg = d - 1 := nI_clamp (by omega)
    have hsL := hs.1
    have hsK := hs.2.1
    refine g_aload_n Z dX3_joinUpperTwo_8 rfl ?_
    refine g_iload_n Z dX3_joinUpperTwo_9 rfl ?_
    refine g_aload_n Z dX3_joinUpperTwo_10 rfl ?_
    refine g_getr Z 3 0 rfl (by decide) in3 lk11 dX3_joinUpperTwo_11 (by assumption) (by assumption) (by assumption) ?_
    refine g_aload_n Z dX3_joinUpperTwo_14 rfl ?_
    refine g_geti Z 3 1 rfl (by decide) in3 lk26 dX3_joinUpperTwo_15 (by assumption) (by assumption) ?_
    rw [hpd]
    refine g_iconst (v := 2) Z dX3_joinUpperTwo_18 (by decide) ?_
    refine g_isub Z dX3_joinUpperTwo_19 ?_
    rw [show nI d - 2 = nI (d - 2) from pk_sub (a := d) (b := 2) (by omega)]
    refine g_aald11 Z dX3_joinUpperTwo_20 (by assumption) (by assumption) (by exact vin_of hll (by omega) (by decide)) (by rw [hc2]; exact ha) ?_
    refine g_aload_n Z dX3_joinUpperTwo_21 rfl ?_
    refine g_getr Z 3 0 rfl (by decide) in3 lk11 dX3_joinUpperTwo_22 (by assumption) (by assumption) (by assumption) ?_
    refine g_aload_n Z dX3_joinUpperTwo_25 rfl ?_
    refine g_geti Z 3 1 rfl (by decide) in3 lk26 dX3_joinUpperTwo_26 (by assumption) (by assumption) ?_
    rw [hpd]
    refine g_iconst (v := 1) Z dX3_joinUpperTwo_29 (by decide) ?_
    refine g_isub Z dX3_joinUpperTwo_30 ?_
    rw [show nI d - 1 = nI (d - 1) from pk_sub (a := d) (b := 1) (by omega)]
    refine g_aald11 Z dX3_joinUpperTwo_31 (by assumption) (by assumption) (by exact vin_of hll (by omega) (by decide)) (by rw [hc1]; exact hb) ?_
    refine g_cvI Z (c_X2_becomeJoin F.l F.D F.cy F.nw _ s its us a ita ua b itb ub hs hsa hsb _) 3 gX3_joinUpperTwo_X2_becomeJoin rfl (by decide +kernel) (by rw [hRf, hRl]; decide) (by assumption) (κ := 2) (by assumption) rfl (by decide) rfl rfl (Nat.le_of_ble_eq_true rfl) dX3_joinUpperTwo_32 (by rw [hRc, hRs]; omega) (fun r T1 hp => ?_)
    obtain ⟨h01, hE⟩ := hp
    refine g_if_ne Z 40 dX3_joinUpperTwo_35 (by decide) (fun h35 => ?_) (fun h35 => ?_)
    · have hp1 := hp0.es hE
      obtain ⟨hpL1, hpK1, hpl1, hla1, hpd1, -⟩ := id hp1
      obtain ⟨hp2, hG2⟩ := hp1.dep (d2 := d - 1) (by omega)
      obtain ⟨hpL2, hpK2, hpl2, hla2, hpd2, -⟩ := id hp2
      obtain ⟨hlL2, hlK2, hll2, hls2⟩ := id hla2
      obtain ⟨a2, ha2, ia2, ua2, hsa2⟩ := hls2 (d - 2) (by omega)
      obtain ⟨is2, us2, hss2⟩ := hG2.2.2.2 s (hE.2.2.2 s hs0)
      refine g_aload_n Z dX3_joinUpperTwo_40 rfl ?_
      refine g_dup Z dX3_joinUpperTwo_41 rfl ?_
      refine g_geti Z 3 1 rfl (by decide) in3 lk26 dX3_joinUpperTwo_42 (by assumption) (by assumption) ?_
      rw [hpd1]
      refine g_iconst (v := 1) Z dX3_joinUpperTwo_45 (by decide) ?_
      refine g_isub Z dX3_joinUpperTwo_46 ?_
      rw [show nI d - 1 = nI (d - 1) from pk_sub (a := d) (b := 1) (by omega)]
      refine g_puti Z 3 1 rfl (by decide) tyX3 tyX3_ok nmX3 rfl in3 lk26 dX3_joinUpperTwo_47 rfl rfl (by assumption) (by assumption) ?_
      generalize T1.setI pl 1 (nI (d - 1)) = T2 at hp2 hG2 hpL2 hpK2 hpl2 hla2 hpd2 hlL2 hlK2 hll2 hls2 ha2 hsa2 hss2 ⊢
      refine g_aload_n Z dX3_joinUpperTwo_50 rfl ?_
      refine g_getr Z 3 0 rfl (by decide) in3 lk11 dX3_joinUpperTwo_51 (by assumption) (by assumption) (by assumption) ?_
      refine g_aload_n Z dX3_joinUpperTwo_54 rfl ?_
      refine g_geti Z 3 1 rfl (by decide) in3 lk26 dX3_joinUpperTwo_55 (by assumption) (by assumption) ?_
      rw [hpd2]
      refine g_iconst (v := 1) Z dX3_joinUpperTwo_58 (by decide) ?_
      refine g_isub Z dX3_joinUpperTwo_59 ?_
      rw [show nI (d - 1) - 1 = nI (d - 2) from (pk_sub (a := d - 1) (b := 1) (by omega)).trans (congrArg nI (by omega))]
      refine g_aald11 Z dX3_joinUpperTwo_60 (by assumption) (by assumption) (by exact vin_of hll2 (by omega) (by decide)) (by rw [hc2]; exact ha2) ?_
      refine g_aload_n Z dX3_joinUpperTwo_61 rfl ?_
      refine g_cvV Z (c_X2_exchange F.l F.D F.cy F.nw _ a2 s ia2 is2 ua2 us2 hsa2 hss2) 1 gX3_joinUpperTwo_X2_exchange rfl (by decide +kernel) (by rw [hRf, hRl]; decide) (by exact hsa2.1) (κ := 2) (by exact hsa2.2.1) rfl (by decide) rfl rfl (Nat.le_of_ble_eq_true rfl) dX3_joinUpperTwo_62 (by rw [hRc, hRs]; omega) (fun T3 hp => ?_)
      refine g_iconst (v := 1) Z dX3_joinUpperTwo_65 (by decide) ?_
      exact g_zret Z dX3_joinUpperTwo_66 (by rfl) (by omega) (by omega) (⟨Or.inr rfl, (Es.eg hE).tr (hG2.tr (Es.eg hp)), d - 1, hp2.es hp⟩)
    · refine g_iconst (v := 0) Z dX3_joinUpperTwo_38 (by decide) ?_
      exact g_zret Z dX3_joinUpperTwo_39 (by rfl) (by omega) (by omega) (by first | exact ⟨Or.inl rfl, Es.eg hE, d, hp0.es hE⟩ | exact ⟨Or.inl rfl, Eg.rf, d, hp0⟩)

set_option maxRecDepth 100000 in
set_option maxHeartbeats 2000000 in
/-- a formula is worked out -/
theorem c_X3_evaluate (l : Launch) (D : va_G) (cy : Nat → ClassId) (nw : Nat) (S : PS) (pl la d : Nat) (hp0 : PlAt S nw pl la d) (x : Int64) (k : Nat) (hk : k ≤ 8) (sa : Nat) (hsa : SaAt S nw sa) (s : Nat) (hs0 : SetOK S nw s) : kI l yX3_evaluate wsX3_evaluate 5 131 D cy nw [.ref pl, .long x, .int (nI k), .ref sa, .ref s] S (fun r T => (r = 0 ∨ r = 1) ∧ Eg nw Pp S T ∧ ∃ d, PlAt T nw pl la d) (12 * k) (12288 * k) := by
  refine enterI (cc := cX3_evaluate) (nL := 8) (ret := (some .boolean)) (by decide +kernel) rfl (Nat.le_of_ble_eq_true rfl) ?_
  intro F Z hl hR hD hcy hnw hnm
  subst hl hD hcy hnw
  have hRf : F.R.frames = 5 := by rw [hR]
  have hRc : F.R.cells = (12 * k) := by rw [hR]
  have hRs : F.R.slots = (12288 * k) := by rw [hR]
  have hRl : F.R.locals = 131 := by rw [hR]
  have in3 : ∀ w ∈ u_ws RX3 TX3 2, w ∈ wsX3_evaluate := by decide +kernel
  have lk11 : Cond.fieldLink RX3 11 (TX3 0).1 (TX3 0).2.1 (TX3 0).2.2.1 ∈ wsX3_evaluate := by decide +kernel
  have lk26 : Cond.fieldLink RX3 26 (TX3 1).1 (TX3 1).2.1 (TX3 1).2.2.1 ∈ wsX3_evaluate := by decide +kernel
  have loop : ∀ (m i d : Nat) (T : PS), 9 - i < m → (Eg F.nw Pp S T ∧ PlAt T F.nw pl la d ∧ i ≤ k) → G F 8 T (12 * i) (12288 * i) (QI F (fun r T => (r = 0 ∨ r = 1) ∧ Eg F.nw Pp S T ∧ ∃ d, PlAt T F.nw pl la d) (12 * k) (12288 * k)) 8 [(0, .ref pl), (1, .long x), (3, .int (nI k)), (4, .ref sa), (5, .ref s), (6, .int (nI i))] [] := by
    intro m
    induction m with
    | zero => intros; omega
    | succ m ih =>
      intro i d T hm ⟨hG, hp1, hik⟩
      obtain ⟨hpL, hpK, hpl, hla, hpd, hd8⟩ := id hp1
      obtain ⟨hlL, hlK, hll, hls⟩ := id hla
      have hs1 := hG.2.2.2 s hs0
      obtain ⟨hsaL, hsaK, hsal, hsas⟩ := hsa.eg hG (by decide)
      have hsL : s ∈ T.L := hs1.choose_spec.choose_spec.1
      have hsK : T.K s = 2 := hs1.choose_spec.choose_spec.2.1
      have hsg := sg_lt x i
      have j124 : ∀ (d2 : Nat) (T2 : PS) (q : Int32), i < k → Eg F.nw Pp S T2 → PlAt T2 F.nw pl la d2 → G F 8 T2 (12 * i + 12) (12288 * i + 12288) (QI F (fun r T => (r = 0 ∨ r = 1) ∧ Eg F.nw Pp S T ∧ ∃ d, PlAt T F.nw pl la d) (12 * k) (12288 * k)) 124 [(0, .ref pl), (1, .long x), (3, .int (nI k)), (4, .ref sa), (5, .ref s), (6, .int (nI i))] [] := by
        intro d2 T2 q hlt hG2 hp2
        refine g_iinc (c := 1) Z dX3_evaluate_124 rfl (by decide) (by decide) ?_
        rw [nI_1]
        refine g_goto Z 8 dX3_evaluate_127 (by decide) ?_
        exact g_widen (by omega) (by omega) (g_lv (by (repeat (first | exact trivial | refine And.intro rfl ?_)); done) (ih (i + 1) d2 T2 (by omega) ⟨hG2, hp2, by omega⟩))
      refine g_iload Z dX3_evaluate_8 rfl ?_
      refine g_iload_n Z dX3_evaluate_10 rfl ?_
      refine g_icmp_ge Z 130 dX3_evaluate_11 (by decide) (fun h11 => ?_) (fun h11 => ?_)
      · refine g_iconst (v := 1) Z dX3_evaluate_130 (by decide) ?_
        exact g_zret Z dX3_evaluate_131 (by rfl) (by omega) (by omega) (⟨Or.inr rfl, hG, d, hp1⟩)
      · have hlt : i < k := ge_f (by omega) (by omega) h11
        refine g_lload_n Z dX3_evaluate_14 rfl ?_
        refine g_iload Z dX3_evaluate_15 rfl ?_
        refine g_csI Z (c_X3_signAt F.l F.D F.cy F.nw _ x i) 2 gX3_evaluate_X3_signAt rfl (by decide +kernel) (by rw [hRf, hRl]; decide) rfl rfl (Nat.le_of_ble_eq_true rfl) dX3_evaluate_17 (by rw [hRc, hRs]; omega) (fun r T1 hp => ?_)
        obtain ⟨rfl, rfl⟩ := hp
        refine g_istore Z dX3_evaluate_20 (by decide) ?_
        refine g_iload Z dX3_evaluate_22 rfl ?_
        refine g_csI Z (c_X3_isJoin F.l F.D F.cy F.nw _ (sg x i) hsg) 1 gX3_evaluate_X3_isJoin rfl (by decide +kernel) (by rw [hRf, hRl]; decide) rfl rfl (Nat.le_of_ble_eq_true rfl) dX3_evaluate_24 (by rw [hRc, hRs]; omega) (fun r T1 hp => ?_)
        obtain ⟨rfl, -⟩ := hp
        refine g_if_eq Z 46 dX3_evaluate_27 (by decide) (fun h27 => ?_) (fun h27 => ?_)
        · refine g_aload_n Z dX3_evaluate_46 rfl ?_
          refine g_geti Z 3 1 rfl (by decide) in3 lk26 dX3_evaluate_47 (by assumption) (by assumption) ?_
          rw [hpd]
          refine g_bipush (v := 8) Z dX3_evaluate_50 (by decide) ?_
          refine g_icmp_ge Z 84 dX3_evaluate_52 (by decide) (fun h52 => ?_) (fun h52 => ?_)
          · refine g_aload_n Z dX3_evaluate_84 rfl ?_
            refine g_geti Z 3 1 rfl (by decide) in3 lk26 dX3_evaluate_85 (by assumption) (by assumption) ?_
            rw [hpd]
            refine g_bipush (v := 8) Z dX3_evaluate_88 (by decide) ?_
            refine g_icmp_ge Z 124 dX3_evaluate_90 (by decide) (fun h90 => ?_) (fun h90 => ?_)
            · exact g_widen (by omega) (by omega) (g_lv (by (repeat (first | exact trivial | refine And.intro rfl ?_)); done) (j124 d T 0 hlt hG hp1))
            · have hd : d < 8 := ge_f (by omega) (by decide) h90
              refine g_iload Z dX3_evaluate_93 rfl ?_
              refine g_bipush (v := 8) Z dX3_evaluate_95 (by decide) ?_
              refine g_icmp_ge Z 124 dX3_evaluate_97 (by decide) (fun h97 => ?_) (fun h97 => ?_)
              · exact g_widen (by omega) (by omega) (g_lv (by (repeat (first | exact trivial | refine And.intro rfl ?_)); done) (j124 d T 0 hlt hG hp1))
              · have hg8 : sg x i < 8 := ge_f (by omega) (by decide) h97
                have hc8 : (nI d).toNatClampNeg = d := nI_clamp (by omega)
                obtain ⟨a, ha, hsao⟩ := hls d (by omega)
                obtain ⟨hp2, hG2⟩ := hp1.dep (d2 := d + 1) (by omega)
                obtain ⟨ia, ua, hsa2⟩ := hG2.2.2.2 a hsao
                have haL := hsa2.1
                have haK := hsa2.2.1
                obtain ⟨o, ho, hoo⟩ := hsas (sg x i) hg8
                obtain ⟨io, uo, hso⟩ := hG2.2.2.2 o hoo
                have hcg : (nI (sg x i)).toNatClampNeg = sg x i := nI_clamp (by omega)
                refine g_aload_n Z dX3_evaluate_100 rfl ?_
                refine g_getr Z 3 0 rfl (by decide) in3 lk11 dX3_evaluate_101 (by assumption) (by assumption) (by assumption) ?_
                refine g_aload_n Z dX3_evaluate_104 rfl ?_
                refine g_dup Z dX3_evaluate_105 rfl ?_
                refine g_geti Z 3 1 rfl (by decide) in3 lk26 dX3_evaluate_106 (by assumption) (by assumption) ?_
                rw [hpd]
                refine g_dup_x1 Z dX3_evaluate_109 rfl rfl ?_
                refine g_iconst (v := 1) Z dX3_evaluate_110 (by decide) ?_
                refine g_iadd Z dX3_evaluate_111 ?_
                rw [nI_1]
                refine g_puti Z 3 1 rfl (by decide) tyX3 tyX3_ok nmX3 rfl in3 lk26 dX3_evaluate_112 rfl rfl (by assumption) (by assumption) ?_
                refine g_aald11 Z dX3_evaluate_115 (by assumption) (by assumption) (by exact vin_of hll (by omega) (by decide)) (by rw [hc8]; exact ha) ?_
                refine g_aload Z dX3_evaluate_116 rfl ?_
                refine g_iload Z dX3_evaluate_118 rfl ?_
                refine g_aald11 Z dX3_evaluate_120 (by assumption) (by assumption) (by exact vin_of hsal (by omega) (by decide)) (by rw [hcg]; exact ho) ?_
                refine g_cvV Z (c_X2_copyFrom F.l F.D F.cy F.nw _ a ia ua o io uo hsa2 hso) 1 gX3_evaluate_X2_copyFrom rfl (by decide +kernel) (by rw [hRf, hRl]; decide) (by assumption) (κ := 2) (by assumption) rfl (by decide) rfl rfl (Nat.le_of_ble_eq_true rfl) dX3_evaluate_121 (by rw [hRc, hRs]; omega) (fun T2 hp => ?_)
                exact g_widen (by omega) (by omega) (g_lv (by (repeat (first | exact trivial | refine And.intro rfl ?_)); done) (j124 (d + 1) T2 0 hlt (hG.tr (hG2.tr (Es.eg hp))) (hp2.es hp)))
          · have hd : d < 8 := ge_f (by omega) (by decide) h52
            refine g_iload Z dX3_evaluate_55 rfl ?_
            refine g_bipush (v := 20) Z dX3_evaluate_57 (by decide) ?_
            refine g_icmp_ne Z 84 dX3_evaluate_59 (by decide) (fun h59 => ?_) (fun h59 => ?_)
            · refine g_aload_n Z dX3_evaluate_84 rfl ?_
              refine g_geti Z 3 1 rfl (by decide) in3 lk26 dX3_evaluate_85 (by assumption) (by assumption) ?_
              rw [hpd]
              refine g_bipush (v := 8) Z dX3_evaluate_88 (by decide) ?_
              refine g_icmp_ge Z 124 dX3_evaluate_90 (by decide) (fun h90 => ?_) (fun h90 => ?_)
              · exact g_widen (by omega) (by omega) (g_lv (by (repeat (first | exact trivial | refine And.intro rfl ?_)); done) (j124 d T 0 hlt hG hp1))
              · have hd : d < 8 := ge_f (by omega) (by decide) h90
                refine g_iload Z dX3_evaluate_93 rfl ?_
                refine g_bipush (v := 8) Z dX3_evaluate_95 (by decide) ?_
                refine g_icmp_ge Z 124 dX3_evaluate_97 (by decide) (fun h97 => ?_) (fun h97 => ?_)
                · exact g_widen (by omega) (by omega) (g_lv (by (repeat (first | exact trivial | refine And.intro rfl ?_)); done) (j124 d T 0 hlt hG hp1))
                · have hg8 : sg x i < 8 := ge_f (by omega) (by decide) h97
                  have hc8 : (nI d).toNatClampNeg = d := nI_clamp (by omega)
                  obtain ⟨a, ha, hsao⟩ := hls d (by omega)
                  obtain ⟨hp2, hG2⟩ := hp1.dep (d2 := d + 1) (by omega)
                  obtain ⟨ia, ua, hsa2⟩ := hG2.2.2.2 a hsao
                  have haL := hsa2.1
                  have haK := hsa2.2.1
                  obtain ⟨o, ho, hoo⟩ := hsas (sg x i) hg8
                  obtain ⟨io, uo, hso⟩ := hG2.2.2.2 o hoo
                  have hcg : (nI (sg x i)).toNatClampNeg = sg x i := nI_clamp (by omega)
                  refine g_aload_n Z dX3_evaluate_100 rfl ?_
                  refine g_getr Z 3 0 rfl (by decide) in3 lk11 dX3_evaluate_101 (by assumption) (by assumption) (by assumption) ?_
                  refine g_aload_n Z dX3_evaluate_104 rfl ?_
                  refine g_dup Z dX3_evaluate_105 rfl ?_
                  refine g_geti Z 3 1 rfl (by decide) in3 lk26 dX3_evaluate_106 (by assumption) (by assumption) ?_
                  rw [hpd]
                  refine g_dup_x1 Z dX3_evaluate_109 rfl rfl ?_
                  refine g_iconst (v := 1) Z dX3_evaluate_110 (by decide) ?_
                  refine g_iadd Z dX3_evaluate_111 ?_
                  rw [nI_1]
                  refine g_puti Z 3 1 rfl (by decide) tyX3 tyX3_ok nmX3 rfl in3 lk26 dX3_evaluate_112 rfl rfl (by assumption) (by assumption) ?_
                  refine g_aald11 Z dX3_evaluate_115 (by assumption) (by assumption) (by exact vin_of hll (by omega) (by decide)) (by rw [hc8]; exact ha) ?_
                  refine g_aload Z dX3_evaluate_116 rfl ?_
                  refine g_iload Z dX3_evaluate_118 rfl ?_
                  refine g_aald11 Z dX3_evaluate_120 (by assumption) (by assumption) (by exact vin_of hsal (by omega) (by decide)) (by rw [hcg]; exact ho) ?_
                  refine g_cvV Z (c_X2_copyFrom F.l F.D F.cy F.nw _ a ia ua o io uo hsa2 hso) 1 gX3_evaluate_X2_copyFrom rfl (by decide +kernel) (by rw [hRf, hRl]; decide) (by assumption) (κ := 2) (by assumption) rfl (by decide) rfl rfl (Nat.le_of_ble_eq_true rfl) dX3_evaluate_121 (by rw [hRc, hRs]; omega) (fun T2 hp => ?_)
                  exact g_widen (by omega) (by omega) (g_lv (by (repeat (first | exact trivial | refine And.intro rfl ?_)); done) (j124 (d + 1) T2 0 hlt (hG.tr (hG2.tr (Es.eg hp))) (hp2.es hp)))
            · have hc8 : (nI d).toNatClampNeg = d := nI_clamp (by omega)
              obtain ⟨a, ha, hsao⟩ := hls d (by omega)
              obtain ⟨hp2, hG2⟩ := hp1.dep (d2 := d + 1) (by omega)
              obtain ⟨ia, ua, hsa2⟩ := hG2.2.2.2 a hsao
              have haL := hsa2.1
              have haK := hsa2.2.1
              refine g_aload_n Z dX3_evaluate_62 rfl ?_
              refine g_getr Z 3 0 rfl (by decide) in3 lk11 dX3_evaluate_63 (by assumption) (by assumption) (by assumption) ?_
              refine g_aload_n Z dX3_evaluate_66 rfl ?_
              refine g_dup Z dX3_evaluate_67 rfl ?_
              refine g_geti Z 3 1 rfl (by decide) in3 lk26 dX3_evaluate_68 (by assumption) (by assumption) ?_
              rw [hpd]
              refine g_dup_x1 Z dX3_evaluate_71 rfl rfl ?_
              refine g_iconst (v := 1) Z dX3_evaluate_72 (by decide) ?_
              refine g_iadd Z dX3_evaluate_73 ?_
              rw [nI_1]
              refine g_puti Z 3 1 rfl (by decide) tyX3 tyX3_ok nmX3 rfl in3 lk26 dX3_evaluate_74 rfl rfl (by assumption) (by assumption) ?_
              refine g_aald11 Z dX3_evaluate_77 (by assumption) (by assumption) (by exact vin_of hll (by omega) (by decide)) (by rw [hc8]; exact ha) ?_
              refine g_cvV Z (c_X2_becomeAll F.l F.D F.cy F.nw _ a ia ua hsa2) 0 gX3_evaluate_X2_becomeAll rfl (by decide +kernel) (by rw [hRf, hRl]; decide) (by assumption) (κ := 2) (by assumption) rfl (by decide) rfl rfl (Nat.le_of_ble_eq_true rfl) dX3_evaluate_78 (by rw [hRc, hRs]; omega) (fun T2 hp => ?_)
              refine g_goto Z 124 dX3_evaluate_81 (by decide) ?_
              exact g_widen (by omega) (by omega) (g_lv (by (repeat (first | exact trivial | refine And.intro rfl ?_)); done) (j124 (d + 1) T2 0 hlt (hG.tr (hG2.tr (Es.eg hp))) (hp2.es hp)))
        · refine g_aload_n Z dX3_evaluate_30 rfl ?_
          refine g_iload Z dX3_evaluate_31 rfl ?_
          refine g_bipush (v := 16) Z dX3_evaluate_33 (by decide) ?_
          refine g_isub Z dX3_evaluate_35 ?_
          refine g_aload Z dX3_evaluate_36 rfl ?_
          refine g_cvI Z (c_X3_joinUpperTwo F.l F.D F.cy F.nw _ pl la d hp1 s hs1 _) 2 gX3_evaluate_X3_joinUpperTwo rfl (by decide +kernel) (by rw [hRf, hRl]; decide) (by assumption) (κ := 3) (by assumption) rfl (by decide) rfl rfl (Nat.le_of_ble_eq_true rfl) dX3_evaluate_38 (by rw [hRc, hRs]; omega) (fun r T1 hp => ?_)
          obtain ⟨h01, hG1, d1, hp2⟩ := hp
          refine g_if_ne Z 124 dX3_evaluate_41 (by decide) (fun h41 => ?_) (fun h41 => ?_)
          · exact g_widen (by omega) (by omega) (g_lv (by (repeat (first | exact trivial | refine And.intro rfl ?_)); done) (j124 d1 T1 0 hlt (hG.tr hG1) hp2))
          · refine g_iconst (v := 0) Z dX3_evaluate_44 (by decide) ?_
            exact g_zret Z dX3_evaluate_45 (by rfl) (by omega) (by omega) (⟨Or.inl rfl, hG.tr hG1, d1, hp2⟩)
  obtain ⟨hpL, hpK, -, -, -, -⟩ := id hp0
  obtain ⟨hp1, hG1⟩ := hp0.dep (d2 := 0) (by omega)
  refine g_aload_n Z dX3_evaluate_0 rfl ?_
  refine g_iconst (v := 0) Z dX3_evaluate_1 (by decide) ?_
  refine g_puti Z 3 1 rfl (by decide) tyX3 tyX3_ok nmX3 rfl in3 lk26 dX3_evaluate_2 rfl rfl (by assumption) (by assumption) ?_
  refine g_iconst (v := 0) Z dX3_evaluate_5 (by decide) ?_
  refine g_istore Z dX3_evaluate_6 (by decide) ?_
  exact g_lv (by (repeat (first | exact trivial | refine And.intro rfl ?_)); done) (loop 10 0 0 _ (by omega) ⟨hG1, hp1, by omega⟩)
