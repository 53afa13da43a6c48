/-- a reader between two readings -/
def RdW (S : PS) (rd rk rt : Nat) : Prop := rd ∈ S.L ∧ S.K rd = 4 ∧ S.fr rd 8 = some rk ∧ rk ∈ S.L ∧ S.K rk = 8 ∧ S.ln rk = 6 ∧ S.fr rd 9 = some rt ∧ rt ∈ S.L ∧ S.K rt = 8 ∧ S.ln rt = 6 ∧ rk ≠ rt ∧ ∀ i, i < 6 → ∃ k : Nat, k < 65536 ∧ S.ri rk i = nI k
theorem RdAt.w {S : PS} {rd rk rt p e : Nat} (h : RdAt S rd rk rt p e) : RdW S rd rk rt := by
  obtain ⟨k1, k2, k3, k4, k5, k6, k7, k8, k9, k10, k11, k12, k13, k14, k15, k16⟩ := h
  exact ⟨k1, k2, k3, k4, k5, k6, k7, k8, k9, k10, k11, k16⟩
theorem RdW.at {S : PS} {rd rk rt p e : Nat} (h : RdW S rd rk rt) (h2 : S.fi rd 2 = nI p) (h3 : S.fi rd 3 = nI e) (hpe : p ≤ e) (he : e ≤ 60000) : RdAt S rd rk rt p e := by
  obtain ⟨k1, k2, k3, k4, k5, k6, k7, k8, k9, k10, k11, k16⟩ := h
  exact ⟨k1, k2, k3, k4, k5, k6, k7, k8, k9, k10, k11, h2, h3, hpe, he, k16⟩
theorem RdW.setI {S : PS} {rd rk rt a i : Nat} {v : Int32} (h : RdW S rd rk rt) : RdW (S.setI a i v) rd rk rt := h
theorem ts_start {nw rd rk rt br hh n u s it us : Nat} {S : PS} (hr : RdW S rd rk rt) (hb : BytesAt S br hh n u) (hs : SetAt S nw s it us) :
    let T := ((((((((S.setI rd 0 0).setI rd 1 0).setI rd 2 0).setI rd 3 (nI u)).setI rd 4 0).setI rd 5 0).setI rd 6 0).setI rd 7 (-1)).setI s 1 0
    RdAt T rd rk rt 0 u ∧ BytesAt T br hh n u ∧ SetAt T nw s it 0 ∧ Eg nw Pr S T ∧ T.fi rd 4 = nI 0 ∧ T.fi rd 7 = -1 := by
  intro T
  have hK := hr.2.1
  have hsr : s ≠ rd := fun e => by have := hs.2.1; rw [e, hK] at this; cases this
  have hn : n ≤ 60000 := by have := hb.2.2.2.2.2.2.1; omega
  have hun := hb.2.2.2.2.2.2.2.2.1
  have hR : Rl Pr S ((((((((S.setI rd 0 0).setI rd 1 0).setI rd 2 0).setI rd 3 (nI u)).setI rd 4 0).setI rd 5 0).setI rd 6 0).setI rd 7 (-1)) :=
    (((((((Rl.rf.setI (by rw [hK]; exact Or.inl rfl)).setI (a := rd) (by rw [show PS.K (PS.setI S rd 0 _) rd = 4 from hK]; exact Or.inl rfl)).setI (a := rd) (show Pr (S.K rd) by rw [hK]; exact Or.inl rfl)).setI (a := rd) (show Pr (S.K rd) by rw [hK]; exact Or.inl rfl)).setI (a := rd) (show Pr (S.K rd) by rw [hK]; exact Or.inl rfl)).setI (a := rd) (show Pr (S.K rd) by rw [hK]; exact Or.inl rfl)).setI (a := rd) (show Pr (S.K rd) by rw [hK]; exact Or.inl rfl)).setI (a := rd) (show Pr (S.K rd) by rw [hK]; exact Or.inl rfl)
  have hs8 := hR.set nPr1 nPr2 nPr10 hs
  obtain ⟨hs9, hE9⟩ := used_set hs8 (v := 0) (by omega) (fun i hi => by omega)
  have hb9 := hE9.bytes (hR.bytes nPr0 nPr7 hb)
  have hfi : ∀ i, T.fi rd i = ((((((((S.setI rd 0 0).setI rd 1 0).setI rd 2 0).setI rd 3 (nI u)).setI rd 4 0).setI rd 5 0).setI rd 6 0).setI rd 7 (-1)).fi rd i := fun i => congrFun (va_up_ne _ _ (Ne.symm hsr)) i
  refine ⟨RdW.at (S := T) hr ?_ ?_ (Nat.zero_le _) (by omega), hb9, hs9, (hR.eg nPr1 nPr2 nPr10).tr hE9.eg, ?_, ?_⟩
  · rw [hfi]; exact ((up2_ne _ _ (Or.inr (by decide))).trans ((up2_ne _ _ (Or.inr (by decide))).trans ((up2_ne _ _ (Or.inr (by decide))).trans ((up2_ne _ _ (Or.inr (by decide))).trans ((up2_ne _ _ (Or.inr (by decide))).trans (up2_self _ _ _ _))))))
  · rw [hfi]; exact ((up2_ne _ _ (Or.inr (by decide))).trans ((up2_ne _ _ (Or.inr (by decide))).trans ((up2_ne _ _ (Or.inr (by decide))).trans ((up2_ne _ _ (Or.inr (by decide))).trans (up2_self _ _ _ _)))))
  · rw [hfi]; exact ((up2_ne _ _ (Or.inr (by decide))).trans ((up2_ne _ _ (Or.inr (by decide))).trans ((up2_ne _ _ (Or.inr (by decide))).trans (up2_self _ _ _ _))))
  · rw [hfi]; exact (up2_self _ _ _ _)

theorem ts_f {a b c : Int32} {P : Prop} (h1 : a = -1) (h2 : b = a) (h3 : c = b ∨ P) : c = -1 ∨ P := by
  rcases h3 with h | h
  · exact Or.inl (h.trans (h2.trans h1))
  · exact Or.inr h

set_option maxRecDepth 100000 in
set_option maxHeartbeats 2000000 in
/-- a set is read -/
theorem c_X4_takeSet (l : Launch) (D : va_G) (cy : Nat → ClassId) (nw : Nat) (S : PS) (rd rk rt : Nat) (hr : RdW S rd rk rt) (br h n u : Nat) (hb : BytesAt S br h n u) (s it us : Nat) (hs : SetAt S nw s it us) : kI l yX4_takeSet wsX4_takeSet 5 122 D cy nw [.ref rd, .ref br, .ref s] S (fun r T => (r = 0 ∨ r = 1) ∧ Eg nw Pr S T ∧ RdW T rd rk rt) 6 6144 := by
  refine enterI (cc := cX4_takeSet) (nL := 4) (ret := (some .boolean)) (by decide +kernel) rfl (Nat.le_of_ble_eq_true rfl) ?_
  intro F Z hl hR hD hcy hnw hnm
  subst hl hD hcy hnw
  have hRf : F.R.frames = 5 := by rw [hR]
  have hRc : F.R.cells = 6 := by rw [hR]
  have hRs : F.R.slots = 6144 := by rw [hR]
  have hRl : F.R.locals = 122 := by rw [hR]
  have in0 : ∀ w ∈ u_ws RX0 TX0 2, w ∈ wsX4_takeSet := by decide +kernel
  have in2 : ∀ w ∈ u_ws RX2 TX2 2, w ∈ wsX4_takeSet := by decide +kernel
  have in4 : ∀ w ∈ u_ws RX4 TX4 10, w ∈ wsX4_takeSet := by decide +kernel
  have lk18 : Cond.fieldLink RX4 18 (TX4 0).1 (TX4 0).2.1 (TX4 0).2.2.1 ∈ wsX4_takeSet := by decide +kernel
  have lk22 : Cond.fieldLink RX4 22 (TX4 1).1 (TX4 1).2.1 (TX4 1).2.2.1 ∈ wsX4_takeSet := by decide +kernel
  have lk25 : Cond.fieldLink RX4 25 (TX4 2).1 (TX4 2).2.1 (TX4 2).2.2.1 ∈ wsX4_takeSet := by decide +kernel
  have lk28 : Cond.fieldLink RX4 28 (TX0 1).1 (TX0 1).2.1 (TX0 1).2.2.1 ∈ wsX4_takeSet := by decide +kernel
  have lk33 : Cond.fieldLink RX4 33 (TX4 3).1 (TX4 3).2.1 (TX4 3).2.2.1 ∈ wsX4_takeSet := by decide +kernel
  have lk36 : Cond.fieldLink RX4 36 (TX4 4).1 (TX4 4).2.1 (TX4 4).2.2.1 ∈ wsX4_takeSet := by decide +kernel
  have lk39 : Cond.fieldLink RX4 39 (TX4 5).1 (TX4 5).2.1 (TX4 5).2.2.1 ∈ wsX4_takeSet := by decide +kernel
  have lk43 : Cond.fieldLink RX4 43 (TX4 6).1 (TX4 6).2.1 (TX4 6).2.2.1 ∈ wsX4_takeSet := by decide +kernel
  have lk46 : Cond.fieldLink RX4 46 (TX4 7).1 (TX4 7).2.1 (TX4 7).2.2.1 ∈ wsX4_takeSet := by decide +kernel
  have lk49 : Cond.fieldLink RX4 49 (TX2 1).1 (TX2 1).2.1 (TX2 1).2.2.1 ∈ wsX4_takeSet := by decide +kernel
  have loop : ∀ (m i k q p : Nat) (T : PS), 8 - i < m → (Eg F.nw Pr S T ∧ RdAt T rd rk rt p u ∧ BytesAt T br h n u ∧ SetAt T F.nw s it i ∧ k ≤ 6 ∧ T.fi rd 4 = nI k ∧ (T.fi rd 7 = -1 ∨ ∃ q : Nat, T.fi rd 7 = nI q ∧ q + 4 * k ≤ u) ∧ i ≤ k) → G F 4 T i (1024 * i) (QI F (fun r T => (r = 0 ∨ r = 1) ∧ Eg F.nw Pr S T ∧ RdW T rd rk rt) 6 6144) 75 [(0, .ref rd), (1, .ref br), (2, .ref s), (3, .int (nI i))] [] := by
    intro m
    induction m with
    | zero => intros; omega
    | succ m ih =>
      intro i k q p T hm ⟨hG, hr2, hb2, hs2, hk6, hn2, hf2, hik⟩
      have hrL := hr2.1
      have hrK := hr2.2.1
      refine g_iload_n Z dX4_takeSet_75 rfl ?_
      refine g_aload_n Z dX4_takeSet_76 rfl ?_
      refine g_geti Z 4 4 rfl (by decide) in4 lk36 dX4_takeSet_77 (by assumption) (by assumption) ?_
      rw [hn2]
      refine g_icmp_ge Z 101 dX4_takeSet_80 (by decide) (fun h80 => ?_) (fun h80 => ?_)
      · refine g_aload_n Z dX4_takeSet_101 rfl ?_
        refine g_geti Z 4 2 rfl (by decide) in4 lk25 dX4_takeSet_102 (by assumption) (by assumption) ?_
        refine g_aload_n Z dX4_takeSet_105 rfl ?_
        refine g_geti Z 4 3 rfl (by decide) in4 lk33 dX4_takeSet_106 (by assumption) (by assumption) ?_
        refine g_icmp_eq Z 125 dX4_takeSet_109 (by decide) (fun h109 => ?_) (fun h109 => ?_)
        · refine g_iconst (v := 1) Z dX4_takeSet_125 (by decide) ?_
          refine g_goto Z 130 dX4_takeSet_126 (by decide) ?_
          exact g_zret Z dX4_takeSet_130 (by rfl) (by omega) (by omega) (by first | exact ⟨Or.inr rfl, hG, hr2.w⟩ | exact ⟨Or.inl rfl, hG.tr (hE3.eg hrK), (hE3.rd hr2 hp4 hr2.2.2.2.2.2.2.2.2.2.2.2.2.2.1).w⟩)
        · refine g_aload_n Z dX4_takeSet_112 rfl ?_
          refine g_bipush (v := 9) Z dX4_takeSet_113 (by decide) ?_
          refine g_aload_n Z dX4_takeSet_115 rfl ?_
          refine g_geti Z 4 2 rfl (by decide) in4 lk25 dX4_takeSet_116 (by assumption) (by assumption) ?_
          refine g_cvI Z (c_X4_tellFault F.l F.D F.cy F.nw _ rd rk rt p u hr2 _ _) 2 gX4_takeSet_X4_tellFault rfl (by decide +kernel) (by rw [hRf, hRl]; decide) (by assumption) (κ := 4) (by assumption) rfl (by decide) rfl rfl (Nat.le_of_ble_eq_true rfl) dX4_takeSet_119 (by rw [hRc, hRs]; omega) (fun r T2 hp => ?_)
          obtain ⟨rfl, hE3, hp4⟩ := hp
          refine g_if_eq Z 129 dX4_takeSet_122 (by decide) (fun h122 => ?_) (fun h122 => absurd (rfl) h122)
          refine g_iconst (v := 0) Z dX4_takeSet_129 (by decide) ?_
          exact g_zret Z dX4_takeSet_130 (by rfl) (by omega) (by omega) (by first | exact ⟨Or.inr rfl, hG, hr2.w⟩ | exact ⟨Or.inl rfl, hG.tr (hE3.eg hrK), (hE3.rd hr2 hp4 hr2.2.2.2.2.2.2.2.2.2.2.2.2.2.1).w⟩)
      · have hlt : i < k := ge_f (by omega) (by omega) h80
        have hpf : T.fi rd 7 = -1 ∨ ∃ q : Nat, T.fi rd 7 = nI q ∧ q + 4 * i + 4 ≤ u := by
          rcases hf2 with h | ⟨q, h1, h2⟩
          · exact Or.inl h
          · exact Or.inr ⟨q, h1, by omega⟩
        refine g_aload_n Z dX4_takeSet_83 rfl ?_
        refine g_aload_n Z dX4_takeSet_84 rfl ?_
        refine g_aload_n Z dX4_takeSet_85 rfl ?_
        refine g_iload_n Z dX4_takeSet_86 rfl ?_
        refine g_cvI Z (c_X4_takeContainer F.l F.D F.cy F.nw _ rd rk rt p u hr2 br h n u hb2 (Nat.le_refl u) s it i hs2 (by omega) hpf) 3 gX4_takeSet_X4_takeContainer rfl (by decide +kernel) (by rw [hRf, hRl]; decide) (by assumption) (κ := 4) (by assumption) rfl (by decide) rfl rfl (Nat.le_of_ble_eq_true rfl) dX4_takeSet_87 (by rw [hRc, hRs]; omega) (fun r T2 hp => ?_)
        obtain ⟨h01, hG2, ⟨p2, hr3⟩, hn3, hf3, hs3⟩ := hp
        refine g_if_ne Z 95 dX4_takeSet_90 (by decide) (fun h90 => ?_) (fun h90 => ?_)
        · have hs4 := hs3 (h01.resolve_left h90)
          refine g_iinc (c := 1) Z dX4_takeSet_95 rfl (by decide) (by decide) ?_
          rw [nI_1]
          refine g_goto Z 75 dX4_takeSet_98 (by decide) ?_
          exact g_widen (Nat.le_refl _) (by omega) (g_lv (by (repeat (first | exact trivial | refine And.intro rfl ?_)); done) (ih (i + 1) k 0 p2 T2 (by omega) ⟨hG.tr hG2, hr3, hG2.bytes nPr0 nPr7 hb2, hs4, hk6, hn3.trans hn2, by rw [hf3]; exact hf2, by omega⟩))
        · refine g_iconst (v := 0) Z dX4_takeSet_93 (by decide) ?_
          exact g_zret Z dX4_takeSet_94 (by rfl) (by omega) (by omega) (⟨Or.inl rfl, hG.tr hG2, hr3.w⟩)
  obtain ⟨hr1, hb1, hs1, hG1, hn1, hf1⟩ := ts_start hr hb hs
  have hrL := hr.1
  have hrK := hr.2.1
  have hbL := hb.1
  have hbK := hb.2.1
  have hsL := hs.1
  have hsK := hs.2.1
  have hbu := hb.2.2.2.2.2.2.2.1
  have hbr : br ≠ rd := fun e => by rw [e, hrK] at hbK; cases hbK
  refine g_aload_n Z dX4_takeSet_0 rfl ?_
  refine g_iconst (v := 0) Z dX4_takeSet_1 (by decide) ?_
  refine g_puti Z 4 0 rfl (by decide) tyX4 tyX4_ok nmX4 rfl in4 lk18 dX4_takeSet_2 rfl rfl (by assumption) (by assumption) ?_
  refine g_aload_n Z dX4_takeSet_5 rfl ?_
  refine g_iconst (v := 0) Z dX4_takeSet_6 (by decide) ?_
  refine g_puti Z 4 1 rfl (by decide) tyX4 tyX4_ok nmX4 rfl in4 lk22 dX4_takeSet_7 rfl rfl (by assumption) (by assumption) ?_
  refine g_aload_n Z dX4_takeSet_10 rfl ?_
  refine g_iconst (v := 0) Z dX4_takeSet_11 (by decide) ?_
  refine g_puti Z 4 2 rfl (by decide) tyX4 tyX4_ok nmX4 rfl in4 lk25 dX4_takeSet_12 rfl rfl (by assumption) (by assumption) ?_
  refine g_aload_n Z dX4_takeSet_15 rfl ?_
  refine g_aload_n Z dX4_takeSet_16 rfl ?_
  refine g_geti Z 0 1 rfl (by decide) in0 lk28 dX4_takeSet_17 (by assumption) (by assumption) ?_
  rw [show PS.fi (PS.setI (PS.setI (PS.setI S rd 0 0) rd 1 0) rd 2 0) br 1 = nI u from ((up2_ne _ _ (Or.inl hbr)).trans ((up2_ne _ _ (Or.inl hbr)).trans (up2_ne _ _ (Or.inl hbr)))).trans hbu]
  refine g_puti Z 4 3 rfl (by decide) tyX4 tyX4_ok nmX4 rfl in4 lk33 dX4_takeSet_20 rfl rfl (by assumption) (by assumption) ?_
  refine g_aload_n Z dX4_takeSet_23 rfl ?_
  refine g_iconst (v := 0) Z dX4_takeSet_24 (by decide) ?_
  refine g_puti Z 4 4 rfl (by decide) tyX4 tyX4_ok nmX4 rfl in4 lk36 dX4_takeSet_25 rfl rfl (by assumption) (by assumption) ?_
  refine g_aload_n Z dX4_takeSet_28 rfl ?_
  refine g_iconst (v := 0) Z dX4_takeSet_29 (by decide) ?_
  refine g_puti Z 4 5 rfl (by decide) tyX4 tyX4_ok nmX4 rfl in4 lk39 dX4_takeSet_30 (by rfl) (by rfl) (by assumption) (by assumption) ?_
  refine g_aload_n Z dX4_takeSet_33 rfl ?_
  refine g_iconst (v := 0) Z dX4_takeSet_34 (by decide) ?_
  refine g_puti Z 4 6 rfl (by decide) tyX4 tyX4_ok nmX4 rfl in4 lk43 dX4_takeSet_35 rfl rfl (by assumption) (by assumption) ?_
  refine g_aload_n Z dX4_takeSet_38 rfl ?_
  refine g_iconst (v := (-1)) Z dX4_takeSet_39 (by decide) ?_
  refine g_puti Z 4 7 rfl (by decide) tyX4 tyX4_ok nmX4 rfl in4 lk46 dX4_takeSet_40 rfl rfl (by assumption) (by assumption) ?_
  refine g_aload_n Z dX4_takeSet_43 rfl ?_
  refine g_iconst (v := 0) Z dX4_takeSet_44 (by decide) ?_
  refine g_puti Z 2 1 rfl (by decide) tyX2 tyX2_ok nmX2 rfl in2 lk49 dX4_takeSet_45 rfl rfl (by assumption) (by assumption) ?_
  generalize ((((((((S.setI rd 0 0).setI rd 1 0).setI rd 2 0).setI rd 3 (nI u)).setI rd 4 0).setI rd 5 0).setI rd 6 0).setI rd 7 (-1)).setI s 1 0 = S1 at hr1 hb1 hs1 hG1 hn1 hf1 ⊢
  have hrL1 := hr1.1
  have hrK1 := hr1.2.1
  refine g_aload_n Z dX4_takeSet_48 rfl ?_
  refine g_aload_n Z dX4_takeSet_49 rfl ?_
  refine g_cvI Z (c_X4_takeMark F.l F.D F.cy F.nw _ rd rk rt 0 u hr1 br h n u hb1 (Nat.le_refl u) ⟨0, by omega, hn1⟩) 1 gX4_takeSet_X4_takeMark rfl (by decide +kernel) (by rw [hRf, hRl]; decide) (by assumption) (κ := 4) (by assumption) rfl (by decide) rfl rfl (Nat.le_of_ble_eq_true rfl) dX4_takeSet_50 (by rw [hRc, hRs]; omega) (fun r T2 hp => ?_)
  obtain ⟨h01, ⟨hG2, hH2, ⟨p2, hr2⟩, k, hk6, hn2⟩, hf2⟩ := hp
  have hb2 := hG2.bytes nPr0 nPr7 hb1
  have hG02 := hG1.tr hG2
  have hrL2 := hr2.1
  have hrK2 := hr2.2.1
  refine g_if_eq Z 71 dX4_takeSet_53 (by decide) (fun h53 => ?_) (fun h53 => ?_)
  · refine g_iconst (v := 0) Z dX4_takeSet_71 (by decide) ?_
    exact g_zret Z dX4_takeSet_72 (by rfl) (by omega) (by omega) (by first | exact ⟨Or.inl rfl, hG04, hr4.w⟩ | exact ⟨Or.inl rfl, hG03, hr3.w⟩ | exact ⟨Or.inl rfl, hG02, hr2.w⟩)
  · refine g_aload_n Z dX4_takeSet_56 rfl ?_
    refine g_aload_n Z dX4_takeSet_57 rfl ?_
    refine g_cvI Z (c_X4_takeHeads F.l F.D F.cy F.nw _ rd rk rt p2 u hr2 br h n u hb2 (Nat.le_refl u) k hk6 hn2) 1 gX4_takeSet_X4_takeHeads rfl (by decide +kernel) (by rw [hRf, hRl]; decide) (by assumption) (κ := 4) (by assumption) rfl (by decide) rfl rfl (Nat.le_of_ble_eq_true rfl) dX4_takeSet_58 (by rw [hRc, hRs]; omega) (fun r3 T3 hq => ?_)
    obtain ⟨h013, ⟨hG3, hH3, ⟨p3, hr3⟩, -⟩, hn3, hf3⟩ := hq
    have hb3 := hG3.bytes nPr0 nPr7 hb2
    have hG03 := hG02.tr hG3
    have hrL3 := hr3.1
    have hrK3 := hr3.2.1
    refine g_if_eq Z 71 dX4_takeSet_61 (by decide) (fun h61 => ?_) (fun h61 => ?_)
    · refine g_iconst (v := 0) Z dX4_takeSet_71 (by decide) ?_
      exact g_zret Z dX4_takeSet_72 (by rfl) (by omega) (by omega) (by first | exact ⟨Or.inl rfl, hG04, hr4.w⟩ | exact ⟨Or.inl rfl, hG03, hr3.w⟩ | exact ⟨Or.inl rfl, hG02, hr2.w⟩)
    · refine g_aload_n Z dX4_takeSet_64 rfl ?_
      refine g_cvI Z (c_X4_takePlaces F.l F.D F.cy F.nw _ rd rk rt p3 u hr3 k hk6 hn3) 0 gX4_takeSet_X4_takePlaces rfl (by decide +kernel) (by rw [hRf, hRl]; decide) (by assumption) (κ := 4) (by assumption) rfl (by decide) rfl rfl (Nat.le_of_ble_eq_true rfl) dX4_takeSet_65 (by rw [hRc, hRs]; omega) (fun r4 T4 hq2 => ?_)
      obtain ⟨h014, ⟨hG4, hH4, ⟨p4, hr4⟩, -⟩, hn4, hf4⟩ := hq2
      have hb4 := hG4.bytes nPr0 nPr7 hb3
      have hG04 := hG03.tr hG4
      refine g_if_ne Z 73 dX4_takeSet_68 (by decide) (fun h68 => ?_) (fun h68 => ?_)
      · refine g_iconst (v := 0) Z dX4_takeSet_73 (by decide) ?_
        refine g_istore_n Z dX4_takeSet_74 (by decide) ?_
        exact g_lv (by (repeat (first | exact trivial | refine And.intro rfl ?_)); done) (loop 9 0 k 0 p4 T4 (by omega) ⟨hG04, hr4, hb4, hH4 s it 0 (hH3 s it 0 (hH2 s it 0 hs1)), hk6, hn4, ts_f (hf2.trans hf1) hf3 hf4, by omega⟩)
      · refine g_iconst (v := 0) Z dX4_takeSet_71 (by decide) ?_
        exact g_zret Z dX4_takeSet_72 (by rfl) (by omega) (by omega) (by first | exact ⟨Or.inl rfl, hG04, hr4.w⟩ | exact ⟨Or.inl rfl, hG03, hr3.w⟩ | exact ⟨Or.inl rfl, hG02, hr2.w⟩)
