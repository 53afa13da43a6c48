/-- as Es, but cells of some further kinds may have changed -/
def Eg (nw : Nat) (Q : Nat → Prop) (S T : PS) : Prop := (∀ a ∈ S.L, a ∈ T.L ∧ T.K a = S.K a ∧ T.ln a = S.ln a ∧ (¬ Q (S.K a) → S.K a ≠ 1 → S.K a ≠ 2 → T.fi a = S.fi a ∧ T.fr a = S.fr a) ∧ (¬ Q (S.K a) → S.K a ≠ 9 → T.ri a = S.ri a) ∧ (¬ Q (S.K a) → S.K a ≠ 9 → S.K a ≠ 10 → T.rr a = S.rr a)) ∧ (∀ c, Cw S nw c → Cw T nw c) ∧ (∀ c, Cr S c → Cr T c) ∧ ∀ s, SetOK S nw s → SetOK T nw s
/-- sets stand just as they stood -/
def Hs (nw : Nat) (S T : PS) : Prop := ∀ s it u, SetAt S nw s it u → SetAt T nw s it u
abbrev Pr : Nat → Prop := fun κ => κ = 4 ∨ κ = 8
theorem Es.eg {nw : Nat} {Q : Nat → Prop} {S T : PS} (h : Es nw S T) : Eg nw Q S T := by
  refine ⟨fun a ha => ?_, h.2⟩
  obtain ⟨a1, a2, a3, a4, a5, a6⟩ := h.1 a ha
  exact ⟨a1, a2, a3, fun _ => a4, fun _ => a5, fun _ => a6⟩
theorem Eg.rf {nw : Nat} {Q : Nat → Prop} {S : PS} : Eg nw Q S S := Es.rf.eg
theorem Eg.tr {nw : Nat} {Q : Nat → Prop} {S T U : PS} (h1 : Eg nw Q S T) (h2 : Eg nw Q T U) : Eg nw Q S U := by
  refine ⟨fun a ha => ?_, fun c h => h2.2.1 c (h1.2.1 c h), fun c h => h2.2.2.1 c (h1.2.2.1 c h), fun s h => h2.2.2.2 s (h1.2.2.2 s h)⟩
  obtain ⟨a1, a2, a3, a4, a5, a6⟩ := h1.1 a ha
  obtain ⟨b1, b2, b3, b4, b5, b6⟩ := h2.1 a a1
  rw [a2] at b4 b5 b6 b2
  exact ⟨b1, b2, b3.trans a3, fun o p q => ⟨(b4 o p q).1.trans (a4 o p q).1, (b4 o p q).2.trans (a4 o p q).2⟩, fun o p => (b5 o p).trans (a5 o p), fun o p q => (b6 o p q).trans (a6 o p q)⟩
theorem Rl.eg {nw : Nat} {P : Nat → Prop} {S T : PS} (h : Rl P S T) (h1 : ¬ P 1) (h2 : ¬ P 2) (h10 : ¬ P 10) : Eg nw P S T := by
  refine ⟨fun a ha => ?_, fun c k => h.cw h1 k, fun c k => h.cr h1 k, fun s ⟨it, u, k⟩ => ⟨it, u, h.set h1 h2 h10 k⟩⟩
  obtain ⟨a1, a2, a3, a4⟩ := h a ha
  exact ⟨a1, a2, a3, fun o _ _ => ⟨(a4 o).1, (a4 o).2.1⟩, fun o _ => (a4 o).2.2.1, fun o _ _ => (a4 o).2.2.2.2⟩
theorem Rl.hs {nw : Nat} {P : Nat → Prop} {S T : PS} (h : Rl P S T) (h1 : ¬ P 1) (h2 : ¬ P 2) (h10 : ¬ P 10) : Hs nw S T := fun _ _ _ k => h.set h1 h2 h10 k
theorem Ei.eg {nw rd : Nat} {S T : PS} (h : Ei nw rd S T) (hK : S.K rd = 4) : Eg nw Pr S T := by
  refine ⟨fun a ha => ?_, h.2.2.2.1, h.2.2.2.2, fun s ⟨it, u, k⟩ => ⟨it, u, h.set hK k⟩⟩
  obtain ⟨a1, a2, a3, a4, a5⟩ := h.1 a ha
  exact ⟨a1, a2, a3, fun o p _ => a4 p (fun e => o (by rw [e, hK]; exact Or.inl rfl)), fun _ p => (a5 p).1, fun _ p _ => (a5 p).2⟩
theorem Ei.hs {nw rd : Nat} {S T : PS} (h : Ei nw rd S T) (hK : S.K rd = 4) : Hs nw S T := fun _ _ _ k => h.set hK k
theorem Hs.tr {nw : Nat} {S T U : PS} (h1 : Hs nw S T) (h2 : Hs nw T U) : Hs nw S U := fun s it u k => h2 s it u (h1 s it u k)
theorem Eg.bytes {nw : Nat} {Q : Nat → Prop} {S T : PS} (h : Eg nw Q S T) (h0 : ¬ Q 0) (h7 : ¬ Q 7) {br hh n u : Nat} (k : BytesAt S br hh n u) : BytesAt T br hh n u := by
  obtain ⟨k1, k2, k3, k4, k5, k6, k7, k8, k9, k10⟩ := k
  obtain ⟨a1, a2, -, a4, -, -⟩ := h.1 br k1
  obtain ⟨e1, e2⟩ := a4 (by rw [k2]; exact h0) (by rw [k2]; decide) (by rw [k2]; decide)
  obtain ⟨b1, b2, b3, -, b5, -⟩ := h.1 hh k4
  exact ⟨a1, a2.trans k2, by rw [e2]; exact k3, b1, b2.trans k5, b3.trans k6, k7, by rw [e1]; exact k8, k9, by rw [b5 (by rw [k5]; exact h7) (by rw [k5]; decide)]; exact k10⟩
abbrev nPr1 : ¬ Pr 1 := by decide
abbrev nPr2 : ¬ Pr 2 := by decide
abbrev nPr10 : ¬ Pr 10 := by decide
abbrev nPr0 : ¬ Pr 0 := by decide
abbrev nPr7 : ¬ Pr 7 := by decide
theorem RdAt.setI {S : PS} {rd rk rt p e i : Nat} {v : Int32} (h : RdAt S rd rk rt p e) (hi : i ≠ 2 ∧ i ≠ 3) : RdAt (S.setI rd i v) rd rk rt p e := by
  obtain ⟨k1, k2, k3, k4, k5, k6, k7, k8, k9, k10, k11, k12, k13, k14, k15, k16⟩ := h
  exact ⟨k1, k2, k3, k4, k5, k6, k7, k8, k9, k10, k11, (up2_ne _ _ (Or.inr (Ne.symm hi.1))).trans k12, (up2_ne _ _ (Or.inr (Ne.symm hi.2))).trans k13, k14, k15, k16⟩
theorem RdAt.place {S : PS} {rd rk rt p p2 e : Nat} (h : RdAt S rd rk rt p e) (hp : p2 ≤ e) : RdAt (S.setI rd 2 (nI p2)) rd rk rt p2 e := by
  obtain ⟨k1, k2, k3, k4, k5, k6, k7, k8, k9, k10, k11, k12, k13, k14, k15, k16⟩ := h
  exact ⟨k1, k2, k3, k4, k5, k6, k7, k8, k9, k10, k11, up2_self _ _ _ _, (up2_ne _ _ (Or.inr (by decide))).trans k13, hp, k15, k16⟩
theorem RdAt.key {S : PS} {rd rk rt p e j v : Nat} (h : RdAt S rd rk rt p e) (hv : v < 65536) : RdAt (S.rowI rk (upd (S.ri rk) j (nI v))) rd rk rt p e := by
  obtain ⟨k1, k2, k3, k4, k5, k6, k7, k8, k9, k10, k11, k12, k13, k14, k15, k16⟩ := h
  refine ⟨k1, k2, k3, k4, k5, k6, k7, k8, k9, k10, k11, k12, k13, k14, k15, fun i hi => ?_⟩
  show ∃ k : Nat, k < 65536 ∧ va_up S.ri rk _ rk i = nI k
  rw [va_up_self]
  by_cases e : i = j
  · subst e; exact ⟨v, hv, pk_us⟩
  · obtain ⟨k, h1, h2⟩ := k16 i hi
    exact ⟨k, h1, (pk_un e).trans h2⟩
theorem RdAt.tot {S : PS} {rd rk rt p e : Nat} {f : Nat → Int32} (h : RdAt S rd rk rt p e) : RdAt (S.rowI rt f) rd rk rt p e := by
  obtain ⟨k1, k2, k3, k4, k5, k6, k7, k8, k9, k10, k11, k12, k13, k14, k15, k16⟩ := h
  refine ⟨k1, k2, k3, k4, k5, k6, k7, k8, k9, k10, k11, k12, k13, k14, k15, ?_⟩
  show ∀ i, i < 6 → ∃ k : Nat, k < 65536 ∧ va_up S.ri rt _ rk i = nI k
  rw [va_up_ne _ _ k11]
  exact k16
theorem Es.rd {nw rd rk rt p e : Nat} {S T : PS} (h : Es nw S T) (k : RdAt S rd rk rt p e) : RdAt T rd rk rt p e ∧ T.fi rd = S.fi rd := by
  obtain ⟨k1, k2, k3, k4, k5, k6, k7, k8, k9, k10, k11, k12, k13, k14, k15, k16⟩ := k
  obtain ⟨a1, a2, -, a4, -⟩ := h.1 rd k1
  obtain ⟨e1, e2⟩ := a4 (by rw [k2]; decide) (by rw [k2]; decide)
  obtain ⟨b1, b2, b3, -, b5, -⟩ := h.1 rk k4
  obtain ⟨c1, c2, c3, -, -, -⟩ := h.1 rt k8
  refine ⟨⟨a1, a2.trans k2, by rw [e2]; exact k3, b1, b2.trans k5, b3.trans k6, by rw [e2]; exact k7, c1, c2.trans k9, c3.trans k10, k11, by rw [e1]; exact k12, by rw [e1]; exact k13, k14, k15, ?_⟩, e1⟩
  rw [b5 (by rw [k5]; decide)]
  exact k16
/-- what the head's steps leave -/
def Hd (nw rd rk rt e : Nat) (S T : PS) : Prop := Eg nw Pr S T ∧ Hs nw S T ∧ (∃ p, RdAt T rd rk rt p e) ∧ (∃ k : Nat, k ≤ 6 ∧ T.fi rd 4 = nI k)

theorem lcmp_le {v : Nat} (hv : v < 2 ^ (8 * 4)) (h : lg_cmp (lN v) 6 ≤ 0) : v ≤ 6 := by
  refine Nat.not_lt.mp fun q => ?_
  have h1 : lN 6 < lN v := (pk_lLT (a := 6) (b := v) (by decide) (by omega)).mpr q
  unfold lg_cmp at h
  rw [if_pos (show lN v > 6 from h1)] at h
  exact absurd h (by decide)

set_option maxRecDepth 100000 in
set_option maxHeartbeats 2000000 in
/-- how many containers, told in four bytes -/
theorem c_X4_takePlainTotal (l : Launch) (D : va_G) (cy : Nat → ClassId) (nw : Nat) (S : PS) (rd rk rt p e : Nat) (hr : RdAt S rd rk rt p e) (br h n u : Nat) (hb : BytesAt S br h n u) (heu : e ≤ u) (hn : ∃ k : Nat, k ≤ 6 ∧ S.fi rd 4 = nI k) : kI l yX4_takePlainTotal wsX4_takePlainTotal 3 70 D cy nw [.ref rd, .ref br] S (fun r T => (r = 0 ∨ r = 1) ∧ Hd nw rd rk rt e S T ∧ T.fi rd 7 = S.fi rd 7) 0 0 := by
  refine enterI (cc := cX4_takePlainTotal) (nL := 4) (ret := (some .boolean)) (by decide +kernel) rfl (Nat.le_of_ble_eq_true rfl) ?_
  intro F Z hl hR hD hcy hnw hnm
  subst hl hD hcy hnw
  have hRf : F.R.frames = 3 := by rw [hR]
  have hRc : F.R.cells = 0 := by rw [hR]
  have hRs : F.R.slots = 0 := by rw [hR]
  have hRl : F.R.locals = 70 := by rw [hR]
  have in4 : ∀ w ∈ u_ws RX4 TX4 10, w ∈ wsX4_takePlainTotal := by decide +kernel
  have lk36 : Cond.fieldLink RX4 36 (TX4 4).1 (TX4 4).2.1 (TX4 4).2.2.1 ∈ wsX4_takePlainTotal := by decide +kernel
  have lk39 : Cond.fieldLink RX4 39 (TX4 5).1 (TX4 5).2.1 (TX4 5).2.2.1 ∈ wsX4_takePlainTotal := by decide +kernel
  have ct96 : Cond.constantLong RX4 96 (6) ∈ wsX4_takePlainTotal := by decide +kernel
  obtain ⟨hrL, hrK, hrk, hkL, hkK, hkl, hrt, htL, htK, htl, hkt, hrp, hre, hpe, he6, hkeys⟩ := id hr
  refine g_aload_n Z dX4_takePlainTotal_0 rfl ?_
  refine g_iconst (v := 4) Z dX4_takePlainTotal_1 (by decide) ?_
  refine g_cvI Z (c_X4_isThere F.l F.D F.cy F.nw _ rd rk rt p e hr 4 (by decide)) 1 gX4_takePlainTotal_X4_isThere rfl (by decide +kernel) (by rw [hRf, hRl]; decide) (by assumption) (κ := 4) (by assumption) rfl (by decide) rfl rfl (Nat.le_of_ble_eq_true rfl) dX4_takePlainTotal_2 (by rw [hRc, hRs]; omega) (fun r T1 hp => ?_)
  obtain ⟨hE1, hp1, hcase⟩ := hp
  have hr3 := hE1.rd hr hp1 hpe
  have hb3 := hE1.bytes hrK hb
  have hrL3 := hr3.1
  have hrK3 := hr3.2.1
  have hn3 := hE1.2.2.1 4 (by decide)
  have hf3 := hE1.2.2.1 7 (by decide)
  refine g_if_ne Z 10 dX4_takePlainTotal_5 (by decide) (fun h5 => ?_) (fun h5 => ?_)
  · have hp2 : p + 4 ≤ e := by
      rcases hcase with ⟨-, h⟩ | h
      · exact h
      · exact absurd h h5
    refine g_aload_n Z dX4_takePlainTotal_10 rfl ?_
    refine g_aload_n Z dX4_takePlainTotal_11 rfl ?_
    refine g_iconst (v := 4) Z dX4_takePlainTotal_12 (by decide) ?_
    refine g_cvL Z (c_X4_take F.l F.D F.cy F.nw _ rd rk rt p e hr3 br h n u hb3 heu 4 (by decide) hp2) 2 gX4_takePlainTotal_X4_take rfl (by decide +kernel) (by rw [hRf, hRl]; decide) (by assumption) (κ := 4) (by assumption) rfl (by decide) rfl rfl (Nat.le_of_ble_eq_true rfl) dX4_takePlainTotal_13 (by rw [hRc, hRs]; omega) (fun r2 T2 hq => ?_)
    obtain ⟨hE2, hp3, v, hv, rfl⟩ := hq
    have hr4 := hE2.rd hr3 hp3 hp2
    have hb4 := hE2.bytes hrK3 hb3
    have hE02 := hE1.tr hE2
    have hrL4 := hr4.1
    have hrK4 := hr4.2.1
    have hn4 := hE02.2.2.1 4 (by decide)
    have hf4 := hE02.2.2.1 7 (by decide)
    refine g_lstore_n Z dX4_takePlainTotal_16 (by decide) ?_
    refine g_lload_n Z dX4_takePlainTotal_17 rfl ?_
    refine g_ldc2 (v := 6) Z dX4_takePlainTotal_18 ct96 ?_
    refine g_lcmp Z dX4_takePlainTotal_21 ?_
    refine g_if_le Z 32 dX4_takePlainTotal_22 (by decide) (fun h22 => ?_) (fun h22 => ?_)
    · have hv6 : v ≤ 6 := lcmp_le hv h22
      refine g_aload_n Z dX4_takePlainTotal_32 rfl ?_
      refine g_lload_n Z dX4_takePlainTotal_33 rfl ?_
      refine g_l2i Z dX4_takePlainTotal_34 ?_
      rw [lN_i]
      refine g_puti Z 4 4 rfl (by decide) tyX4 tyX4_ok nmX4 rfl in4 lk36 dX4_takePlainTotal_35 rfl rfl (by assumption) (by assumption) ?_
      refine g_aload_n Z dX4_takePlainTotal_38 rfl ?_
      refine g_iconst (v := 1) Z dX4_takePlainTotal_39 (by decide) ?_
      refine g_puti Z 4 5 rfl (by decide) tyX4 tyX4_ok nmX4 rfl in4 lk39 dX4_takePlainTotal_40 (by rfl) (by rfl) (by assumption) (by assumption) ?_
      refine g_iconst (v := 1) Z dX4_takePlainTotal_43 (by decide) ?_
      exact g_zret Z dX4_takePlainTotal_44 (by rfl) (by omega) (by omega) (⟨Or.inr rfl, ⟨(hE02.eg hrK).tr (Rl.eg ((Rl.rf.setI (by rw [hrK4]; exact Or.inl rfl)).setI (by rw [show PS.K (PS.setI T2 rd 4 _) rd = 4 from hrK4]; exact Or.inl rfl)) nPr1 nPr2 nPr10), (hE02.hs hrK).tr (Rl.hs ((Rl.rf.setI (P := Pr) (by rw [hrK4]; exact Or.inl rfl)).setI (by rw [show PS.K (PS.setI T2 rd 4 _) rd = 4 from hrK4]; exact Or.inl rfl)) nPr1 nPr2 nPr10), ⟨p + 4, (hr4.setI ⟨by decide, by decide⟩).setI ⟨by decide, by decide⟩⟩, ⟨v, hv6, (up2_ne _ _ (Or.inr (by decide))).trans (up2_self _ _ _ _)⟩⟩, ((up2_ne _ _ (Or.inr (by decide))).trans (up2_ne _ _ (Or.inr (by decide)))).trans hf4⟩)
    · refine g_aload_n Z dX4_takePlainTotal_25 rfl ?_
      refine g_iconst (v := 3) Z dX4_takePlainTotal_26 (by decide) ?_
      refine g_iconst (v := 4) Z dX4_takePlainTotal_27 (by decide) ?_
      refine g_cvI Z (c_X4_tellFault F.l F.D F.cy F.nw _ rd rk rt (p + 4) e hr4 _ _) 2 gX4_takePlainTotal_X4_tellFault rfl (by decide +kernel) (by rw [hRf, hRl]; decide) (by assumption) (κ := 4) (by assumption) rfl (by decide) rfl rfl (Nat.le_of_ble_eq_true rfl) dX4_takePlainTotal_28 (by rw [hRc, hRs]; omega) (fun r3 T3 hq2 => ?_)
      obtain ⟨rfl, hE3, hp5⟩ := hq2
      have hr5 := hE3.rd hr4 hp5 hp2
      have hE03 := hE02.tr hE3
      have hn5 := hE03.2.2.1 4 (by decide)
      have hf5 := hE03.2.2.1 7 (by decide)
      exact g_zret Z dX4_takePlainTotal_31 (by rfl) (by omega) (by omega) (⟨Or.inl rfl, ⟨hE03.eg hrK, hE03.hs hrK, ⟨p + 4, hr5⟩, by rw [hn5]; exact hn⟩, hf5⟩)
  · refine g_iconst (v := 0) Z dX4_takePlainTotal_8 (by decide) ?_
    exact g_zret Z dX4_takePlainTotal_9 (by rfl) (by omega) (by omega) (⟨Or.inl rfl, ⟨hE1.eg hrK, hE1.hs hrK, ⟨p, hr3⟩, by rw [hn3]; exact hn⟩, hf3⟩)

set_option maxRecDepth 100000 in
set_option maxHeartbeats 2000000 in
/-- how many containers, and which are runs -/
theorem c_X4_takeRunBits (l : Launch) (D : va_G) (cy : Nat → ClassId) (nw : Nat) (S : PS) (rd rk rt p e : Nat) (hr : RdAt S rd rk rt p e) (br h n u : Nat) (hb : BytesAt S br h n u) (heu : e ≤ u) (hn : ∃ k : Nat, k ≤ 6 ∧ S.fi rd 4 = nI k) (k : Nat) (hk : k < 2 ^ 31) : kI l yX4_takeRunBits wsX4_takeRunBits 3 70 D cy nw [.ref rd, .ref br, .int (nI k)] S (fun r T => (r = 0 ∨ r = 1) ∧ Hd nw rd rk rt e S T ∧ T.fi rd 7 = S.fi rd 7) 0 0 := by
  refine enterI (cc := cX4_takeRunBits) (nL := 3) (ret := (some .boolean)) (by decide +kernel) rfl (Nat.le_of_ble_eq_true rfl) ?_
  intro F Z hl hR hD hcy hnw hnm
  subst hl hD hcy hnw
  have hRf : F.R.frames = 3 := by rw [hR]
  have hRc : F.R.cells = 0 := by rw [hR]
  have hRs : F.R.slots = 0 := by rw [hR]
  have hRl : F.R.locals = 70 := by rw [hR]
  have in4 : ∀ w ∈ u_ws RX4 TX4 10, w ∈ wsX4_takeRunBits := by decide +kernel
  have lk25 : Cond.fieldLink RX4 25 (TX4 2).1 (TX4 2).2.1 (TX4 2).2.2.1 ∈ wsX4_takeRunBits := by decide +kernel
  have lk36 : Cond.fieldLink RX4 36 (TX4 4).1 (TX4 4).2.1 (TX4 4).2.2.1 ∈ wsX4_takeRunBits := by decide +kernel
  have lk43 : Cond.fieldLink RX4 43 (TX4 6).1 (TX4 6).2.1 (TX4 6).2.2.1 ∈ wsX4_takeRunBits := by decide +kernel
  obtain ⟨hrL, hrK, hrk, hkL, hkK, hkl, hrt, htL, htK, htl, hkt, hrp, hre, hpe, he6, hkeys⟩ := id hr
  refine g_iload_n Z dX4_takeRunBits_0 rfl ?_
  refine g_bipush (v := 6) Z dX4_takeRunBits_1 (by decide) ?_
  refine g_icmp_le Z 13 dX4_takeRunBits_3 (by decide) (fun h3 => ?_) (fun h3 => ?_)
  · have hk6 : k ≤ 6 := le_t (by omega) (by decide) h3
    refine g_aload_n Z dX4_takeRunBits_13 rfl ?_
    refine g_iconst (v := 1) Z dX4_takeRunBits_14 (by decide) ?_
    refine g_cvI Z (c_X4_isThere F.l F.D F.cy F.nw _ rd rk rt p e hr 1 (by decide)) 1 gX4_takeRunBits_X4_isThere rfl (by decide +kernel) (by rw [hRf, hRl]; decide) (by assumption) (κ := 4) (by assumption) rfl (by decide) rfl rfl (Nat.le_of_ble_eq_true rfl) dX4_takeRunBits_15 (by rw [hRc, hRs]; omega) (fun r T1 hp => ?_)
    obtain ⟨hE1, hp1, hcase⟩ := hp
    have hr3 := hE1.rd hr hp1 hpe
    have hb3 := hE1.bytes hrK hb
    have hrL3 := hr3.1
    have hrK3 := hr3.2.1
    have hn3 := hE1.2.2.1 4 (by decide)
    have hf3 := hE1.2.2.1 7 (by decide)
    refine g_if_ne Z 23 dX4_takeRunBits_18 (by decide) (fun h18 => ?_) (fun h18 => ?_)
    · have hp2 : p + 1 ≤ e := by
        rcases hcase with ⟨-, h⟩ | h
        · exact h
        · exact absurd h h18
      refine g_aload_n Z dX4_takeRunBits_23 rfl ?_
      refine g_iload_n Z dX4_takeRunBits_24 rfl ?_
      refine g_puti Z 4 4 rfl (by decide) tyX4 tyX4_ok nmX4 rfl in4 lk36 dX4_takeRunBits_25 rfl rfl (by assumption) (by assumption) ?_
      have hr35 := hr3.setI (i := 4) (v := nI k) ⟨by decide, by decide⟩
      have hb35 : BytesAt (T1.setI rd 4 (nI k)) br h n u := Rl.bytes (P := Pr) (Rl.rf.setI (by rw [hrK3]; exact Or.inl rfl)) nPr0 nPr7 hb3
      refine g_aload_n Z dX4_takeRunBits_28 rfl ?_
      refine g_aload_n Z dX4_takeRunBits_29 rfl ?_
      refine g_aload_n Z dX4_takeRunBits_30 rfl ?_
      refine g_iconst (v := 1) Z dX4_takeRunBits_31 (by decide) ?_
      refine g_cvL Z (c_X4_take F.l F.D F.cy F.nw _ rd rk rt p e hr35 br h n u hb35 heu 1 (by decide) hp2) 2 gX4_takeRunBits_X4_take rfl (by decide +kernel) (by rw [hRf, hRl]; decide) (by assumption) (κ := 4) (by assumption) rfl (by decide) rfl rfl (Nat.le_of_ble_eq_true rfl) dX4_takeRunBits_32 (by rw [hRc, hRs]; omega) (fun r2 T2 hq => ?_)
      obtain ⟨hE2, hp3, v, hv, rfl⟩ := hq
      have hr4 := hE2.rd hr35 hp3 hp2
      have hrL4 := hr4.1
      have hrK4 := hr4.2.1
      have hn4 : T2.fi rd 4 = nI k := (hE2.2.2.1 4 (by decide)).trans (up2_self _ _ _ _)
      have hf4 : T2.fi rd 7 = S.fi rd 7 := ((hE2.2.2.1 7 (by decide)).trans (up2_ne _ _ (Or.inr (by decide)))).trans hf3
      have hG4 : Eg F.nw Pr S T2 := ((hE1.eg hrK).tr (Rl.eg (Rl.rf.setI (by rw [hrK3]; exact Or.inl rfl)) nPr1 nPr2 nPr10)).tr (hE2.eg hrK3)
      have hS4 : Hs F.nw S T2 := ((hE1.hs hrK).tr (Rl.hs (P := Pr) (Rl.rf.setI (by rw [hrK3]; exact Or.inl rfl)) nPr1 nPr2 nPr10)).tr (hE2.hs hrK3)
      refine g_l2i Z dX4_takeRunBits_35 ?_
      refine g_puti Z 4 6 rfl (by decide) tyX4 tyX4_ok nmX4 rfl in4 lk43 dX4_takeRunBits_36 rfl rfl (by assumption) (by assumption) ?_
      have hr5 := hr4.setI (i := 6) (v := (lN v).toInt32) ⟨by decide, by decide⟩
      have hG5 : Eg F.nw Pr S (T2.setI rd 6 (lN v).toInt32) := hG4.tr (Rl.eg (Rl.rf.setI (by rw [hrK4]; exact Or.inl rfl)) nPr1 nPr2 nPr10)
      have hS5 : Hs F.nw S (T2.setI rd 6 (lN v).toInt32) := hS4.tr (Rl.hs (P := Pr) (Rl.rf.setI (by rw [hrK4]; exact Or.inl rfl)) nPr1 nPr2 nPr10)
      have hn5 : (T2.setI rd 6 (lN v).toInt32).fi rd 4 = nI k := (up2_ne _ _ (Or.inr (by decide))).trans hn4
      have hf5 : (T2.setI rd 6 (lN v).toInt32).fi rd 7 = S.fi rd 7 := (up2_ne _ _ (Or.inr (by decide))).trans hf4
      refine g_aload_n Z dX4_takeRunBits_39 rfl ?_
      refine g_geti Z 4 6 rfl (by decide) in4 lk43 dX4_takeRunBits_40 (by assumption) (by assumption) ?_
      refine g_aload_n Z dX4_takeRunBits_43 rfl ?_
      refine g_geti Z 4 4 rfl (by decide) in4 lk36 dX4_takeRunBits_44 (by assumption) (by assumption) ?_
      refine g_iushr Z dX4_takeRunBits_47 ?_
      refine g_if_eq Z 65 dX4_takeRunBits_48 (by decide) (fun h48 => ?_) (fun h48 => ?_)
      · refine g_iconst (v := 1) Z dX4_takeRunBits_65 (by decide) ?_
        refine g_goto Z 70 dX4_takeRunBits_66 (by decide) ?_
        exact g_zret Z dX4_takeRunBits_70 (by rfl) (by omega) (by omega) (by first | exact ⟨Or.inr rfl, ⟨hG5, hS5, ⟨p + 1, hr5⟩, ⟨k, hk6, hn5⟩⟩, hf5⟩ | exact ⟨Or.inl rfl, ⟨hG5.tr (hE3.eg hrK4), hS5.tr (hE3.hs hrK4), ⟨p + 1, hr6⟩, ⟨k, hk6, (hE3.2.2.1 4 (by decide)).trans hn5⟩⟩, (hE3.2.2.1 7 (by decide)).trans hf5⟩)
      · refine g_aload_n Z dX4_takeRunBits_51 rfl ?_
        refine g_iconst (v := 4) Z dX4_takeRunBits_52 (by decide) ?_
        refine g_aload_n Z dX4_takeRunBits_53 rfl ?_
        refine g_geti Z 4 2 rfl (by decide) in4 lk25 dX4_takeRunBits_54 (by assumption) (by assumption) ?_
        refine g_iconst (v := 1) Z dX4_takeRunBits_57 (by decide) ?_
        refine g_isub Z dX4_takeRunBits_58 ?_
        refine g_cvI Z (c_X4_tellFault F.l F.D F.cy F.nw _ rd rk rt (p + 1) e hr5 _ _) 2 gX4_takeRunBits_X4_tellFault rfl (by decide +kernel) (by rw [hRf, hRl]; decide) (by assumption) (κ := 4) (by assumption) rfl (by decide) rfl rfl (Nat.le_of_ble_eq_true rfl) dX4_takeRunBits_59 (by rw [hRc, hRs]; omega) (fun r3 T3 hq2 => ?_)
        obtain ⟨rfl, hE3, hp5⟩ := hq2
        have hr6 := hE3.rd hr5 hp5 hp2
        refine g_if_eq Z 69 dX4_takeRunBits_62 (by decide) (fun h62 => ?_) (fun h62 => absurd (rfl) h62)
        refine g_iconst (v := 0) Z dX4_takeRunBits_69 (by decide) ?_
        exact g_zret Z dX4_takeRunBits_70 (by rfl) (by omega) (by omega) (by first | exact ⟨Or.inr rfl, ⟨hG5, hS5, ⟨p + 1, hr5⟩, ⟨k, hk6, hn5⟩⟩, hf5⟩ | exact ⟨Or.inl rfl, ⟨hG5.tr (hE3.eg hrK4), hS5.tr (hE3.hs hrK4), ⟨p + 1, hr6⟩, ⟨k, hk6, (hE3.2.2.1 4 (by decide)).trans hn5⟩⟩, (hE3.2.2.1 7 (by decide)).trans hf5⟩)
    · refine g_iconst (v := 0) Z dX4_takeRunBits_21 (by decide) ?_
      exact g_zret Z dX4_takeRunBits_22 (by rfl) (by omega) (by omega) (⟨Or.inl rfl, ⟨hE1.eg hrK, hE1.hs hrK, ⟨p, hr3⟩, by rw [hn3]; exact hn⟩, hf3⟩)
  · refine g_aload_n Z dX4_takeRunBits_6 rfl ?_
    refine g_iconst (v := 3) Z dX4_takeRunBits_7 (by decide) ?_
    refine g_iconst (v := 2) Z dX4_takeRunBits_8 (by decide) ?_
    refine g_cvI Z (c_X4_tellFault F.l F.D F.cy F.nw _ rd rk rt p e hr _ _) 2 gX4_takeRunBits_X4_tellFault rfl (by decide +kernel) (by rw [hRf, hRl]; decide) (by assumption) (κ := 4) (by assumption) rfl (by decide) rfl rfl (Nat.le_of_ble_eq_true rfl) dX4_takeRunBits_9 (by rw [hRc, hRs]; omega) (fun r3 T1 hp => ?_)
    obtain ⟨rfl, hE1, hp1⟩ := hp
    have hr3 := hE1.rd hr hp1 hpe
    have hn3 := hE1.2.2.1 4 (by decide)
    have hf3 := hE1.2.2.1 7 (by decide)
    exact g_zret Z dX4_takeRunBits_12 (by rfl) (by omega) (by omega) (⟨Or.inl rfl, ⟨hE1.eg hrK, hE1.hs hrK, ⟨p, hr3⟩, by rw [hn3]; exact hn⟩, hf3⟩)

theorem mark16 {v : Nat} (hv : v < 2 ^ (8 * 4)) : (lsr (lN v) 16).toInt32 + 1 = nI (v / 2 ^ 16 + 1) := by
  rw [show lsr (lN v) 16 = lN (v / 2 ^ 16) from wb_shr (n := v) (k := 16) (by omega) (by decide), lN_i, nI_1]

set_option maxRecDepth 100000 in
set_option maxHeartbeats 2000000 in
/-- the first bytes -/
theorem c_X4_takeMark (l : Launch) (D : va_G) (cy : Nat → ClassId) (nw : Nat) (S : PS) (rd rk rt p e : Nat) (hr : RdAt S rd rk rt p e) (br h n u : Nat) (hb : BytesAt S br h n u) (heu : e ≤ u) (hn : ∃ k : Nat, k ≤ 6 ∧ S.fi rd 4 = nI k) : kI l yX4_takeMark wsX4_takeMark 4 93 D cy nw [.ref rd, .ref br] S (fun r T => (r = 0 ∨ r = 1) ∧ Hd nw rd rk rt e S T ∧ T.fi rd 7 = S.fi rd 7) 0 0 := by
  refine enterI (cc := cX4_takeMark) (nL := 4) (ret := (some .boolean)) (by decide +kernel) rfl (Nat.le_of_ble_eq_true rfl) ?_
  intro F Z hl hR hD hcy hnw hnm
  subst hl hD hcy hnw
  have hRf : F.R.frames = 4 := by rw [hR]
  have hRc : F.R.cells = 0 := by rw [hR]
  have hRs : F.R.slots = 0 := by rw [hR]
  have hRl : F.R.locals = 93 := by rw [hR]
  have ct83 : Cond.constantLong RX4 83 (12346) ∈ wsX4_takeMark := by decide +kernel
  have ct88 : Cond.constantLong RX4 88 (65535) ∈ wsX4_takeMark := by decide +kernel
  have ct90 : Cond.constantLong RX4 90 (12347) ∈ wsX4_takeMark := by decide +kernel
  obtain ⟨hrL, hrK, hrk, hkL, hkK, hkl, hrt, htL, htK, htl, hkt, hrp, hre, hpe, he6, hkeys⟩ := id hr
  refine g_aload_n Z dX4_takeMark_0 rfl ?_
  refine g_iconst (v := 4) Z dX4_takeMark_1 (by decide) ?_
  refine g_cvI Z (c_X4_isThere F.l F.D F.cy F.nw _ rd rk rt p e hr 4 (by decide)) 1 gX4_takeMark_X4_isThere rfl (by decide +kernel) (by rw [hRf, hRl]; decide) (by assumption) (κ := 4) (by assumption) rfl (by decide) rfl rfl (Nat.le_of_ble_eq_true rfl) dX4_takeMark_2 (by rw [hRc, hRs]; omega) (fun r T1 hp => ?_)
  obtain ⟨hE1, hp1, hcase⟩ := hp
  have hr3 := hE1.rd hr hp1 hpe
  have hb3 := hE1.bytes hrK hb
  have hrL3 := hr3.1
  have hrK3 := hr3.2.1
  have hn3 := hE1.2.2.1 4 (by decide)
  have hf3 := hE1.2.2.1 7 (by decide)
  refine g_if_ne Z 10 dX4_takeMark_5 (by decide) (fun h5 => ?_) (fun h5 => ?_)
  · have hp2 : p + 4 ≤ e := by
      rcases hcase with ⟨-, h⟩ | h
      · exact h
      · exact absurd h h5
    refine g_aload_n Z dX4_takeMark_10 rfl ?_
    refine g_aload_n Z dX4_takeMark_11 rfl ?_
    refine g_iconst (v := 4) Z dX4_takeMark_12 (by decide) ?_
    refine g_cvL Z (c_X4_take F.l F.D F.cy F.nw _ rd rk rt p e hr3 br h n u hb3 heu 4 (by decide) hp2) 2 gX4_takeMark_X4_take rfl (by decide +kernel) (by rw [hRf, hRl]; decide) (by assumption) (κ := 4) (by assumption) rfl (by decide) rfl rfl (Nat.le_of_ble_eq_true rfl) dX4_takeMark_13 (by rw [hRc, hRs]; omega) (fun r2 T2 hq => ?_)
    obtain ⟨hE2, hp3, v, hv, rfl⟩ := hq
    have hr4 := hE2.rd hr3 hp3 hp2
    have hb4 := hE2.bytes hrK3 hb3
    have hE02 := hE1.tr hE2
    have hrL4 := hr4.1
    have hrK4 := hr4.2.1
    have hn4 := hE02.2.2.1 4 (by decide)
    have hf4 := hE02.2.2.1 7 (by decide)
    refine g_lstore_n Z dX4_takeMark_16 (by decide) ?_
    refine g_lload_n Z dX4_takeMark_17 rfl ?_
    refine g_ldc2 (v := 12346) Z dX4_takeMark_18 ct83 ?_
    refine g_lcmp Z dX4_takeMark_21 ?_
    refine g_if_ne Z 31 dX4_takeMark_22 (by decide) (fun h22 => ?_) (fun h22 => ?_)
    · refine g_lload_n Z dX4_takeMark_31 rfl ?_
      refine g_ldc2 (v := 65535) Z dX4_takeMark_32 ct88 ?_
      refine g_land Z dX4_takeMark_35 ?_
      refine g_ldc2 (v := 12347) Z dX4_takeMark_36 ct90 ?_
      refine g_lcmp Z dX4_takeMark_39 ?_
      refine g_if_eq Z 50 dX4_takeMark_40 (by decide) (fun h40 => ?_) (fun h40 => ?_)
      · refine g_aload_n Z dX4_takeMark_50 rfl ?_
        refine g_aload_n Z dX4_takeMark_51 rfl ?_
        refine g_lload_n Z dX4_takeMark_52 rfl ?_
        refine g_bipush (v := 16) Z dX4_takeMark_53 (by decide) ?_
        refine g_lushr Z dX4_takeMark_55 ?_
        refine g_l2i Z dX4_takeMark_56 ?_
        refine g_iconst (v := 1) Z dX4_takeMark_57 (by decide) ?_
        refine g_iadd Z dX4_takeMark_58 ?_
        rw [mark16 hv]
        refine g_cvI Z (c_X4_takeRunBits F.l F.D F.cy F.nw _ rd rk rt (p + 4) e hr4 br h n u hb4 heu (by rw [hn4]; exact hn) (v / 2 ^ 16 + 1) (by omega)) 2 gX4_takeMark_X4_takeRunBits rfl (by decide +kernel) (by rw [hRf, hRl]; decide) (by assumption) (κ := 4) (by assumption) rfl (by decide) rfl rfl (Nat.le_of_ble_eq_true rfl) dX4_takeMark_59 (by rw [hRc, hRs]; omega) (fun r3 T3 hq2 => ?_)
        exact g_zret Z dX4_takeMark_62 (nar01 hq2.1) (by omega) (by omega) (⟨hq2.1, ⟨(hE02.eg hrK).tr hq2.2.1.1, (hE02.hs hrK).tr hq2.2.1.2.1, hq2.2.1.2.2.1, hq2.2.1.2.2.2⟩, hq2.2.2.trans hf4⟩)
      · refine g_aload_n Z dX4_takeMark_43 rfl ?_
        refine g_iconst (v := 2) Z dX4_takeMark_44 (by decide) ?_
        refine g_iconst (v := 0) Z dX4_takeMark_45 (by decide) ?_
        refine g_cvI Z (c_X4_tellFault F.l F.D F.cy F.nw _ rd rk rt (p + 4) e hr4 _ _) 2 gX4_takeMark_X4_tellFault rfl (by decide +kernel) (by rw [hRf, hRl]; decide) (by assumption) (κ := 4) (by assumption) rfl (by decide) rfl rfl (Nat.le_of_ble_eq_true rfl) dX4_takeMark_46 (by rw [hRc, hRs]; omega) (fun r3 T3 hq2 => ?_)
        obtain ⟨rfl, hE3, hp5⟩ := hq2
        have hr5 := hE3.rd hr4 hp5 hp2
        have hE03 := hE02.tr hE3
        have hn5 := hE03.2.2.1 4 (by decide)
        have hf5 := hE03.2.2.1 7 (by decide)
        exact g_zret Z dX4_takeMark_49 (by rfl) (by omega) (by omega) (⟨Or.inl rfl, ⟨hE03.eg hrK, hE03.hs hrK, ⟨p + 4, hr5⟩, by rw [hn5]; exact hn⟩, hf5⟩)
    · refine g_aload_n Z dX4_takeMark_25 rfl ?_
      refine g_aload_n Z dX4_takeMark_26 rfl ?_
      refine g_cvI Z (c_X4_takePlainTotal F.l F.D F.cy F.nw _ rd rk rt (p + 4) e hr4 br h n u hb4 heu (by rw [hn4]; exact hn)) 1 gX4_takeMark_X4_takePlainTotal rfl (by decide +kernel) (by rw [hRf, hRl]; decide) (by assumption) (κ := 4) (by assumption) rfl (by decide) rfl rfl (Nat.le_of_ble_eq_true rfl) dX4_takeMark_27 (by rw [hRc, hRs]; omega) (fun r3 T3 hq2 => ?_)
      exact g_zret Z dX4_takeMark_30 (nar01 hq2.1) (by omega) (by omega) (⟨hq2.1, ⟨(hE02.eg hrK).tr hq2.2.1.1, (hE02.hs hrK).tr hq2.2.1.2.1, hq2.2.1.2.2.1, hq2.2.1.2.2.2⟩, hq2.2.2.trans hf4⟩)
  · refine g_iconst (v := 0) Z dX4_takeMark_8 (by decide) ?_
    exact g_zret Z dX4_takeMark_9 (by rfl) (by omega) (by omega) (⟨Or.inl rfl, ⟨hE1.eg hrK, hE1.hs hrK, ⟨p, hr3⟩, by rw [hn3]; exact hn⟩, hf3⟩)

theorem places_post {nw rd rk rt p e k : Nat} {S T : PS} (hE : Ei nw rd S T) (hK : S.K rd = 4) (hr : RdAt T rd rk rt p e) (hK2 : T.K rd = 4) (hp : p + 4 * k ≤ e) (hk : k ≤ 6) (hn : T.fi rd 4 = nI k) : ((1 : Int32) = 0 ∨ (1 : Int32) = 1) ∧ Hd nw rd rk rt e S ((T.setI rd 7 (nI p)).setI rd 2 (nI (p + 4 * k))) ∧ ((T.setI rd 7 (nI p)).setI rd 2 (nI (p + 4 * k))).fi rd 4 = nI k ∧ (((T.setI rd 7 (nI p)).setI rd 2 (nI (p + 4 * k))).fi rd 7 = S.fi rd 7 ∨ ∃ q : Nat, ((T.setI rd 7 (nI p)).setI rd 2 (nI (p + 4 * k))).fi rd 7 = nI q ∧ q + 4 * k ≤ e) := by
  have hR : Rl Pr T ((T.setI rd 7 (nI p)).setI rd 2 (nI (p + 4 * k))) := (Rl.rf.setI (by rw [hK2]; exact Or.inl rfl)).setI (by rw [show PS.K (PS.setI T rd 7 _) rd = 4 from hK2]; exact Or.inl rfl)
  have h4 : ((T.setI rd 7 (nI p)).setI rd 2 (nI (p + 4 * k))).fi rd 4 = nI k := ((up2_ne _ _ (Or.inr (by decide))).trans (up2_ne _ _ (Or.inr (by decide)))).trans hn
  exact ⟨Or.inr rfl, ⟨(hE.eg hK).tr (hR.eg nPr1 nPr2 nPr10), (hE.hs hK).tr (hR.hs nPr1 nPr2 nPr10), ⟨p + 4 * k, (hr.setI ⟨by decide, by decide⟩).place hp⟩, ⟨k, hk, h4⟩⟩, h4, Or.inr ⟨p, (up2_ne _ _ (Or.inr (by decide))).trans (up2_self _ _ _ _), hp⟩⟩

set_option maxRecDepth 100000 in
set_option maxHeartbeats 2000000 in
/-- the places of the containers -/
theorem c_X4_takePlaces (l : Launch) (D : va_G) (cy : Nat → ClassId) (nw : Nat) (S : PS) (rd rk rt p e : Nat) (hr : RdAt S rd rk rt p e) (k : Nat) (hk : k ≤ 6) (hn : S.fi rd 4 = nI k) : kI l yX4_takePlaces wsX4_takePlaces 2 43 D cy nw [.ref rd] S (fun r T => (r = 0 ∨ r = 1) ∧ Hd nw rd rk rt e S T ∧ T.fi rd 4 = nI k ∧ (T.fi rd 7 = S.fi rd 7 ∨ ∃ q : Nat, T.fi rd 7 = nI q ∧ q + 4 * k ≤ e)) 0 0 := by
  refine enterI (cc := cX4_takePlaces) (nL := 1) (ret := (some .boolean)) (by decide +kernel) rfl (Nat.le_of_ble_eq_true rfl) ?_
  intro F Z hl hR hD hcy hnw hnm
  subst hl hD hcy hnw
  have hRf : F.R.frames = 2 := by rw [hR]
  have hRc : F.R.cells = 0 := by rw [hR]
  have hRs : F.R.slots = 0 := by rw [hR]
  have hRl : F.R.locals = 43 := by rw [hR]
  have in4 : ∀ w ∈ u_ws RX4 TX4 10, w ∈ wsX4_takePlaces := by decide +kernel
  have lk25 : Cond.fieldLink RX4 25 (TX4 2).1 (TX4 2).2.1 (TX4 2).2.2.1 ∈ wsX4_takePlaces := by decide +kernel
  have lk36 : Cond.fieldLink RX4 36 (TX4 4).1 (TX4 4).2.1 (TX4 4).2.2.1 ∈ wsX4_takePlaces := by decide +kernel
  have lk39 : Cond.fieldLink RX4 39 (TX4 5).1 (TX4 5).2.1 (TX4 5).2.2.1 ∈ wsX4_takePlaces := by decide +kernel
  have lk46 : Cond.fieldLink RX4 46 (TX4 7).1 (TX4 7).2.1 (TX4 7).2.2.1 ∈ wsX4_takePlaces := by decide +kernel
  obtain ⟨hrL, hrK, hrk, hkL, hkK, hkl, hrt, htL, htK, htl, hkt, hrp, hre, hpe, he6, hkeys⟩ := id hr
  refine g_aload_n Z dX4_takePlaces_0 rfl ?_
  refine g_geti Z 4 5 rfl (by decide) in4 lk39 dX4_takePlaces_1 (by assumption) (by assumption) ?_
  refine g_if_ne Z 17 dX4_takePlaces_4 (by decide) (fun h4 => ?_) (fun h4 => ?_)
  · refine g_aload_n Z dX4_takePlaces_17 rfl ?_
    refine g_iconst (v := 4) Z dX4_takePlaces_18 (by decide) ?_
    refine g_aload_n Z dX4_takePlaces_19 rfl ?_
    refine g_geti Z 4 4 rfl (by decide) in4 lk36 dX4_takePlaces_20 (by assumption) (by assumption) ?_
    rw [show S.fi rd 4 = nI k from hn]
    refine g_imul Z dX4_takePlaces_23 ?_
    rw [show (4 : Int32) * nI k = nI (4 * k) from pk_mul 4 k]
    refine g_cvI Z (c_X4_isThere F.l F.D F.cy F.nw _ rd rk rt p e hr (4 * k) (by omega)) 1 gX4_takePlaces_X4_isThere rfl (by decide +kernel) (by rw [hRf, hRl]; decide) (by assumption) (κ := 4) (by assumption) rfl (by decide) rfl rfl (Nat.le_of_ble_eq_true rfl) dX4_takePlaces_24 (by rw [hRc, hRs]; omega) (fun r T1 hp => ?_)
    obtain ⟨hE1, hp1, hcase⟩ := hp
    have hr3 := hE1.rd hr hp1 hpe
    have hrL3 := hr3.1
    have hrK3 := hr3.2.1
    have hn3 := hE1.2.2.1 4 (by decide)
    have hf3 := hE1.2.2.1 7 (by decide)
    refine g_if_ne Z 32 dX4_takePlaces_27 (by decide) (fun h27 => ?_) (fun h27 => ?_)
    · have hp2 : p + 4 * k ≤ e := by
        rcases hcase with ⟨-, h⟩ | h
        · exact h
        · exact absurd h h27
      refine g_aload_n Z dX4_takePlaces_32 rfl ?_
      refine g_aload_n Z dX4_takePlaces_33 rfl ?_
      refine g_geti Z 4 2 rfl (by decide) in4 lk25 dX4_takePlaces_34 (by assumption) (by assumption) ?_
      rw [show T1.fi rd 2 = nI p from hp1]
      refine g_puti Z 4 7 rfl (by decide) tyX4 tyX4_ok nmX4 rfl in4 lk46 dX4_takePlaces_37 rfl rfl (by assumption) (by assumption) ?_
      refine g_aload_n Z dX4_takePlaces_40 rfl ?_
      refine g_dup Z dX4_takePlaces_41 rfl ?_
      refine g_geti Z 4 2 rfl (by decide) in4 lk25 dX4_takePlaces_42 (by assumption) (by assumption) ?_
      rw [show PS.fi (PS.setI T1 rd 7 (nI p)) rd 2 = nI p from (up2_ne _ _ (Or.inr (by decide))).trans hp1]
      refine g_iconst (v := 4) Z dX4_takePlaces_45 (by decide) ?_
      refine g_aload_n Z dX4_takePlaces_46 rfl ?_
      refine g_geti Z 4 4 rfl (by decide) in4 lk36 dX4_takePlaces_47 (by assumption) (by assumption) ?_
      rw [show PS.fi (PS.setI T1 rd 7 (nI p)) rd 4 = nI k from ((up2_ne _ _ (Or.inr (by decide))).trans hn3).trans hn]
      refine g_imul Z dX4_takePlaces_50 ?_
      rw [show (4 : Int32) * nI k = nI (4 * k) from pk_mul 4 k]
      refine g_iadd Z dX4_takePlaces_51 ?_
      rw [nI_add]
      refine g_puti Z 4 2 rfl (by decide) tyX4 tyX4_ok nmX4 rfl in4 lk25 dX4_takePlaces_52 rfl rfl (by assumption) (by assumption) ?_
      refine g_iconst (v := 1) Z dX4_takePlaces_55 (by decide) ?_
      exact g_zret Z dX4_takePlaces_56 (by rfl) (by omega) (by omega) (by exact places_post hE1 hrK hr3 hrK3 hp2 hk (hn3.trans hn))
    · refine g_iconst (v := 0) Z dX4_takePlaces_30 (by decide) ?_
      exact g_zret Z dX4_takePlaces_31 (by rfl) (by omega) (by omega) (⟨Or.inl rfl, ⟨hE1.eg hrK, hE1.hs hrK, ⟨p, hr3⟩, ⟨k, hk, hn3.trans hn⟩⟩, hn3.trans hn, Or.inl hf3⟩)
  · refine g_aload_n Z dX4_takePlaces_7 rfl ?_
    refine g_geti Z 4 4 rfl (by decide) in4 lk36 dX4_takePlaces_8 (by assumption) (by assumption) ?_
    refine g_iconst (v := 4) Z dX4_takePlaces_11 (by decide) ?_
    refine g_icmp_ge Z 17 dX4_takePlaces_12 (by decide) (fun h12 => ?_) (fun h12 => ?_)
    · refine g_aload_n Z dX4_takePlaces_17 rfl ?_
      refine g_iconst (v := 4) Z dX4_takePlaces_18 (by decide) ?_
      refine g_aload_n Z dX4_takePlaces_19 rfl ?_
      refine g_geti Z 4 4 rfl (by decide) in4 lk36 dX4_takePlaces_20 (by assumption) (by assumption) ?_
      rw [show S.fi rd 4 = nI k from hn]
      refine g_imul Z dX4_takePlaces_23 ?_
      rw [show (4 : Int32) * nI k = nI (4 * k) from pk_mul 4 k]
      refine g_cvI Z (c_X4_isThere F.l F.D F.cy F.nw _ rd rk rt p e hr (4 * k) (by omega)) 1 gX4_takePlaces_X4_isThere rfl (by decide +kernel) (by rw [hRf, hRl]; decide) (by assumption) (κ := 4) (by assumption) rfl (by decide) rfl rfl (Nat.le_of_ble_eq_true rfl) dX4_takePlaces_24 (by rw [hRc, hRs]; omega) (fun r T1 hp => ?_)
      obtain ⟨hE1, hp1, hcase⟩ := hp
      have hr3 := hE1.rd hr hp1 hpe
      have hrL3 := hr3.1
      have hrK3 := hr3.2.1
      have hn3 := hE1.2.2.1 4 (by decide)
      have hf3 := hE1.2.2.1 7 (by decide)
      refine g_if_ne Z 32 dX4_takePlaces_27 (by decide) (fun h27 => ?_) (fun h27 => ?_)
      · have hp2 : p + 4 * k ≤ e := by
          rcases hcase with ⟨-, h⟩ | h
          · exact h
          · exact absurd h h27
        refine g_aload_n Z dX4_takePlaces_32 rfl ?_
        refine g_aload_n Z dX4_takePlaces_33 rfl ?_
        refine g_geti Z 4 2 rfl (by decide) in4 lk25 dX4_takePlaces_34 (by assumption) (by assumption) ?_
        rw [show T1.fi rd 2 = nI p from hp1]
        refine g_puti Z 4 7 rfl (by decide) tyX4 tyX4_ok nmX4 rfl in4 lk46 dX4_takePlaces_37 rfl rfl (by assumption) (by assumption) ?_
        refine g_aload_n Z dX4_takePlaces_40 rfl ?_
        refine g_dup Z dX4_takePlaces_41 rfl ?_
        refine g_geti Z 4 2 rfl (by decide) in4 lk25 dX4_takePlaces_42 (by assumption) (by assumption) ?_
        rw [show PS.fi (PS.setI T1 rd 7 (nI p)) rd 2 = nI p from (up2_ne _ _ (Or.inr (by decide))).trans hp1]
        refine g_iconst (v := 4) Z dX4_takePlaces_45 (by decide) ?_
        refine g_aload_n Z dX4_takePlaces_46 rfl ?_
        refine g_geti Z 4 4 rfl (by decide) in4 lk36 dX4_takePlaces_47 (by assumption) (by assumption) ?_
        rw [show PS.fi (PS.setI T1 rd 7 (nI p)) rd 4 = nI k from ((up2_ne _ _ (Or.inr (by decide))).trans hn3).trans hn]
        refine g_imul Z dX4_takePlaces_50 ?_
        rw [show (4 : Int32) * nI k = nI (4 * k) from pk_mul 4 k]
        refine g_iadd Z dX4_takePlaces_51 ?_
        rw [nI_add]
        refine g_puti Z 4 2 rfl (by decide) tyX4 tyX4_ok nmX4 rfl in4 lk25 dX4_takePlaces_52 rfl rfl (by assumption) (by assumption) ?_
        refine g_iconst (v := 1) Z dX4_takePlaces_55 (by decide) ?_
        exact g_zret Z dX4_takePlaces_56 (by rfl) (by omega) (by omega) (by exact places_post hE1 hrK hr3 hrK3 hp2 hk (hn3.trans hn))
      · refine g_iconst (v := 0) Z dX4_takePlaces_30 (by decide) ?_
        exact g_zret Z dX4_takePlaces_31 (by rfl) (by omega) (by omega) (⟨Or.inl rfl, ⟨hE1.eg hrK, hE1.hs hrK, ⟨p, hr3⟩, ⟨k, hk, hn3.trans hn⟩⟩, hn3.trans hn, Or.inl hf3⟩)
    · refine g_iconst (v := 1) Z dX4_takePlaces_15 (by decide) ?_
      exact g_zret Z dX4_takePlaces_16 (by rfl) (by omega) (by omega) (⟨Or.inr rfl, ⟨Eg.rf, fun _ _ _ k => k, ⟨p, hr⟩, ⟨k, hk, hn⟩⟩, hn, Or.inl rfl⟩)
