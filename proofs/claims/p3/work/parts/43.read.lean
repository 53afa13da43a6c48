/-! READING -/
/-- only containers' insides and the reader's first three numbers have changed -/
def Ei (nw rd : Nat) (S T : PS) : Prop := (∀ a ∈ S.L, a ∈ T.L ∧ T.K a = S.K a ∧ T.ln a = S.ln a ∧ (S.K a ≠ 1 → a ≠ rd → T.fi a = S.fi a ∧ T.fr a = S.fr a) ∧ (S.K a ≠ 9 → T.ri a = S.ri a ∧ T.rr a = S.rr a)) ∧ T.fr rd = S.fr rd ∧ (∀ i, 3 ≤ i → T.fi rd i = S.fi rd i) ∧ (∀ c, Cw S nw c → Cw T nw c) ∧ ∀ c, Cr S c → Cr T c
theorem Ei.rf {nw rd : Nat} {S : PS} : Ei nw rd S S := ⟨fun _ h => ⟨h, rfl, rfl, fun _ _ => ⟨rfl, rfl⟩, fun _ => ⟨rfl, rfl⟩⟩, rfl, fun _ _ => rfl, fun _ h => h, fun _ h => h⟩
theorem Ei.tr {nw rd : Nat} {S T U : PS} (h1 : Ei nw rd S T) (h2 : Ei nw rd T U) : Ei nw rd S U := by
  refine ⟨fun a ha => ?_, h2.2.1.trans h1.2.1, fun i hi => (h2.2.2.1 i hi).trans (h1.2.2.1 i hi), fun c h => h2.2.2.2.1 c (h1.2.2.2.1 c h), fun c h => h2.2.2.2.2 c (h1.2.2.2.2 c h)⟩
  obtain ⟨a1, a2, a3, a4, a5⟩ := h1.1 a ha
  obtain ⟨b1, b2, b3, b4, b5⟩ := h2.1 a a1
  rw [a2] at b2 b4 b5
  exact ⟨b1, b2, b3.trans a3, fun p q => ⟨(b4 p q).1.trans (a4 p q).1, (b4 p q).2.trans (a4 p q).2⟩, fun p => ⟨(b5 p).1.trans (a5 p).1, (b5 p).2.trans (a5 p).2⟩⟩
theorem Ei.of {nw rd : Nat} {S T : PS} (hE : Ex nw S T) (hL : rd ∈ S.L) (hK : S.K rd = 4) : Ei nw rd S T := by
  obtain ⟨-, -, -, a4, -⟩ := hE.1 rd hL
  obtain ⟨e1, e2⟩ := a4 (by rw [hK]; decide)
  refine ⟨fun a ha => ?_, e2, fun i _ => by rw [e1], hE.2.1, hE.2.2⟩
  obtain ⟨a1, a2, a3, a4, a5⟩ := hE.1 a ha
  exact ⟨a1, a2, a3, fun p _ => a4 p, a5⟩
/-- one of the reader's first three numbers is set -/
theorem Ei.setI {nw rd : Nat} {S T : PS} (h : Ei nw rd S T) (hK : T.K rd = 4) {i : Nat} {v : Int32} (hi : i < 3) : Ei nw rd S (T.setI rd i v) := by
  refine h.tr ⟨fun a ha => ⟨ha, rfl, rfl, fun _ q => ⟨va_up_ne _ _ q, rfl⟩, fun _ => ⟨rfl, rfl⟩⟩, rfl, fun j hj => up2_ne _ _ (Or.inr (by omega)), fun c hc => cw_same (S := T) rfl rfl rfl (fun hk => ⟨rfl, up2_ne _ _ (Or.inl (fun e => by rw [e, hK] at hk; cases hk))⟩) hc, fun c hc => cr_same (S := T) rfl rfl rfl (fun hk => ⟨rfl, up2_ne _ _ (Or.inl (fun e => by rw [e, hK] at hk; cases hk))⟩) hc⟩
theorem Ei.set {nw rd : Nat} {S T : PS} (h : Ei nw rd S T) (hK : S.K rd = 4) {s it u : Nat} (k : SetAt S nw s it u) : SetAt T nw s it u := by
  obtain ⟨h1, h2, h3, h4, h5, h6, h7, h8, h9, h10⟩ := k
  obtain ⟨a1, a2, -, a4, -⟩ := h.1 s h1
  obtain ⟨b1, b2, b3, -, b5⟩ := h.1 it h4
  obtain ⟨a5, a6⟩ := a4 (by rw [h2]; decide) (fun e => by rw [e, hK] at h2; cases h2)
  obtain ⟨-, b6⟩ := b5 (by rw [h5]; decide)
  refine ⟨a1, a2.trans h2, by rw [a6]; exact h3, b1, b2.trans h5, b3.trans h6, by rw [a5]; exact h7, h8, fun i hi => ?_, fun i hi => ?_⟩
  · obtain ⟨c, c1, c2⟩ := h9 i hi
    exact ⟨c, by rw [b6]; exact c1, h.2.2.2.1 c c2⟩
  · obtain ⟨c, c1, c2⟩ := h10 i hi
    exact ⟨c, by rw [b6]; exact c1, h.2.2.2.2 c c2⟩
theorem Ei.bytes {nw rd : Nat} {S T : PS} (h : Ei nw rd S T) (hK : S.K rd = 4) {br hh n u : Nat} (k : BytesAt S br hh n u) : BytesAt T br hh n u := by
  obtain ⟨k1, k2, k3, k4, k5, k6, k7, k8, k9, k10⟩ := k
  obtain ⟨a1, a2, -, a4, -⟩ := h.1 br k1
  obtain ⟨e1, e2⟩ := a4 (by rw [k2]; decide) (fun e => by rw [e, hK] at k2; cases k2)
  obtain ⟨b1, b2, b3, -, b5⟩ := h.1 hh k4
  exact ⟨a1, a2.trans k2, by rw [e2]; exact k3, b1, b2.trans k5, b3.trans k6, k7, by rw [e1]; exact k8, k9, by rw [(b5 (by rw [k5]; decide)).1]; exact k10⟩
def RdAt (S : PS) (rd rk rt p e : Nat) : Prop := rd ∈ S.L ∧ S.K rd = 4 ∧ S.fr rd 8 = some rk ∧ rk ∈ S.L ∧ S.K rk = 8 ∧ S.ln rk = 6 ∧ S.fr rd 9 = some rt ∧ rt ∈ S.L ∧ S.K rt = 8 ∧ S.ln rt = 6 ∧ rk ≠ rt ∧ S.fi rd 2 = nI p ∧ S.fi rd 3 = nI e ∧ p ≤ e ∧ e ≤ 60000 ∧ ∀ i, i < 6 → ∃ k : Nat, k < 65536 ∧ S.ri rk i = nI k
theorem Ei.rd {nw rd rk rt p p2 e : Nat} {S T : PS} (h : Ei nw rd S T) (k : RdAt S rd rk rt p e) (hp : T.fi rd 2 = nI p2) (hpe : p2 ≤ e) : RdAt T rd rk rt p2 e := by
  obtain ⟨k1, k2, k3, k4, k5, k6, k7, k8, k9, k10, k11, k12, k13, k14, k15, k16⟩ := k
  obtain ⟨a1, a2, -, -, -⟩ := h.1 rd k1
  obtain ⟨b1, b2, b3, -, b5⟩ := h.1 rk k4
  obtain ⟨c1, c2, c3, -, -⟩ := h.1 rt k8
  refine ⟨a1, a2.trans k2, by rw [h.2.1]; exact k3, b1, b2.trans k5, b3.trans k6, by rw [h.2.1]; exact k7, c1, c2.trans k9, c3.trans k10, k11, hp, by rw [h.2.2.1 3 (by omega)]; exact k13, hpe, k15, ?_⟩
  rw [(b5 (by rw [k5]; decide)).1]
  exact k16

set_option maxRecDepth 100000 in
set_option maxHeartbeats 2000000 in
/-- a fault is told: never true -/
theorem c_X4_tellFault (l : Launch) (D : va_G) (cy : Nat → ClassId) (nw : Nat) (S : PS) (rd rk rt p e : Nat) (hr : RdAt S rd rk rt p e) (x y : Int32) : kI l yX4_tellFault wsX4_tellFault 0 0 D cy nw [.ref rd, .int x, .int y] S (fun r T => r = 0 ∧ Ei nw rd S T ∧ T.fi rd 2 = nI p) 0 0 := by
  refine enterI (cc := cX4_tellFault) (nL := 3) (ret := (some .boolean)) (by decide +kernel) rfl (Nat.le_of_ble_eq_true rfl) ?_
  intro F Z hl hR hD hcy hnw hnm
  subst hl hD hcy hnw
  have hRf : F.R.frames = 0 := by rw [hR]
  have hRc : F.R.cells = 0 := by rw [hR]
  have hRs : F.R.slots = 0 := by rw [hR]
  have hRl : F.R.locals = 0 := by rw [hR]
  have in4 : ∀ w ∈ u_ws RX4 TX4 10, w ∈ wsX4_tellFault := by decide +kernel
  have lk18 : Cond.fieldLink RX4 18 (TX4 0).1 (TX4 0).2.1 (TX4 0).2.2.1 ∈ wsX4_tellFault := by decide +kernel
  have lk22 : Cond.fieldLink RX4 22 (TX4 1).1 (TX4 1).2.1 (TX4 1).2.2.1 ∈ wsX4_tellFault := by decide +kernel
  obtain ⟨hrL, hrK, hrk, hkL, hkK, hkl, hrt, htL, htK, htl, hkt, hrp, hre, hpe, he6, hkeys⟩ := id hr
  refine g_aload_n Z dX4_tellFault_0 rfl ?_
  refine g_iload_n Z dX4_tellFault_1 rfl ?_
  refine g_puti Z 4 0 rfl (by decide) tyX4 tyX4_ok nmX4 rfl in4 lk18 dX4_tellFault_2 rfl rfl (by assumption) (by assumption) ?_
  refine g_aload_n Z dX4_tellFault_5 rfl ?_
  refine g_iload_n Z dX4_tellFault_6 rfl ?_
  refine g_puti Z 4 1 rfl (by decide) tyX4 tyX4_ok nmX4 rfl in4 lk22 dX4_tellFault_7 rfl rfl (by assumption) (by assumption) ?_
  refine g_iconst (v := 0) Z dX4_tellFault_10 (by decide) ?_
  exact g_zret Z dX4_tellFault_11 (by rfl) (by omega) (by omega) (⟨rfl, (Ei.rf.setI hrK (by decide)).setI hrK (by decide), ((up2_ne _ _ (Or.inr (by decide))).trans (up2_ne _ _ (Or.inr (by decide)))).trans hrp⟩)

set_option maxRecDepth 100000 in
set_option maxHeartbeats 2000000 in
/-- whether so many bytes are there -/
theorem c_X4_isThere (l : Launch) (D : va_G) (cy : Nat → ClassId) (nw : Nat) (S : PS) (rd rk rt p e : Nat) (hr : RdAt S rd rk rt p e) (k : Nat) (hk : k < 2 ^ 31) : kI l yX4_isThere wsX4_isThere 1 22 D cy nw [.ref rd, .int (nI k)] S (fun r T => Ei nw rd S T ∧ T.fi rd 2 = nI p ∧ ((r = 1 ∧ p + k ≤ e) ∨ r = 0)) 0 0 := by
  refine enterI (cc := cX4_isThere) (nL := 2) (ret := (some .boolean)) (by decide +kernel) rfl (Nat.le_of_ble_eq_true rfl) ?_
  intro F Z hl hR hD hcy hnw hnm
  subst hl hD hcy hnw
  have hRf : F.R.frames = 1 := by rw [hR]
  have hRc : F.R.cells = 0 := by rw [hR]
  have hRs : F.R.slots = 0 := by rw [hR]
  have hRl : F.R.locals = 22 := by rw [hR]
  have in4 : ∀ w ∈ u_ws RX4 TX4 10, w ∈ wsX4_isThere := by decide +kernel
  have lk25 : Cond.fieldLink RX4 25 (TX4 2).1 (TX4 2).2.1 (TX4 2).2.2.1 ∈ wsX4_isThere := by decide +kernel
  have lk33 : Cond.fieldLink RX4 33 (TX4 3).1 (TX4 3).2.1 (TX4 3).2.2.1 ∈ wsX4_isThere := by decide +kernel
  obtain ⟨hrL, hrK, hrk, hkL, hkK, hkl, hrt, htL, htK, htl, hkt, hrp, hre, hpe, he6, hkeys⟩ := id hr
  refine g_aload_n Z dX4_isThere_0 rfl ?_
  refine g_geti Z 4 3 rfl (by decide) in4 lk33 dX4_isThere_1 (by assumption) (by assumption) ?_
  rw [hre]
  refine g_aload_n Z dX4_isThere_4 rfl ?_
  refine g_geti Z 4 2 rfl (by decide) in4 lk25 dX4_isThere_5 (by assumption) (by assumption) ?_
  rw [hrp]
  refine g_isub Z dX4_isThere_8 ?_
  rw [pk_sub hpe]
  refine g_iload_n Z dX4_isThere_9 rfl ?_
  refine g_icmp_ge Z 25 dX4_isThere_10 (by decide) (fun h10 => ?_) (fun h10 => ?_)
  · refine g_iconst (v := 1) Z dX4_isThere_25 (by decide) ?_
    refine g_goto Z 30 dX4_isThere_26 (by decide) ?_
    exact g_zret Z dX4_isThere_30 (by rfl) (by omega) (by omega) (by first | exact ⟨Ei.rf, hrp, Or.inl ⟨rfl, by have := ge_t (i := e - p) (N := k) (by omega) (by omega) h10; omega⟩⟩ | exact ⟨hE, h2, Or.inr rfl⟩)
  · refine g_aload_n Z dX4_isThere_13 rfl ?_
    refine g_iconst (v := 1) Z dX4_isThere_14 (by decide) ?_
    refine g_aload_n Z dX4_isThere_15 rfl ?_
    refine g_geti Z 4 3 rfl (by decide) in4 lk33 dX4_isThere_16 (by assumption) (by assumption) ?_
    refine g_cvI Z (c_X4_tellFault F.l F.D F.cy F.nw _ rd rk rt p e hr _ _) 2 gX4_isThere_X4_tellFault rfl (by decide +kernel) (by rw [hRf, hRl]; decide) (by assumption) (κ := 4) (by assumption) rfl (by decide) rfl rfl (Nat.le_of_ble_eq_true rfl) dX4_isThere_19 (by rw [hRc, hRs]; omega) (fun r T hp => ?_)
    obtain ⟨rfl, hE, h2⟩ := hp
    refine g_if_eq Z 29 dX4_isThere_22 (by decide) (fun h22 => ?_) (fun h22 => absurd (rfl) h22)
    refine g_iconst (v := 0) Z dX4_isThere_29 (by decide) ?_
    exact g_zret Z dX4_isThere_30 (by rfl) (by omega) (by omega) (by first | exact ⟨Ei.rf, hrp, Or.inl ⟨rfl, by have := ge_t (i := e - p) (N := k) (by omega) (by omega) h10; omega⟩⟩ | exact ⟨hE, h2, Or.inr rfl⟩)

set_option maxRecDepth 100000 in
set_option maxHeartbeats 2000000 in
/-- a number is taken -/
theorem c_X4_take (l : Launch) (D : va_G) (cy : Nat → ClassId) (nw : Nat) (S : PS) (rd rk rt p e : Nat) (hr : RdAt S rd rk rt p e) (br h n u : Nat) (hb : BytesAt S br h n u) (heu : e ≤ u) (k : Nat) (hk : k ≤ 8) (hpk : p + k ≤ e) : kL l yX4_take wsX4_take 2 46 D cy nw [.ref rd, .ref br, .int (nI k)] S (fun r T => Ei nw rd S T ∧ T.fi rd 2 = nI (p + k) ∧ ∃ v : Nat, v < 2 ^ (8 * k) ∧ r = lN v) 0 0 := by
  refine enterL (cc := cX4_take) (nL := 5) (ret := (some .long)) (by decide +kernel) rfl (Nat.le_of_ble_eq_true rfl) ?_
  intro F Z hl hR hD hcy hnw hnm
  subst hl hD hcy hnw
  have hRf : F.R.frames = 2 := by rw [hR]
  have hRc : F.R.cells = 0 := by rw [hR]
  have hRs : F.R.slots = 0 := by rw [hR]
  have hRl : F.R.locals = 46 := by rw [hR]
  have in4 : ∀ w ∈ u_ws RX4 TX4 10, w ∈ wsX4_take := by decide +kernel
  have lk25 : Cond.fieldLink RX4 25 (TX4 2).1 (TX4 2).2.1 (TX4 2).2.2.1 ∈ wsX4_take := by decide +kernel
  obtain ⟨hrL, hrK, hrk, hkL, hkK, hkl, hrt, htL, htK, htl, hkt, hrp, hre, hpe, he6, hkeys⟩ := id hr
  refine g_aload_n Z dX4_take_0 rfl ?_
  refine g_aload_n Z dX4_take_1 rfl ?_
  refine g_geti Z 4 2 rfl (by decide) in4 lk25 dX4_take_2 (by assumption) (by assumption) ?_
  rw [hrp]
  refine g_iload_n Z dX4_take_5 rfl ?_
  refine g_cvL Z (c_X0_numberAt F.l F.D F.cy F.nw _ br h n u hb p k hk (by omega)) 2 gX4_take_X0_numberAt rfl (by decide +kernel) (by rw [hRf, hRl]; decide) (by exact hb.1) (κ := 0) (by exact hb.2.1) rfl (by decide) rfl rfl (Nat.le_of_ble_eq_true rfl) dX4_take_6 (by rw [hRc, hRs]; omega) (fun r T hp => ?_)
  obtain ⟨rfl, v, hv, rfl⟩ := hp
  refine g_lstore_n Z dX4_take_9 (by decide) ?_
  refine g_aload_n Z dX4_take_10 rfl ?_
  refine g_dup Z dX4_take_11 rfl ?_
  refine g_geti Z 4 2 rfl (by decide) in4 lk25 dX4_take_12 (by assumption) (by assumption) ?_
  rw [hrp]
  refine g_iload_n Z dX4_take_15 rfl ?_
  refine g_iadd Z dX4_take_16 ?_
  rw [nI_add]
  refine g_puti Z 4 2 rfl (by decide) tyX4 tyX4_ok nmX4 rfl in4 lk25 dX4_take_17 rfl rfl (by assumption) (by assumption) ?_
  refine g_lload_n Z dX4_take_20 rfl ?_
  exact g_lret Z dX4_take_21 (by omega) (by omega) (⟨Ei.rf.setI hrK (by decide), up2_self _ _ _ _, v, hv, rfl⟩)
