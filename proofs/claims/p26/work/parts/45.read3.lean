/-- as Es, but cells of some further kinds may have changed -/
def Eg (nw : Nat) (Q : Nat → Prop) (S T : PS) : Prop := (∀ a ∈ S.L, a ∈ T.L ∧ T.K a = S.K a ∧ T.ln a = S.ln a ∧ (¬ Q (S.K a) → S.K a ≠ 1 → S.K a ≠ 2 → T.fi a = S.fi a ∧ T.fr a = S.fr a) ∧ (¬ Q (S.K a) → S.K a ≠ 9 → T.ri a = S.ri a) ∧ (¬ Q (S.K a) → S.K a ≠ 9 → S.K a ≠ 10 → T.rr a = S.rr a)) ∧ (∀ c, Cw S nw c → Cw T nw c) ∧ (∀ c, Cr S c → Cr T c) ∧ ∀ s, SetOK S nw s → SetOK T nw s
/-- sets stand just as they stood -/
def Hs (nw : Nat) (S T : PS) : Prop := ∀ s it u, SetAt S nw s it u → SetAt T nw s it u
abbrev Pr : Nat → Prop := fun κ => κ = 4 ∨ κ = 8
theorem Es.eg {nw : Nat} {Q : Nat → Prop} {S T : PS} (h : Es nw S T) : Eg nw Q S T := by
  refine ⟨fun a ha => ?_, h.2⟩
  obtain ⟨a1, a2, a3, a4, a5, a6⟩ := h.1 a ha
  exact ⟨a1, a2, a3, fun _ => a4, fun _ => a5, fun _ => a6⟩
theorem Eg.rf {nw : Nat} {Q : Nat → Prop} {S : PS} : Eg nw Q S S := Es.rf.eg
theorem Eg.tr {nw : Nat} {Q : Nat → Prop} {S T U : PS} (h1 : Eg nw Q S T) (h2 : Eg nw Q T U) : Eg nw Q S U := by
  refine ⟨fun a ha => ?_, fun c h => h2.2.1 c (h1.2.1 c h), fun c h => h2.2.2.1 c (h1.2.2.1 c h), fun s h => h2.2.2.2 s (h1.2.2.2 s h)⟩
  obtain ⟨a1, a2, a3, a4, a5, a6⟩ := h1.1 a ha
  obtain ⟨b1, b2, b3, b4, b5, b6⟩ := h2.1 a a1
  rw [a2] at b4 b5 b6 b2
  exact ⟨b1, b2, b3.trans a3, fun o p q => ⟨(b4 o p q).1.trans (a4 o p q).1, (b4 o p q).2.trans (a4 o p q).2⟩, fun o p => (b5 o p).trans (a5 o p), fun o p q => (b6 o p q).trans (a6 o p q)⟩
theorem Rl.eg {nw : Nat} {P : Nat → Prop} {S T : PS} (h : Rl P S T) (h1 : ¬ P 1) (h2 : ¬ P 2) (h10 : ¬ P 10) : Eg nw P S T := by
  refine ⟨fun a ha => ?_, fun c k => h.cw h1 k, fun c k => h.cr h1 k, fun s ⟨it, u, k⟩ => ⟨it, u, h.set h1 h2 h10 k⟩⟩
  obtain ⟨a1, a2, a3, a4⟩ := h a ha
  exact ⟨a1, a2, a3, fun o _ _ => ⟨(a4 o).1, (a4 o).2.1⟩, fun o _ => (a4 o).2.2.1, fun o _ _ => (a4 o).2.2.2.2⟩
theorem Rl.hs {nw : Nat} {P : Nat → Prop} {S T : PS} (h : Rl P S T) (h1 : ¬ P 1) (h2 : ¬ P 2) (h10 : ¬ P 10) : Hs nw S T := fun _ _ _ k => h.set h1 h2 h10 k
theorem Ei.eg {nw rd : Nat} {S T : PS} (h : Ei nw rd S T) (hK : S.K rd = 4) : Eg nw Pr S T := by
  refine ⟨fun a ha => ?_, h.2.2.2.1, h.2.2.2.2, fun s ⟨it, u, k⟩ => ⟨it, u, h.set hK k⟩⟩
  obtain ⟨a1, a2, a3, a4, a5⟩ := h.1 a ha
  exact ⟨a1, a2, a3, fun o p _ => a4 p (fun e => o (by rw [e, hK]; exact Or.inl rfl)), fun _ p => (a5 p).1, fun _ p _ => (a5 p).2⟩
theorem Ei.hs {nw rd : Nat} {S T : PS} (h : Ei nw rd S T) (hK : S.K rd = 4) : Hs nw S T := fun _ _ _ k => h.set hK k
theorem Hs.tr {nw : Nat} {S T U : PS} (h1 : Hs nw S T) (h2 : Hs nw T U) : Hs nw S U := fun s it u k => h2 s it u (h1 s it u k)
theorem Eg.bytes {nw : Nat} {Q : Nat → Prop} {S T : PS} (h : Eg nw Q S T) (h0 : ¬ Q 0) (h7 : ¬ Q 7) {br hh n u : Nat} (k : BytesAt S br hh n u) : BytesAt T br hh n u := by
  obtain ⟨k1, k2, k3, k4, k5, k6, k7, k8, k9, k10⟩ := k
  obtain ⟨a1, a2, -, a4, -, -⟩ := h.1 br k1
  obtain ⟨e1, e2⟩ := a4 (by rw [k2]; exact h0) (by rw [k2]; decide) (by rw [k2]; decide)
  obtain ⟨b1, b2, b3, -, b5, -⟩ := h.1 hh k4
  exact ⟨a1, a2.trans k2, by rw [e2]; exact k3, b1, b2.trans k5, b3.trans k6, k7, by rw [e1]; exact k8, k9, by rw [b5 (by rw [k5]; exact h7) (by rw [k5]; decide)]; exact k10⟩
theorem RdAt.setI {S : PS} {rd rk rt p e i : Nat} {v : Int32} (h : RdAt S rd rk rt p e) (hi : i ≠ 2 ∧ i ≠ 3) : RdAt (S.setI rd i v) rd rk rt p e := by
  obtain ⟨k1, k2, k3, k4, k5, k6, k7, k8, k9, k10, k11, k12, k13, k14, k15, k16⟩ := h
  exact ⟨k1, k2, k3, k4, k5, k6, k7, k8, k9, k10, k11, (up2_ne _ _ (Or.inr (Ne.symm hi.1))).trans k12, (up2_ne _ _ (Or.inr (Ne.symm hi.2))).trans k13, k14, k15, k16⟩
theorem RdAt.place {S : PS} {rd rk rt p p2 e : Nat} (h : RdAt S rd rk rt p e) (hp : p2 ≤ e) : RdAt (S.setI rd 2 (nI p2)) rd rk rt p2 e := by
  obtain ⟨k1, k2, k3, k4, k5, k6, k7, k8, k9, k10, k11, k12, k13, k14, k15, k16⟩ := h
  exact ⟨k1, k2, k3, k4, k5, k6, k7, k8, k9, k10, k11, up2_self _ _ _ _, (up2_ne _ _ (Or.inr (by decide))).trans k13, hp, k15, k16⟩
theorem RdAt.key {S : PS} {rd rk rt p e j v : Nat} (h : RdAt S rd rk rt p e) (hv : v < 65536) : RdAt (S.rowI rk (upd (S.ri rk) j (nI v))) rd rk rt p e := by
  obtain ⟨k1, k2, k3, k4, k5, k6, k7, k8, k9, k10, k11, k12, k13, k14, k15, k16⟩ := h
  refine ⟨k1, k2, k3, k4, k5, k6, k7, k8, k9, k10, k11, k12, k13, k14, k15, fun i hi => ?_⟩
  show ∃ k : Nat, k < 65536 ∧ va_up S.ri rk _ rk i = nI k
  rw [va_up_self]
  by_cases e : i = j
  · subst e; exact ⟨v, hv, pk_us⟩
  · obtain ⟨k, h1, h2⟩ := k16 i hi
    exact ⟨k, h1, (pk_un e).trans h2⟩
theorem RdAt.tot {S : PS} {rd rk rt p e : Nat} {f : Nat → Int32} (h : RdAt S rd rk rt p e) : RdAt (S.rowI rt f) rd rk rt p e := by
  obtain ⟨k1, k2, k3, k4, k5, k6, k7, k8, k9, k10, k11, k12, k13, k14, k15, k16⟩ := h
  refine ⟨k1, k2, k3, k4, k5, k6, k7, k8, k9, k10, k11, k12, k13, k14, k15, ?_⟩
  show ∀ i, i < 6 → ∃ k : Nat, k < 65536 ∧ va_up S.ri rt _ rk i = nI k
  rw [va_up_ne _ _ k11]
  exact k16
theorem Es.rd {nw rd rk rt p e : Nat} {S T : PS} (h : Es nw S T) (k : RdAt S rd rk rt p e) : RdAt T rd rk rt p e ∧ T.fi rd = S.fi rd := by
  obtain ⟨k1, k2, k3, k4, k5, k6, k7, k8, k9, k10, k11, k12, k13, k14, k15, k16⟩ := k
  obtain ⟨a1, a2, -, a4, -⟩ := h.1 rd k1
  obtain ⟨e1, e2⟩ := a4 (by rw [k2]; decide) (by rw [k2]; decide)
  obtain ⟨b1, b2, b3, -, b5, -⟩ := h.1 rk k4
  obtain ⟨c1, c2, c3, -, -, -⟩ := h.1 rt k8
  refine ⟨⟨a1, a2.trans k2, by rw [e2]; exact k3, b1, b2.trans k5, b3.trans k6, by rw [e2]; exact k7, c1, c2.trans k9, c3.trans k10, k11, by rw [e1]; exact k12, by rw [e1]; exact k13, k14, k15, ?_⟩, e1⟩
  rw [b5 (by rw [k5]; decide)]
  exact k16
theorem lcmp_le {v : Nat} (hv : v < 2 ^ (8 * 4)) (h : lg_cmp (lN v) 6 ≤ 0) : v ≤ 6 := by
  refine Nat.not_lt.mp fun q => ?_
  have h1 : lN 6 < lN v := (pk_lLT (a := 6) (b := v) (by decide) (by omega)).mpr q
  unfold lg_cmp at h
  rw [if_pos (show lN v > 6 from h1)] at h
  exact absurd h (by decide)

theorem mark16 {v : Nat} (hv : v < 2 ^ (8 * 4)) : (lsr (lN v) 16).toInt32 + 1 = nI (v / 2 ^ 16 + 1) := by
  rw [show lsr (lN v) 16 = lN (v / 2 ^ 16) from wb_shr (n := v) (k := 16) (by omega) (by decide), lN_i, nI_1]

