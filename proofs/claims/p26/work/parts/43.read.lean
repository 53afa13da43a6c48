/-! READING -/
/-- only containers' insides and the reader's first three numbers have changed -/
def Ei (nw rd : Nat) (S T : PS) : Prop := (∀ a ∈ S.L, a ∈ T.L ∧ T.K a = S.K a ∧ T.ln a = S.ln a ∧ (S.K a ≠ 1 → a ≠ rd → T.fi a = S.fi a ∧ T.fr a = S.fr a) ∧ (S.K a ≠ 9 → T.ri a = S.ri a ∧ T.rr a = S.rr a)) ∧ T.fr rd = S.fr rd ∧ (∀ i, 3 ≤ i → T.fi rd i = S.fi rd i) ∧ (∀ c, Cw S nw c → Cw T nw c) ∧ ∀ c, Cr S c → Cr T c
theorem Ei.rf {nw rd : Nat} {S : PS} : Ei nw rd S S := ⟨fun _ h => ⟨h, rfl, rfl, fun _ _ => ⟨rfl, rfl⟩, fun _ => ⟨rfl, rfl⟩⟩, rfl, fun _ _ => rfl, fun _ h => h, fun _ h => h⟩
theorem Ei.tr {nw rd : Nat} {S T U : PS} (h1 : Ei nw rd S T) (h2 : Ei nw rd T U) : Ei nw rd S U := by
  refine ⟨fun a ha => ?_, h2.2.1.trans h1.2.1, fun i hi => (h2.2.2.1 i hi).trans (h1.2.2.1 i hi), fun c h => h2.2.2.2.1 c (h1.2.2.2.1 c h), fun c h => h2.2.2.2.2 c (h1.2.2.2.2 c h)⟩
  obtain ⟨a1, a2, a3, a4, a5⟩ := h1.1 a ha
  obtain ⟨b1, b2, b3, b4, b5⟩ := h2.1 a a1
  rw [a2] at b2 b4 b5
  exact ⟨b1, b2, b3.trans a3, fun p q => ⟨(b4 p q).1.trans (a4 p q).1, (b4 p q).2.trans (a4 p q).2⟩, fun p => ⟨(b5 p).1.trans (a5 p).1, (b5 p).2.trans (a5 p).2⟩⟩
theorem Ei.of {nw rd : Nat} {S T : PS} (hE : Ex nw S T) (hL : rd ∈ S.L) (hK : S.K rd = 4) : Ei nw rd S T := by
  obtain ⟨-, -, -, a4, -⟩ := hE.1 rd hL
  obtain ⟨e1, e2⟩ := a4 (by rw [hK]; decide)
  refine ⟨fun a ha => ?_, e2, fun i _ => by rw [e1], hE.2.1, hE.2.2⟩
  obtain ⟨a1, a2, a3, a4, a5⟩ := hE.1 a ha
  exact ⟨a1, a2, a3, fun p _ => a4 p, a5⟩
/-- one of the reader's first three numbers is set -/
theorem Ei.setI {nw rd : Nat} {S T : PS} (h : Ei nw rd S T) (hK : T.K rd = 4) {i : Nat} {v : Int32} (hi : i < 3) : Ei nw rd S (T.setI rd i v) := by
  refine h.tr ⟨fun a ha => ⟨ha, rfl, rfl, fun _ q => ⟨va_up_ne _ _ q, rfl⟩, fun _ => ⟨rfl, rfl⟩⟩, rfl, fun j hj => up2_ne _ _ (Or.inr (by omega)), fun c hc => cw_same (S := T) rfl rfl rfl (fun hk => ⟨rfl, up2_ne _ _ (Or.inl (fun e => by rw [e, hK] at hk; cases hk))⟩) hc, fun c hc => cr_same (S := T) rfl rfl rfl (fun hk => ⟨rfl, up2_ne _ _ (Or.inl (fun e => by rw [e, hK] at hk; cases hk))⟩) hc⟩
theorem Ei.set {nw rd : Nat} {S T : PS} (h : Ei nw rd S T) (hK : S.K rd = 4) {s it u : Nat} (k : SetAt S nw s it u) : SetAt T nw s it u := by
  obtain ⟨h1, h2, h3, h4, h5, h6, h7, h8, h9, h10⟩ := k
  obtain ⟨a1, a2, -, a4, -⟩ := h.1 s h1
  obtain ⟨b1, b2, b3, -, b5⟩ := h.1 it h4
  obtain ⟨a5, a6⟩ := a4 (by rw [h2]; decide) (fun e => by rw [e, hK] at h2; cases h2)
  obtain ⟨-, b6⟩ := b5 (by rw [h5]; decide)
  refine ⟨a1, a2.trans h2, by rw [a6]; exact h3, b1, b2.trans h5, b3.trans h6, by rw [a5]; exact h7, h8, fun i hi => ?_, fun i hi => ?_⟩
  · obtain ⟨c, c1, c2⟩ := h9 i hi
    exact ⟨c, by rw [b6]; exact c1, h.2.2.2.1 c c2⟩
  · obtain ⟨c, c1, c2⟩ := h10 i hi
    exact ⟨c, by rw [b6]; exact c1, h.2.2.2.2 c c2⟩
theorem Ei.bytes {nw rd : Nat} {S T : PS} (h : Ei nw rd S T) (hK : S.K rd = 4) {br hh n u : Nat} (k : BytesAt S br hh n u) : BytesAt T br hh n u := by
  obtain ⟨k1, k2, k3, k4, k5, k6, k7, k8, k9, k10⟩ := k
  obtain ⟨a1, a2, -, a4, -⟩ := h.1 br k1
  obtain ⟨e1, e2⟩ := a4 (by rw [k2]; decide) (fun e => by rw [e, hK] at k2; cases k2)
  obtain ⟨b1, b2, b3, -, b5⟩ := h.1 hh k4
  exact ⟨a1, a2.trans k2, by rw [e2]; exact k3, b1, b2.trans k5, b3.trans k6, k7, by rw [e1]; exact k8, k9, by rw [(b5 (by rw [k5]; decide)).1]; exact k10⟩
def RdAt (S : PS) (rd rk rt p e : Nat) : Prop := rd ∈ S.L ∧ S.K rd = 4 ∧ S.fr rd 8 = some rk ∧ rk ∈ S.L ∧ S.K rk = 8 ∧ S.ln rk = 6 ∧ S.fr rd 9 = some rt ∧ rt ∈ S.L ∧ S.K rt = 8 ∧ S.ln rt = 6 ∧ rk ≠ rt ∧ S.fi rd 2 = nI p ∧ S.fi rd 3 = nI e ∧ p ≤ e ∧ e ≤ 60000 ∧ ∀ i, i < 6 → ∃ k : Nat, k < 65536 ∧ S.ri rk i = nI k
theorem Ei.rd {nw rd rk rt p p2 e : Nat} {S T : PS} (h : Ei nw rd S T) (k : RdAt S rd rk rt p e) (hp : T.fi rd 2 = nI p2) (hpe : p2 ≤ e) : RdAt T rd rk rt p2 e := by
  obtain ⟨k1, k2, k3, k4, k5, k6, k7, k8, k9, k10, k11, k12, k13, k14, k15, k16⟩ := k
  obtain ⟨a1, a2, -, -, -⟩ := h.1 rd k1
  obtain ⟨b1, b2, b3, -, b5⟩ := h.1 rk k4
  obtain ⟨c1, c2, c3, -, -⟩ := h.1 rt k8
  refine ⟨a1, a2.trans k2, by rw [h.2.1]; exact k3, b1, b2.trans k5, b3.trans k6, by rw [h.2.1]; exact k7, c1, c2.trans k9, c3.trans k10, k11, hp, by rw [h.2.2.1 3 (by omega)]; exact k13, hpe, k15, ?_⟩
  rw [(b5 (by rw [k5]; decide)).1]
  exact k16

