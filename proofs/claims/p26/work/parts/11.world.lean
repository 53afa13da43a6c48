/-! THE CLASS'S CELLS: a container that has its words, one that may not have them yet -/
theorem ge_f {i N : Nat} (hi : i < 2 ^ 31) (hN : N < 2 ^ 31) (h : ¬ nI N ≤ nI i) : i < N := Nat.not_le.mp fun q => h ((nI_leI hN hi).mpr q)
theorem gt_f {i N : Nat} (hi : i < 2 ^ 31) (hN : N < 2 ^ 31) (h : ¬ nI N < nI i) : i ≤ N := Nat.not_lt.mp fun q => h ((nI_ltI hN hi).mpr q)
theorem lt_f {i N : Nat} (hi : i < 2 ^ 31) (hN : N < 2 ^ 31) (h : ¬ nI i < nI N) : N ≤ i := Nat.not_lt.mp fun q => h ((nI_ltI hi hN).mpr q)
theorem ge_t {i N : Nat} (hi : i < 2 ^ 31) (hN : N < 2 ^ 31) (h : nI N ≤ nI i) : N ≤ i := (nI_leI hN hi).mp h
theorem lt_t {i N : Nat} (hi : i < 2 ^ 31) (hN : N < 2 ^ 31) (h : nI i < nI N) : i < N := (nI_ltI hi hN).mp h
theorem ne_mem {L : List Nat} {a q : Nat} (hq : q ∉ L) (ha : a ∈ L) : a ≠ q := fun e => hq (e ▸ ha)
def Cr (S : PS) (c : Nat) : Prop := c ∈ S.L ∧ S.K c = 1 ∧ (∃ k : Nat, k < 65536 ∧ S.fi c 0 = nI k) ∧ ∃ w, S.fr c 3 = some w ∧ w ∈ S.L ∧ S.K w = 9 ∧ S.ln w = 1024
def Cw (S : PS) (nw c : Nat) : Prop := c ∈ S.L ∧ S.K c = 1 ∧ (∃ k : Nat, k < 65536 ∧ S.fi c 0 = nI k) ∧ (S.fr c 3 = some nw ∨ ∃ w, S.fr c 3 = some w ∧ w ∈ S.L ∧ S.K w = 9 ∧ S.ln w = 1024)
theorem Cr.w {S : PS} {nw c : Nat} (h : Cr S c) : Cw S nw c := ⟨h.1, h.2.1, h.2.2.1, Or.inr h.2.2.2⟩
/-- only containers' insides have changed, and none has lost its words -/
def Ex (nw : Nat) (S T : PS) : Prop := (∀ a ∈ S.L, a ∈ T.L ∧ T.K a = S.K a ∧ T.ln a = S.ln a ∧ (S.K a ≠ 1 → T.fi a = S.fi a ∧ T.fr a = S.fr a) ∧ (S.K a ≠ 9 → T.ri a = S.ri a ∧ T.rr a = S.rr a)) ∧ (∀ c, Cw S nw c → Cw T nw c) ∧ ∀ c, Cr S c → Cr T c
theorem Ex.rf {nw : Nat} {S : PS} : Ex nw S S := ⟨fun _ h => ⟨h, rfl, rfl, fun _ => ⟨rfl, rfl⟩, fun _ => ⟨rfl, rfl⟩⟩, fun _ h => h, fun _ h => h⟩
theorem Ex.tr {nw : Nat} {S T U : PS} (h1 : Ex nw S T) (h2 : Ex nw T U) : Ex nw S U := by
  refine ⟨fun a ha => ?_, fun c h => h2.2.1 c (h1.2.1 c h), fun c h => h2.2.2 c (h1.2.2 c h)⟩
  obtain ⟨a1, a2, a3, a4, a5⟩ := h1.1 a ha
  obtain ⟨b1, b2, b3, b4, b5⟩ := h2.1 a a1
  refine ⟨b1, b2.trans a2, b3.trans a3, fun h => ?_, fun h => ?_⟩
  · obtain ⟨c1, c2⟩ := a4 h
    obtain ⟨d1, d2⟩ := b4 (by rw [a2]; exact h)
    exact ⟨d1.trans c1, d2.trans c2⟩
  · obtain ⟨c1, c2⟩ := a5 h
    obtain ⟨d1, d2⟩ := b5 (by rw [a2]; exact h)
    exact ⟨d1.trans c1, d2.trans c2⟩
/-- only the kind and the total of one container, and rows of longs, have changed -/
def Cs (c : Nat) (S T : PS) : Prop := T.L = S.L ∧ T.K = S.K ∧ T.fr = S.fr ∧ T.ln = S.ln ∧ T.ri = S.ri ∧ T.rr = S.rr ∧ (∀ b, b ≠ c → T.fi b = S.fi b) ∧ T.fi c 0 = S.fi c 0
theorem Cs.rf {c : Nat} {S : PS} : Cs c S S := ⟨rfl, rfl, rfl, rfl, rfl, rfl, fun _ _ => rfl, rfl⟩
theorem Cs.tr {c : Nat} {S T U : PS} (h : Cs c S T) (k : Cs c T U) : Cs c S U := by
  obtain ⟨a1, a2, a3, a4, a5, a6, a7, a8⟩ := h
  obtain ⟨b1, b2, b3, b4, b5, b6, b7, b8⟩ := k
  exact ⟨b1.trans a1, b2.trans a2, b3.trans a3, b4.trans a4, b5.trans a5, b6.trans a6, fun b hb => (b7 b hb).trans (a7 b hb), b8.trans a8⟩
theorem Cs.setI {c : Nat} {S T : PS} (h : Cs c S T) {i : Nat} (hi : i ≠ 0) {v : Int32} : Cs c S (T.setI c i v) :=
  h.tr ⟨rfl, rfl, rfl, rfl, rfl, rfl, fun b hb => va_up_ne _ _ hb, up2_ne _ _ (Or.inr (Ne.symm hi))⟩
theorem Cs.rowJ {c : Nat} {S T : PS} (h : Cs c S T) {w : Nat} {f : Nat → Int64} : Cs c S (T.rowJ w f) := h.tr ⟨rfl, rfl, rfl, rfl, rfl, rfl, fun _ _ => rfl, rfl⟩
theorem Cs.key {c : Nat} {S T : PS} (h : Cs c S T) (a : Nat) : T.fi a 0 = S.fi a 0 := by
  by_cases ha : a = c
  · subst ha; exact h.2.2.2.2.2.2.2
  · exact congrFun (h.2.2.2.2.2.2.1 a ha) 0
theorem Cs.cr {c : Nat} {S T : PS} (h : Cs c S T) {a : Nat} (k : Cr S a) : Cr T a := by
  obtain ⟨k1, k2, ⟨j, k3, k4⟩, w, k5, k6, k7, k8⟩ := k
  refine ⟨by rw [h.1]; exact k1, by rw [h.2.1]; exact k2, ⟨j, k3, by rw [h.key]; exact k4⟩, w, by rw [h.2.2.1]; exact k5, by rw [h.1]; exact k6, by rw [h.2.1]; exact k7, by rw [h.2.2.2.1]; exact k8⟩
theorem Cs.cw {c : Nat} {S T : PS} (h : Cs c S T) {nw a : Nat} (k : Cw S nw a) : Cw T nw a := by
  obtain ⟨k1, k2, ⟨j, k3, k4⟩, k5⟩ := k
  refine ⟨by rw [h.1]; exact k1, by rw [h.2.1]; exact k2, ⟨j, k3, by rw [h.key]; exact k4⟩, ?_⟩
  rcases k5 with k5 | ⟨w, k5, k6, k7, k8⟩
  · exact Or.inl (by rw [h.2.2.1]; exact k5)
  · exact Or.inr ⟨w, by rw [h.2.2.1]; exact k5, by rw [h.1]; exact k6, by rw [h.2.1]; exact k7, by rw [h.2.2.2.1]; exact k8⟩
theorem Cs.ex {nw c : Nat} {S T : PS} (h : Cs c S T) (hK : S.K c = 1) : Ex nw S T := by
  refine ⟨fun a ha => ⟨by rw [h.1]; exact ha, by rw [h.2.1], by rw [h.2.2.2.1], fun q => ⟨h.2.2.2.2.2.2.1 a (fun e => q (by rw [e]; exact hK)), by rw [h.2.2.1]⟩, fun _ => ⟨by rw [h.2.2.2.2.1], by rw [h.2.2.2.2.2.1]⟩⟩, fun a k => h.cw k, fun a k => h.cr k⟩
/-- words are made -/
theorem Ex.room {nw c q : Nat} {S : PS} (hq : q ∉ S.L) (hK : S.K c = 1) (hc : c ∈ S.L) (hkey : ∃ k : Nat, k < 65536 ∧ S.fi c 0 = nI k) : Ex nw S ((S.newA q 9 1024).setR c 3 (some q)) ∧ Cr ((S.newA q 9 1024).setR c 3 (some q)) c := by
  have ne : ∀ a ∈ S.L, a ≠ q := fun a ha e => hq (e ▸ ha)
  have hcr : Cr ((S.newA q 9 1024).setR c 3 (some q)) c := ⟨List.mem_append_left _ hc, (va_up_ne _ _ (ne c hc)).trans hK, hkey, q, up2_self _ _ _ _, List.mem_append_right _ (List.mem_singleton.mpr rfl), va_up_self _ _ _, va_up_self _ _ _⟩
  have hold : ∀ a, a ≠ c → ∀ w, S.fr a 3 = some w → w ∈ S.L → S.K w = 9 → S.ln w = 1024 → ∃ w, ((S.newA q 9 1024).setR c 3 (some q)).fr a 3 = some w ∧ w ∈ ((S.newA q 9 1024).setR c 3 (some q)).L ∧ ((S.newA q 9 1024).setR c 3 (some q)).K w = 9 ∧ ((S.newA q 9 1024).setR c 3 (some q)).ln w = 1024 := by
    intro a ha w h1 h2 h3 h4
    exact ⟨w, (up2_ne _ _ (Or.inl ha)).trans h1, List.mem_append_left _ h2, (va_up_ne _ _ (ne w h2)).trans h3, (va_up_ne _ _ (ne w h2)).trans h4⟩
  refine ⟨⟨fun a ha => ⟨List.mem_append_left _ ha, va_up_ne _ _ (ne a ha), va_up_ne _ _ (ne a ha), fun h => ⟨rfl, va_up_ne _ _ (fun e => h (by rw [e]; exact hK))⟩, fun _ => ⟨va_up_ne _ _ (ne a ha), va_up_ne _ _ (ne a ha)⟩⟩, fun a h => ?_, fun a h => ?_⟩, hcr⟩
  · by_cases ha : a = c
    · subst ha; exact hcr.w
    · refine ⟨List.mem_append_left _ h.1, (va_up_ne _ _ (ne a h.1)).trans h.2.1, h.2.2.1, ?_⟩
      rcases h.2.2.2 with h5 | ⟨w, h5, h6, h7, h8⟩
      · exact Or.inl ((up2_ne _ _ (Or.inl ha)).trans h5)
      · exact Or.inr (hold a ha w h5 h6 h7 h8)
  · by_cases ha : a = c
    · subst ha; exact hcr
    · obtain ⟨h1, h2, h3, w, h5, h6, h7, h8⟩ := h
      exact ⟨List.mem_append_left _ h1, (va_up_ne _ _ (ne a h1)).trans h2, h3, hold a ha w h5 h6 h7 h8⟩

