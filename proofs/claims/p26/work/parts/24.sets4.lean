/-- a set but for its used -/
def SetW (S : PS) (nw s it : Nat) : Prop := s ∈ S.L ∧ S.K s = 2 ∧ S.fr s 0 = some it ∧ it ∈ S.L ∧ S.K it = 10 ∧ S.ln it = 7 ∧ ∀ i, i < 7 → ∃ c, S.rr it i = some c ∧ Cw S nw c
theorem SetAt.sw {S : PS} {nw s it u : Nat} (h : SetAt S nw s it u) : SetW S nw s it := ⟨h.1, h.2.1, h.2.2.1, h.2.2.2.1, h.2.2.2.2.1, h.2.2.2.2.2.1, h.2.2.2.2.2.2.2.2.1⟩
theorem SetW.used {S : PS} {nw s it t : Nat} {v : Int32} (h : SetW S nw s it) : SetW (S.setI t 1 v) nw s it := by
  obtain ⟨h1, h2, h3, h4, h5, h6, h7⟩ := h
  refine ⟨h1, h2, h3, h4, h5, h6, fun i hi => ?_⟩
  obtain ⟨c, c1, c2⟩ := h7 i hi
  exact ⟨c, c1, cw_same (S := S) rfl rfl rfl (fun _ => ⟨rfl, up2_ne _ _ (Or.inr (by decide))⟩) c2⟩
theorem SetW.ex {S T : PS} {nw s it : Nat} (hE : Ex nw S T) (h : SetW S nw s it) : SetW T nw s it ∧ T.rr it = S.rr it ∧ T.fi s = S.fi s := by
  obtain ⟨h1, h2, h3, h4, h5, h6, h7⟩ := h
  obtain ⟨a1, a2, -, a4, -⟩ := hE.1 s h1
  obtain ⟨b1, b2, b3, -, b5⟩ := hE.1 it h4
  obtain ⟨a5, a6⟩ := a4 (by rw [h2]; decide)
  obtain ⟨-, b6⟩ := b5 (by rw [h5]; decide)
  refine ⟨⟨a1, a2.trans h2, by rw [a6]; exact h3, b1, b2.trans h5, b3.trans h6, fun i hi => ?_⟩, b6, a5⟩
  obtain ⟨c, c1, c2⟩ := h7 i hi
  exact ⟨c, by rw [b6]; exact c1, hE.2.1 c c2⟩
