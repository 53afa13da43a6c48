abbrev Pp : Nat → Prop := fun κ => κ = 3
abbrev nPp1 : ¬ Pp 1 := by decide
abbrev nPp2 : ¬ Pp 2 := by decide
abbrev nPp10 : ¬ Pp 10 := by decide
/-- a row of eight sets -/
def SaAt (S : PS) (nw sa : Nat) : Prop := sa ∈ S.L ∧ S.K sa = 11 ∧ S.ln sa = 8 ∧ ∀ i, i < 8 → ∃ s, S.rr sa i = some s ∧ SetOK S nw s
def PlAt (S : PS) (nw pl la d : Nat) : Prop := pl ∈ S.L ∧ S.K pl = 3 ∧ S.fr pl 0 = some la ∧ SaAt S nw la ∧ S.fi pl 1 = nI d ∧ d ≤ 8
theorem SaAt.eg {nw sa : Nat} {Q : Nat → Prop} {S T : PS} (h : Eg nw Q S T) (h11 : ¬ Q 11) (k : SaAt S nw sa) : SaAt T nw sa := by
  obtain ⟨k1, k2, k3, k4⟩ := k
  obtain ⟨a1, a2, a3, -, -, a6⟩ := h.1 sa k1
  have e := a6 (by rw [k2]; exact h11) (by rw [k2]; decide) (by rw [k2]; decide)
  refine ⟨a1, a2.trans k2, a3.trans k3, fun i hi => ?_⟩
  obtain ⟨s, h1, h2⟩ := k4 i hi
  exact ⟨s, by rw [e]; exact h1, h.2.2.2 s h2⟩
theorem PlAt.es {nw pl la d : Nat} {S T : PS} (h : Es nw S T) (k : PlAt S nw pl la d) : PlAt T nw pl la d := by
  obtain ⟨k1, k2, k3, k4, k5, k6⟩ := k
  obtain ⟨a1, a2, -, a4, -⟩ := h.1 pl k1
  obtain ⟨e1, e2⟩ := a4 (by rw [k2]; decide) (by rw [k2]; decide)
  exact ⟨a1, a2.trans k2, by rw [e2]; exact k3, k4.eg (h.eg (Q := Pp)) (by decide), by rw [e1]; exact k5, k6⟩
theorem PlAt.dep {nw pl la d d2 : Nat} {S : PS} (k : PlAt S nw pl la d) (h : d2 ≤ 8) : PlAt (S.setI pl 1 (nI d2)) nw pl la d2 ∧ Eg nw Pp S (S.setI pl 1 (nI d2)) := by
  obtain ⟨k1, k2, k3, k4, k5, k6⟩ := k
  have hR : Rl Pp S (S.setI pl 1 (nI d2)) := Rl.rf.setI k2
  have hG := hR.eg (nw := nw) nPp1 nPp2 nPp10
  exact ⟨⟨k1, k2, k3, k4.eg hG (by decide), up2_self _ _ _ _, h⟩, hG⟩

