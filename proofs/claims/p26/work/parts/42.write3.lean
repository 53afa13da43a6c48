theorem Rl.rr10 {S T : PS} (h : Rl Pb S T) {it : Nat} (h1 : it ∈ S.L) (h2 : S.K it = 10) : T.rr it = S.rr it := ((h it h1).2.2.2 (by rw [h2]; exact nPb10)).2.2.2.2

theorem Rl.tk {S T : PS} (h : Rl Pb S T) {nw s it u : Nat} (hs : SetAt S nw s it u) (x : Int32) : ∀ i, i ≤ u → tkF T it x i = tkF S it x i
  | 0, _ => rfl
  | i + 1, hi => by
    obtain ⟨c, hc, hcr⟩ := hs.cr (i := i) (by omega)
    have e1 : kdF T it i = kdF S it i := by
      rw [kdF_at hc, kdF_at (by rw [h.rr10 hs.2.2.2.1 hs.2.2.2.2.1]; exact hc), ((h c hcr.1).2.2.2 (by rw [hcr.2.1]; exact nPb1)).1]
    show (if kdF T it i = x then tkF T it x i + 1 else tkF T it x i) = (if kdF S it i = x then tkF S it x i + 1 else tkF S it x i)
    rw [e1, h.tk hs x i (by omega)]
theorem Rl.hp {S T : PS} (h : Rl Pb S T) {nw s it u : Nat} (hs : SetAt S nw s it u) : hpF T it u = hpF S it u := by
  unfold hpF hrF
  rw [h.tk hs 2 u (Nat.le_refl u)]

