theorem le6 {v : Nat} (hv : v < 2 ^ 62) (h : lg_cmp (lN v) 6 ≤ 0) : v ≤ 6 := by
  refine Nat.not_lt.mp fun q => ?_
  exact absurd (lc_gt.mpr ((pk_lLT (a := 6) (b := v) (by decide) (by omega)).mpr q)) (Int32.not_lt.mpr h)

theorem Ce.wdT {c : Nat} {C : C5} {f g : Nat → Int64} {v : Nat} (h : Ce c C (C.s_wd f)) (hT : Tn f g c v) : Ce c C (C.s_wd g) := ⟨rfl, fun d hd => ⟨rfl, rfl, fun l hl => (hT.2 d l hl (Or.inl hd)).trans ((h.2 d hd).2.2 l hl)⟩⟩

