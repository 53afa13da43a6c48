theorem nI_nm1 {n : Nat} (h : n < 2 ^ 31) : ¬ nI n = -1 := fun e => nI_pos h (by rw [e]; decide)
def InvC (C : C5) : Prop := Okc C ∧ ∀ s, s < 8 → Gd C s
theorem InvC.of {C E : C5} (h : InvC C) {s : Nat} (hS : Se s C E) (hO : Okc E) (hG : Gd E s) : InvC E := ⟨hO, fun t ht => by
  by_cases e : t = s
  · subst e; exact hG
  · exact hS.gd (by omega) e (h.2 t ht)⟩
theorem isub1 (y : Int32) : y - 1 = y + (-1) := by rw [Int32.sub_eq_add_neg]
theorem cb0 {f : Nat → Int64} {c l : Nat} (h : nI (cb f c l) = 0) : cb f c l = 0 := (nI_eq (by have := cb_le f c l; omega) (by decide)).mp h
theorem cb1 {f : Nat → Int64} {c l : Nat} (h : ¬ nI (cb f c l) = 0) : cb f c l = 1 := one_of (cb_le f c l) (fun e => h (by rw [e]; rfl))

