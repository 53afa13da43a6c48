theorem by_alt {S : PS} {br h n u j : Nat} {v : Int32} (hb : BytesAt S br h n u) : BytesAt (S.rowI h (upd (S.ri h) j (vp_nar .byte v))) br h n u ∧ Rl Pb S (S.rowI h (upd (S.ri h) j (vp_nar .byte v))) := by
  obtain ⟨k1, k2, k3, k4, k5, k6, k7, k8, k9, k10⟩ := hb
  refine ⟨⟨k1, k2, k3, k4, k5, k6, k7, k8, k9, ?_⟩, Rl.rf.rowI (by rw [k5]; exact Or.inr rfl)⟩
  show sb_Fit (va_up S.ri h _ h)
  rw [va_up_self]
  exact sb_fitU k10 (bast_fit v)

