/-- a reader between two readings -/
def RdW (S : PS) (rd rk rt : Nat) : Prop := rd ∈ S.L ∧ S.K rd = 4 ∧ S.fr rd 8 = some rk ∧ rk ∈ S.L ∧ S.K rk = 8 ∧ S.ln rk = 6 ∧ S.fr rd 9 = some rt ∧ rt ∈ S.L ∧ S.K rt = 8 ∧ S.ln rt = 6 ∧ rk ≠ rt ∧ ∀ i, i < 6 → ∃ k : Nat, k < 65536 ∧ S.ri rk i = nI k
theorem RdAt.w {S : PS} {rd rk rt p e : Nat} (h : RdAt S rd rk rt p e) : RdW S rd rk rt := by
  obtain ⟨k1, k2, k3, k4, k5, k6, k7, k8, k9, k10, k11, k12, k13, k14, k15, k16⟩ := h
  exact ⟨k1, k2, k3, k4, k5, k6, k7, k8, k9, k10, k11, k16⟩
theorem RdW.at {S : PS} {rd rk rt p e : Nat} (h : RdW S rd rk rt) (h2 : S.fi rd 2 = nI p) (h3 : S.fi rd 3 = nI e) (hpe : p ≤ e) (he : e ≤ 60000) : RdAt S rd rk rt p e := by
  obtain ⟨k1, k2, k3, k4, k5, k6, k7, k8, k9, k10, k11, k16⟩ := h
  exact ⟨k1, k2, k3, k4, k5, k6, k7, k8, k9, k10, k11, h2, h3, hpe, he, k16⟩
theorem RdW.setI {S : PS} {rd rk rt a i : Nat} {v : Int32} (h : RdW S rd rk rt) : RdW (S.setI a i v) rd rk rt := h
