/-! has -/
def HasV (V : Sv) (v r : Int32) : Prop := (∃ i, i < V.1 ∧ (V.2 i).1 = kyI v ∧ r = nI (cb (V.2 i).2.2 0 (loI v))) ∨ ((∀ i, i < V.1 → (V.2 i).1 ≠ kyI v) ∧ r = 0)
theorem srt_uniq {V : Sv} (hs : Srt V) {i j : Nat} (hi : i < V.1) (hj : j < V.1) (e : (V.2 i).1 = (V.2 j).1) : i = j := by
  rcases Nat.lt_trichotomy i j with q | q | q
  · have := hs i j q hj; omega
  · exact q
  · have := hs j i q hi; omega
theorem HasV.det {V : Sv} {v r r2 : Int32} (hs : Srt V) (h : HasV V v r) (k : HasV V v r2) : r = r2 := by
  rcases h with ⟨i, hi, hk, e⟩ | ⟨hn, e⟩ <;> rcases k with ⟨j, hj, hkj, e2⟩ | ⟨hn2, e2⟩
  · have q := srt_uniq hs hi hj (hk.trans hkj.symm)
    subst q; exact e.trans e2.symm
  · exact absurd hk (hn2 i hi)
  · exact absurd hkj (hn j hj)
  · exact e.trans e2.symm
theorem cb_1 {f : Nat → Int64} {c l : Nat} (h : ¬ nI (cb f c l) = 0) : nI (cb f c l) = 1 := by
  have q := cb_le f c l
  rcases (show cb f c l = 0 ∨ cb f c l = 1 by omega) with e | e
  · exact absurd (by rw [e]; exact nI_0) h
  · rw [e]; rfl

