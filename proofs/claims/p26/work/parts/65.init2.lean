/-- a reference of the object is set, to a cell made for it -/
theorem ini_obj {x q κ i : Nat} {v : Option Nat} {T T2 : PS} (hq : q ∉ T.L) (hx : x ∈ T.L) (hxK : T.K x = 5) (hN : Nx (fun a => a = q) (T.newO q κ) T2) :
    let U := T2.setR x i v
    Rl (fun κ => κ = 5) T U ∧ Rl (fun κ => κ = 5) T2 U ∧ (∀ j, j ≠ i → U.fr x j = T.fr x j) ∧ U.fr x i = v ∧ U.fi x = T.fi x ∧ x ∈ U.L ∧ U.K x = 5 ∧ x ∈ T2.L ∧ T2.K x = 5 := by
  intro U
  have hxq : x ≠ q := ne_mem hq hx
  have hN0 : Nx (fun a => a = x) T T2 := (Nx.rf.newO hq).sub hN (fun a e => Or.inr (by rw [e]; exact hq))
  have hN1 : Nx (fun a => a = x) T U := hN0.setR (Or.inl rfl)
  obtain ⟨a1, a2, -, -⟩ := hN1 x hx
  obtain ⟨b1, b2, -, b4⟩ := hN x (List.mem_append_left _ hx)
  obtain ⟨c1, c2, -⟩ := b4 hxq
  have k2 : T2.K x = 5 := b2.trans ((va_up_ne _ _ hxq).trans hxK)
  exact ⟨hN1.rl (fun a _ e => by rw [e]; exact hxK), Rl.rf.setR k2, fun j hj => (up2_ne _ _ (Or.inr hj)).trans ((congrFun c2 j).trans (congrFun (va_up_ne _ _ hxq) j)), up2_self _ _ _ _, c1.trans (va_up_ne _ _ hxq), a1, a2.trans hxK, b1, k2⟩
theorem Rl5.sa {nw sa : Nat} {S T : PS} (h : Rl (fun κ => κ = 5) S T) (k : SaAt S nw sa) : SaAt T nw sa := k.eg (h.eg (by decide) (by decide) (by decide)) (by decide)
theorem Rl5.pl {nw pl la d : Nat} {S T : PS} (h : Rl (fun κ => κ = 5) S T) (k : PlAt S nw pl la d) : PlAt T nw pl la d := by
  obtain ⟨k1, k2, k3, k4, k5, k6⟩ := k
  obtain ⟨a1, a2, -, a4⟩ := h pl k1
  obtain ⟨e1, e2, -⟩ := a4 (by rw [k2]; decide)
  exact ⟨a1, a2.trans k2, by rw [e2]; exact k3, Rl5.sa h k4, by rw [e1]; exact k5, k6⟩
theorem Rl11.pl {nw pl la d sa : Nat} {S T : PS} (h : Nx (fun a => a = sa) S T) (hK : S.K sa = 11) (hne : la ≠ sa) (k : PlAt S nw pl la d) : PlAt T nw pl la d := by
  have hR : Rl (fun κ => κ = 11) S T := h.rl (fun a _ e => by rw [e]; exact hK)
  obtain ⟨k1, k2, k3, ⟨l1, l2, l3, l4⟩, k5, k6⟩ := k
  obtain ⟨a1, a2, -, a4⟩ := hR pl k1
  obtain ⟨e1, e2, -⟩ := a4 (by rw [k2]; decide)
  obtain ⟨b1, b2, b3, b4⟩ := h la l1
  have e3 := (b4 hne).2.2.2.2
  refine ⟨a1, a2.trans k2, by rw [e2]; exact k3, ⟨b1, b2.trans l2, b3.trans l3, fun i hi => ?_⟩, by rw [e1]; exact k5, k6⟩
  obtain ⟨s, h1, it, u, h2⟩ := l4 i hi
  exact ⟨s, by rw [e3]; exact h1, it, u, hR.set (by decide) (by decide) (by decide) h2⟩
theorem fit0 : sb_Fit (fun _ => 0) := fun _ => rfl
theorem by_new {q h : Nat} {T : PS} (hh : h ∉ (T.newO q 0).L) : BytesAt (((T.newO q 0).newA h 7 1024).setR q 0 (some h)) q h 1024 0 := by
  have hq : q ∈ (T.newO q 0).L := in_new (κ := 0)
  have hqh : q ≠ h := ne_mem hh hq
  refine ⟨List.mem_append_left _ hq, (va_up_ne _ _ hqh).trans (va_up_self _ _ _), up2_self _ _ _ _, in_newA (κ := 7) (n := 1024), K_newA (n := 1024), va_up_self _ _ _, Or.inl rfl, ?_, by decide, ?_⟩
  · show va_up T.fi q (fun _ => 0) q 1 = nI 0
    rw [va_up_self]; rfl
  · show sb_Fit (va_up T.ri h (fun _ => 0) h)
    rw [va_up_self]; exact fit0
theorem rd_new {q k t : Nat} {T : PS} (hk : k ∉ (T.newO q 4).L) (ht : t ∉ (((T.newO q 4).newA k 8 6).setR q 8 (some k)).L) : RdW (((((T.newO q 4).newA k 8 6).setR q 8 (some k)).newA t 8 6).setR q 9 (some t)) q k t := by
  have hq : q ∈ (T.newO q 4).L := in_new (κ := 4)
  have hqk : q ≠ k := ne_mem hk hq
  have hqt : q ≠ t := ne_mem ht (List.mem_append_left _ hq)
  have hkL : k ∈ (((T.newO q 4).newA k 8 6).setR q 8 (some k)).L := in_newA (S := T.newO q 4) (κ := 8) (n := 6)
  have hkt : k ≠ t := ne_mem ht hkL
  refine ⟨List.mem_append_left _ (List.mem_append_left _ hq), (va_up_ne _ _ hqt).trans ((va_up_ne _ _ hqk).trans (va_up_self _ _ _)), (up2_ne _ _ (Or.inr (by decide))).trans (up2_self _ _ _ _), List.mem_append_left _ hkL, (va_up_ne _ _ hkt).trans (va_up_self _ _ _), (va_up_ne _ _ hkt).trans (va_up_self _ _ _), up2_self _ _ _ _, List.mem_append_right _ (List.mem_singleton.mpr rfl), va_up_self _ _ _, va_up_self _ _ _, hkt, fun i _ => ⟨0, by decide, ?_⟩⟩
  show va_up (va_up T.ri k (fun _ => 0)) t (fun _ => 0) k i = nI 0
  rw [va_up_ne _ _ hkt, va_up_self]; rfl

