theorem Okc.mnk {C : C5} (h : Okc C) {s : Nat} (hs : s < 17) : ∃ k, k ≤ 6 ∧ C.mn s = nI k := h.1 s hs
theorem ix6p (s k : Nat) : (6 : Int32) * nI s + nI (k + 1) - 1 = nI (6 * s + k) := by rw [ix6, show 6 * s + (k + 1) = 6 * s + k + 1 by omega]; exact nI_pred _
theorem Okc.s_mn {C : C5} (h : Okc C) {s k : Nat} (hk : k ≤ 6) : Okc (C.s_mn (upd C.mn s (nI k))) := ⟨fun t ht => by
  show ∃ k', k' ≤ 6 ∧ upd C.mn s (nI k) t = nI k'
  by_cases e : t = s
  · subst e; exact ⟨k, hk, pk_us⟩
  · rw [pk_un e]; exact h.1 t ht, h.2⟩
/-- copy, word by word -/
theorem cp_step {f g : Nat → Int64} {a b w : Nat} (hab : a ≠ b) (hw : w < 1024) (h1 : ∀ d, d ≠ b → ∀ l, l < 65536 → cb g d l = cb f d l) (h2 : ∀ l, l < 64 * w → cb g b l = cb f a l) :
    (∀ d, d ≠ b → ∀ l, l < 65536 → cb (vp_updL g (1024 * b + w) (g (1024 * a + w))) d l = cb f d l) ∧ ∀ l, l < 64 * (w + 1) → cb (vp_updL g (1024 * b + w) (g (1024 * a + w))) b l = cb f a l := by
  refine ⟨fun d hd l hl => (cb_word hw hl (Or.inl hd)).trans (h1 d hd l hl), fun l hl => ?_⟩
  by_cases e : l / 64 = w
  · rw [cb_self e, ← e]
    exact h1 a hab l (by omega)
  · rw [cb_word hw (by omega) (Or.inr e)]
    exact h2 l (by omega)
/-- a word is blanked -/
theorem zr_step {f g : Nat → Int64} {b w : Nat} (hw : w < 1024) (h1 : ∀ d, d ≠ b → ∀ l, l < 65536 → cb g d l = cb f d l) (h2 : ∀ l, l < 64 * w → cb g b l = 0) :
    (∀ d, d ≠ b → ∀ l, l < 65536 → cb (vp_updL g (1024 * b + w) 0) d l = cb f d l) ∧ ∀ l, l < 64 * (w + 1) → cb (vp_updL g (1024 * b + w) 0) b l = 0 := by
  refine ⟨fun d hd l hl => (cb_word hw hl (Or.inl hd)).trans (h1 d hd l hl), fun l hl => ?_⟩
  by_cases e : l / 64 = w
  · rw [cb_self e, show wv 0 = 0 by decide +kernel, Nat.zero_div]
  · rw [cb_word hw (by omega) (Or.inr e)]
    exact h2 l (by omega)

set_option maxRecDepth 100000 in
set_option maxHeartbeats 2000000 in
/-- the container of a key -/
theorem c_X7_containerOf (l : Launch) (D : va_G) (cy : Nat → ClassId) (nw : Nat) (A : Nat → Nat) (x : Nat) (ho : mOk A x) (C : C5) (R : MR) (s : Nat) (hs : s < 17) (n0 : Nat) (hn0 : n0 ≤ 6) (en0 : C.mn s = nI n0) (key : Int32) : kI l yX7_containerOf wsX7_containerOf 0 0 D cy nw [.ref x, .int (nI s), .int key] (mP A x (C, R)) (fun r T => (mP A x (C, R)) = T ∧ (r = -1 ∨ ∃ j, j < n0 ∧ r = nI (6 * s + j))) 0 0 := by
  refine enterI (cc := cX7_containerOf) (nL := 4) (ret := (some .int)) (by decide +kernel) rfl (Nat.le_of_ble_eq_true rfl) ?_
  intro F Z hl hR hD hcy hnw hnm
  subst hl hD hcy hnw
  have hRf : F.R.frames = 0 := by rw [hR]
  have hRc : F.R.cells = 0 := by rw [hR]
  have hRs : F.R.slots = 0 := by rw [hR]
  have hRl : F.R.locals = 0 := by rw [hR]
  have in6 : ∀ w ∈ u_ws RX7 TX7 16, w ∈ wsX7_containerOf := by decide +kernel
  have lk7 : Cond.fieldLink RX7 7 (TX7 0).1 (TX7 0).2.1 (TX7 0).2.2.1 ∈ wsX7_containerOf := by decide +kernel
  have lk13 : Cond.fieldLink RX7 13 (TX7 1).1 (TX7 1).2.1 (TX7 1).2.2.1 ∈ wsX7_containerOf := by decide +kernel
  have loop : ∀ (n : Nat) (k : Nat), n0 - k < n → (k ≤ n0) → G F 4 (mP A x (C, R)) 0 0 (QI F (fun r T => (mP A x (C, R)) = T ∧ (r = -1 ∨ ∃ j, j < n0 ∧ r = nI (6 * s + j))) 0 0) 2 [(0, .ref x), (1, .int (nI s)), (2, .int key), (3, .int (nI k))] [] := by
    intro n
    induction n with
    | zero => intros; omega
    | succ n ih =>
      intro k hn hk
      refine g_iload_n Z dX7_containerOf_2 rfl ?_
      refine g_aload_n Z dX7_containerOf_3 rfl ?_
      refine m_ref_mn Z in6 lk7 dX7_containerOf_4 ?_
      refine g_iload_n Z dX7_containerOf_7 rfl ?_
      refine m_ald_mn Z ho dX7_containerOf_8 (by exact vp_in_nI (by omega) (by decide)) ?_
      rw [nI_clamp (by omega), en0]
      refine g_icmp_ge Z 40 dX7_containerOf_9 (by decide) (fun h9 => ?_) (fun h9 => ?_)
      · refine g_iconst (v := (-1)) Z dX7_containerOf_40 (by decide) ?_
        exact g_iret Z dX7_containerOf_41 (by omega) (by omega) (⟨rfl, Or.inl rfl⟩)
      · have hlt : k < n0 := ge_f (by omega) (by omega) h9
        refine g_aload_n Z dX7_containerOf_12 rfl ?_
        refine m_ref_ky Z in6 lk13 dX7_containerOf_13 ?_
        refine g_bipush (v := 6) Z dX7_containerOf_16 (by decide) ?_
        refine g_iload_n Z dX7_containerOf_18 rfl ?_
        refine g_imul Z dX7_containerOf_19 ?_
        refine g_iload_n Z dX7_containerOf_20 rfl ?_
        refine g_iadd Z dX7_containerOf_21 ?_
        rw [ix6]
        refine m_ald_ky Z ho dX7_containerOf_22 (by exact vp_in_nI (by omega) (by decide)) ?_
        rw [nI_clamp (by omega)]
        refine g_iload_n Z dX7_containerOf_23 rfl ?_
        refine g_icmp_ne Z 34 dX7_containerOf_24 (by decide) (fun h24 => ?_) (fun h24 => ?_)
        · refine g_iinc (c := 1) Z dX7_containerOf_34 rfl (by decide) (by decide) ?_
          rw [nI_1]
          refine g_goto Z 2 dX7_containerOf_37 (by decide) ?_
          exact g_lv (by (repeat (first | exact trivial | refine And.intro rfl ?_)); done) (ih (k + 1) (by omega) (by omega))
        · refine g_bipush (v := 6) Z dX7_containerOf_27 (by decide) ?_
          refine g_iload_n Z dX7_containerOf_29 rfl ?_
          refine g_imul Z dX7_containerOf_30 ?_
          refine g_iload_n Z dX7_containerOf_31 rfl ?_
          refine g_iadd Z dX7_containerOf_32 ?_
          rw [ix6]
          exact g_iret Z dX7_containerOf_33 (by omega) (by omega) (⟨rfl, Or.inr ⟨k, hlt, rfl⟩⟩)
  refine g_iconst (v := 0) Z dX7_containerOf_0 (by decide) ?_
  refine g_istore_n Z dX7_containerOf_1 (by decide) ?_
  exact g_lv (by (repeat (first | exact trivial | refine And.intro rfl ?_)); done) (loop (n0 + 1) 0 (by omega) (by omega))

