theorem Okc.mnk {C : C5} (h : Okc C) {s : Nat} (hs : s < 17) : ∃ k, k ≤ 6 ∧ C.mn s = nI k := h.1 s hs
theorem Okc.keyk {C : C5} (h : Okc C) {i : Nat} (hs : i < 102) : ∃ k, k < 65536 ∧ C.ky i = nI k := h.2 i hs
theorem ix6p (s k : Nat) : (6 : Int32) * nI s + nI (k + 1) - 1 = nI (6 * s + k) := by rw [ix6, show 6 * s + (k + 1) = 6 * s + k + 1 by omega]; exact nI_pred _
theorem Ce.upd_mn {s : Nat} {C : C5} {v : Int32} : Se s C (C.s_mn (upd C.mn s v)) := fun t _ ht => ⟨pk_un ht, fun _ _ => ⟨rfl, rfl, fun _ _ => rfl⟩⟩
theorem Okc.s_mn {C : C5} (h : Okc C) {s k : Nat} (hk : k ≤ 6) : Okc (C.s_mn (upd C.mn s (nI k))) := ⟨fun t ht => by
  show ∃ k', k' ≤ 6 ∧ upd C.mn s (nI k) t = nI k'
  by_cases e : t = s
  · subst e; exact ⟨k, hk, pk_us⟩
  · rw [pk_un e]; exact h.1 t ht, h.2⟩
/-- copy, word by word -/
theorem cp_step {f g : Nat → Int64} {a b w : Nat} (hab : a ≠ b) (hw : w < 1024) (h1 : ∀ d, d ≠ b → ∀ l, l < 65536 → cb g d l = cb f d l) (h2 : ∀ l, l < 64 * w → cb g b l = cb f a l) :
    (∀ d, d ≠ b → ∀ l, l < 65536 → cb (vp_updL g (1024 * b + w) (g (1024 * a + w))) d l = cb f d l) ∧ ∀ l, l < 64 * (w + 1) → cb (vp_updL g (1024 * b + w) (g (1024 * a + w))) b l = cb f a l := by
  refine ⟨fun d hd l hl => (cb_word hw hl (Or.inl hd)).trans (h1 d hd l hl), fun l hl => ?_⟩
  by_cases e : l / 64 = w
  · rw [cb_self e, ← e]
    exact h1 a hab l (by omega)
  · rw [cb_word hw (by omega) (Or.inr e)]
    exact h2 l (by omega)
/-- a word is blanked -/
theorem zr_step {f g : Nat → Int64} {b w : Nat} (hw : w < 1024) (h1 : ∀ d, d ≠ b → ∀ l, l < 65536 → cb g d l = cb f d l) (h2 : ∀ l, l < 64 * w → cb g b l = 0) :
    (∀ d, d ≠ b → ∀ l, l < 65536 → cb (vp_updL g (1024 * b + w) 0) d l = cb f d l) ∧ ∀ l, l < 64 * (w + 1) → cb (vp_updL g (1024 * b + w) 0) b l = 0 := by
  refine ⟨fun d hd l hl => (cb_word hw hl (Or.inl hd)).trans (h1 d hd l hl), fun l hl => ?_⟩
  by_cases e : l / 64 = w
  · rw [cb_self e, show wv 0 = 0 by decide +kernel, Nat.zero_div]
  · rw [cb_word hw (by omega) (Or.inr e)]
    exact h2 l (by omega)

set_option maxRecDepth 100000 in
set_option maxHeartbeats 2000000 in
/-- a container is copied -/
theorem c_X7_copy (l : Launch) (D : va_G) (cy : Nat → ClassId) (nw : Nat) (A : Nat → Nat) (x : Nat) (ho : mOk A x) (C : C5) (R : MR) (a b : Nat) (ha : a < 102) (hb : b < 102) (hab : a ≠ b) : kV l yX7_copy wsX7_copy 0 0 D cy nw [.ref x, .int (nI a), .int (nI b)] (mP A x (C, R)) (fun T => ∃ E, mP A x (E, R) = T ∧ Ce b C E ∧ E.ky b = C.ky a ∧ E.sz b = C.sz a ∧ ∀ l, l < 65536 → cb E.wd b l = cb C.wd a l) 0 0 := by
  refine enterV (cc := cX7_copy) (nL := 4) (ret := none) (by decide +kernel) rfl (Nat.le_of_ble_eq_true rfl) ?_
  intro F Z hl hR hD hcy hnw hnm
  subst hl hD hcy hnw
  have hRf : F.R.frames = 0 := by rw [hR]
  have hRc : F.R.cells = 0 := by rw [hR]
  have hRs : F.R.slots = 0 := by rw [hR]
  have hRl : F.R.locals = 0 := by rw [hR]
  have in6 : ∀ w ∈ u_ws RX7 TX7 16, w ∈ wsX7_copy := by decide +kernel
  have lk13 : Cond.fieldLink RX7 13 (TX7 1).1 (TX7 1).2.1 (TX7 1).2.2.1 ∈ wsX7_copy := by decide +kernel
  have lk16 : Cond.fieldLink RX7 16 (TX7 2).1 (TX7 2).2.1 (TX7 2).2.2.1 ∈ wsX7_copy := by decide +kernel
  have lk19 : Cond.fieldLink RX7 19 (TX7 3).1 (TX7 3).2.1 (TX7 3).2.2.1 ∈ wsX7_copy := by decide +kernel
  have lk23 : Cond.fieldLink RX7 23 (TX7 4).1 (TX7 4).2.1 (TX7 4).2.2.1 ∈ wsX7_copy := by decide +kernel
  have loop : ∀ (n : Nat) (w : Nat) (g : Nat → Int64), 1024 - w < n → (w ≤ 1024 ∧ (∀ d, d ≠ b → ∀ l, l < 65536 → cb g d l = cb C.wd d l) ∧ ∀ l, l < 64 * w → cb g b l = cb C.wd a l) → G F 4 (mP A x ((((C.s_ky (upd C.ky b (C.ky a))).s_kd (upd C.kd b (C.kd a))).s_sz (upd C.sz b (C.sz a))).s_wd g, R)) 0 0 (QV F (fun T => ∃ E, mP A x (E, R) = T ∧ Ce b C E ∧ E.ky b = C.ky a ∧ E.sz b = C.sz a ∧ ∀ l, l < 65536 → cb E.wd b l = cb C.wd a l) 0 0) 38 [(0, .ref x), (1, .int (nI a)), (2, .int (nI b)), (3, .int (nI w))] [] := by
    intro n
    induction n with
    | zero => intros; omega
    | succ n ih =>
      intro w g hn ⟨hw, h1, h2⟩
      refine g_iload_n Z dX7_copy_38 rfl ?_
      refine g_sipush (v := 1024) Z dX7_copy_39 (by decide) ?_
      refine g_icmp_ge Z 75 dX7_copy_42 (by decide) (fun h42 => ?_) (fun h42 => ?_)
      · have he : w = 1024 := by have := ge_t (N := 1024) (by omega) (by decide) h42; omega
        subst he
        exact g_vret Z dX7_copy_75 (by omega) (by omega) (⟨_, rfl, ⟨rfl, fun d hd => ⟨pk_un hd, pk_un hd, h1 d hd⟩⟩, pk_us, pk_us, fun l hl => h2 l (by omega)⟩)
      · have hlt : w < 1024 := ge_f (by omega) (by decide) h42
        obtain ⟨k1, k2⟩ := cp_step hab hlt h1 h2
        refine g_aload_n Z dX7_copy_45 rfl ?_
        refine m_ref_wd Z in6 lk23 dX7_copy_46 ?_
        refine g_sipush (v := 1024) Z dX7_copy_49 (by decide) ?_
        refine g_iload_n Z dX7_copy_52 rfl ?_
        refine g_imul Z dX7_copy_53 ?_
        refine g_iload_n Z dX7_copy_54 rfl ?_
        refine g_iadd Z dX7_copy_55 ?_
        rw [ixw]
        refine g_aload_n Z dX7_copy_56 rfl ?_
        refine m_ref_wd Z in6 lk23 dX7_copy_57 ?_
        refine g_sipush (v := 1024) Z dX7_copy_60 (by decide) ?_
        refine g_iload_n Z dX7_copy_63 rfl ?_
        refine g_imul Z dX7_copy_64 ?_
        refine g_iload_n Z dX7_copy_65 rfl ?_
        refine g_iadd Z dX7_copy_66 ?_
        rw [ixw]
        refine m_ald_wd Z ho dX7_copy_67 (by exact vp_in_nI (by omega) (by decide)) ?_
        rw [nI_clamp (by omega)]
        refine m_ast_wd Z ho dX7_copy_68 (by exact vp_in_nI (by omega) (by decide)) ?_
        rw [nI_clamp (by omega)]
        refine g_iinc (c := 1) Z dX7_copy_69 rfl (by decide) (by decide) ?_
        rw [nI_1]
        refine g_goto Z 38 dX7_copy_72 (by decide) ?_
        exact g_lv (by (repeat (first | exact trivial | refine And.intro rfl ?_)); done) (ih (w + 1) _ (by omega) ⟨by omega, k1, k2⟩)
  refine g_aload_n Z dX7_copy_0 rfl ?_
  refine m_ref_ky Z in6 lk13 dX7_copy_1 ?_
  refine g_iload_n Z dX7_copy_4 rfl ?_
  refine g_aload_n Z dX7_copy_5 rfl ?_
  refine m_ref_ky Z in6 lk13 dX7_copy_6 ?_
  refine g_iload_n Z dX7_copy_9 rfl ?_
  refine m_ald_ky Z ho dX7_copy_10 (by exact vp_in_nI (by omega) (by decide)) ?_
  rw [nI_clamp (by omega)]
  refine m_ast_ky Z ho dX7_copy_11 (by exact vp_in_nI (by omega) (by decide)) ?_
  rw [nI_clamp (by omega)]
  refine g_aload_n Z dX7_copy_12 rfl ?_
  refine m_ref_kd Z in6 lk16 dX7_copy_13 ?_
  refine g_iload_n Z dX7_copy_16 rfl ?_
  refine g_aload_n Z dX7_copy_17 rfl ?_
  refine m_ref_kd Z in6 lk16 dX7_copy_18 ?_
  refine g_iload_n Z dX7_copy_21 rfl ?_
  refine m_ald_kd Z ho dX7_copy_22 (by exact vp_in_nI (by omega) (by decide)) ?_
  rw [nI_clamp (by omega)]
  refine m_ast_kd Z ho dX7_copy_23 (by exact vp_in_nI (by omega) (by decide)) ?_
  rw [nI_clamp (by omega)]
  refine g_aload_n Z dX7_copy_24 rfl ?_
  refine m_ref_sz Z in6 lk19 dX7_copy_25 ?_
  refine g_iload_n Z dX7_copy_28 rfl ?_
  refine g_aload_n Z dX7_copy_29 rfl ?_
  refine m_ref_sz Z in6 lk19 dX7_copy_30 ?_
  refine g_iload_n Z dX7_copy_33 rfl ?_
  refine m_ald_sz Z ho dX7_copy_34 (by exact vp_in_nI (by omega) (by decide)) ?_
  rw [nI_clamp (by omega)]
  refine m_ast_sz Z ho dX7_copy_35 (by exact vp_in_nI (by omega) (by decide)) ?_
  rw [nI_clamp (by omega)]
  refine g_iconst (v := 0) Z dX7_copy_36 (by decide) ?_
  refine g_istore_n Z dX7_copy_37 (by decide) ?_
  exact g_lv (by (repeat (first | exact trivial | refine And.intro rfl ?_)); done) (loop 1025 0 C.wd (by omega) ⟨by omega, fun _ _ _ _ => rfl, fun l hl => by omega⟩)

theorem sh_cb {f : Nat → Int64} {a b l : Nat} (hl : l < 65536) : cb (fun j => f (1024 * a + (j - 1024 * b))) b l = cb f a l := by
  unfold cb
  show wv (f (1024 * a + (1024 * b + l / 64 - 1024 * b))) / _ % 2 = _
  rw [show 1024 * b + l / 64 - 1024 * b = l / 64 by omega]
theorem sh_gc {C : C5} {a b : Nat} (h : gc C a) : gc ((C.s_sz (fun _ => C.sz a)).s_wd (fun j => C.wd (1024 * a + (j - 1024 * b)))) b := by
  show C.sz a = nI (ct (fun j => C.wd (1024 * a + (j - 1024 * b))) b 65536)
  rw [ct_congr (g := C.wd) (d := a) 65536 (fun k hk => sh_cb hk)]
  exact h

set_option maxRecDepth 100000 in
set_option maxHeartbeats 2000000 in
/-- a set is copied -/
theorem c_X7_copySet (l : Launch) (D : va_G) (cy : Nat → ClassId) (nw : Nat) (A : Nat → Nat) (x : Nat) (ho : mOk A x) (C : C5) (R : MR) (hO : Okc C) (a b : Nat) (ha : a < 17) (hb : b < 17) (hab : a ≠ b) (n0 : Nat) (hn0 : n0 ≤ 6) (en0 : C.mn a = nI n0) : kV l yX7_copySet wsX7_copySet 1 23 D cy nw [.ref x, .int (nI a), .int (nI b)] (mP A x (C, R)) (fun T => ∃ E, mP A x (E, R) = T ∧ Se b C E ∧ Okc E ∧ E.mn b = nI n0 ∧ (Gd C a → Gd E b)) 0 0 := by
  refine enterV (cc := cX7_copySet) (nL := 4) (ret := none) (by decide +kernel) rfl (Nat.le_of_ble_eq_true rfl) ?_
  intro F Z hl hR hD hcy hnw hnm
  subst hl hD hcy hnw
  have hRf : F.R.frames = 1 := by rw [hR]
  have hRc : F.R.cells = 0 := by rw [hR]
  have hRs : F.R.slots = 0 := by rw [hR]
  have hRl : F.R.locals = 23 := by rw [hR]
  have in6 : ∀ w ∈ u_ws RX7 TX7 16, w ∈ wsX7_copySet := by decide +kernel
  have lk7 : Cond.fieldLink RX7 7 (TX7 0).1 (TX7 0).2.1 (TX7 0).2.2.1 ∈ wsX7_copySet := by decide +kernel
  have loop : ∀ (n : Nat) (k : Nat) (E : C5), n0 - k < n → (k ≤ n0 ∧ Se b C E ∧ Okc E ∧ E.mn b = nI n0 ∧ E.mn a = nI n0 ∧ ∀ i, i < k → E.sz (6 * b + i) = C.sz (6 * a + i) ∧ ∀ l, l < 65536 → cb E.wd (6 * b + i) l = cb C.wd (6 * a + i) l) → G F 4 (mP A x (E, R)) 0 0 (QV F (fun T => ∃ E, mP A x (E, R) = T ∧ Se b C E ∧ Okc E ∧ E.mn b = nI n0 ∧ (Gd C a → Gd E b)) 0 0) 14 [(0, .ref x), (1, .int (nI a)), (2, .int (nI b)), (3, .int (nI k))] [] := by
    intro n
    induction n with
    | zero => intros; omega
    | succ n ih =>
      intro k E hn ⟨hk, hS, hE, hmb, hma, hc⟩
      refine g_iload_n Z dX7_copySet_14 rfl ?_
      refine g_aload_n Z dX7_copySet_15 rfl ?_
      refine m_ref_mn Z in6 lk7 dX7_copySet_16 ?_
      refine g_iload_n Z dX7_copySet_19 rfl ?_
      refine m_ald_mn Z ho dX7_copySet_20 (by exact vp_in_nI (by omega) (by decide)) ?_
      rw [nI_clamp (by omega), hma]
      refine g_icmp_ge Z 46 dX7_copySet_21 (by decide) (fun h21 => ?_) (fun h21 => ?_)
      · have he : k = n0 := by have := ge_t (i := k) (N := n0) (by omega) (by omega) h21; omega
        subst he
        exact g_vret Z dX7_copySet_46 (by omega) (by omega) (⟨E, rfl, hS, hE, hmb, fun ⟨n1, g1, g2, g3⟩ => ⟨k, hn0, hmb, fun i hi => gc_of (C := (C.s_sz (fun j => C.sz (6 * a + i))).s_wd (fun j => C.wd (1024 * (6 * a + i) + (j - 1024 * (6 * b + i))))) ((hc i hi).1) (fun l hl => ((hc i hi).2 l hl).trans (sh_cb hl).symm) (sh_gc (g3 i (by have := (nI_eq (by omega) (by omega)).mp (g2.symm.trans en0); omega)))⟩⟩)
      · have hlt : k < n0 := ge_f (by omega) (by omega) h21
        refine g_aload_n Z dX7_copySet_24 rfl ?_
        refine g_bipush (v := 6) Z dX7_copySet_25 (by decide) ?_
        refine g_iload_n Z dX7_copySet_27 rfl ?_
        refine g_imul Z dX7_copySet_28 ?_
        refine g_iload_n Z dX7_copySet_29 rfl ?_
        refine g_iadd Z dX7_copySet_30 ?_
        rw [ix6]
        refine g_bipush (v := 6) Z dX7_copySet_31 (by decide) ?_
        refine g_iload_n Z dX7_copySet_33 rfl ?_
        refine g_imul Z dX7_copySet_34 ?_
        refine g_iload_n Z dX7_copySet_35 rfl ?_
        refine g_iadd Z dX7_copySet_36 ?_
        rw [ix6]
        refine g_cvV Z (c_X7_copy F.l F.D F.cy F.nw A x ho _ _ _ _ (by omega) (by omega) (by omega)) 2 gX7_copySet_X7_copy rfl (by decide +kernel) (by rw [hRf, hRl]; decide) (by exact mP_x) (κ := 6) (by exact mP_Kx) rfl (by decide) rfl rfl (Nat.le_of_ble_eq_true rfl) dX7_copySet_37 (by rw [hRc, hRs]; omega) (fun T hp => ?_)
        obtain ⟨E2, rfl, c1, c2, c3, c4⟩ := hp
        obtain ⟨s1, s2⟩ := hS a ha hab
        obtain ⟨t1, t2, t3⟩ := s2 k (by omega)
        refine g_iinc (c := 1) Z dX7_copySet_40 rfl (by decide) (by decide) ?_
        rw [nI_1]
        refine g_goto Z 14 dX7_copySet_43 (by decide) ?_
        exact g_lv (by (repeat (first | exact trivial | refine And.intro rfl ?_)); done) (ih (k + 1) E2 (by omega) ⟨by omega, hS.tr (c1.se (by omega)), c1.ok (by rw [c2]; exact hE.keyk (by omega)) hE, by rw [c1.1]; exact hmb, by rw [c1.1]; exact hma, fun i hi => by
          by_cases e : i = k
          · subst e; exact ⟨c3.trans t2, fun l hl => (c4 l hl).trans (t3 l hl)⟩
          · exact ⟨(c1.2 _ (by omega)).2.1.trans (hc i (by omega)).1, fun l hl => ((c1.2 _ (by omega)).2.2 l hl).trans ((hc i (by omega)).2 l hl)⟩⟩)
  refine g_aload_n Z dX7_copySet_0 rfl ?_
  refine m_ref_mn Z in6 lk7 dX7_copySet_1 ?_
  refine g_iload_n Z dX7_copySet_4 rfl ?_
  refine g_aload_n Z dX7_copySet_5 rfl ?_
  refine m_ref_mn Z in6 lk7 dX7_copySet_6 ?_
  refine g_iload_n Z dX7_copySet_9 rfl ?_
  refine m_ald_mn Z ho dX7_copySet_10 (by exact vp_in_nI (by omega) (by decide)) ?_
  rw [nI_clamp (by omega), en0]
  refine m_ast_mn Z ho dX7_copySet_11 (by exact vp_in_nI (by omega) (by decide)) ?_
  rw [nI_clamp (by omega)]
  refine g_iconst (v := 0) Z dX7_copySet_12 (by decide) ?_
  refine g_istore_n Z dX7_copySet_13 (by decide) ?_
  exact g_lv (by (repeat (first | exact trivial | refine And.intro rfl ?_)); done) (loop 7 0 (C.s_mn (upd C.mn b (nI n0))) (by omega) ⟨by omega, Ce.upd_mn, hO.s_mn hn0, pk_us, (pk_un hab).trans en0, fun i hi => by omega⟩)

set_option maxRecDepth 100000 in
set_option maxHeartbeats 2000000 in
/-- the container of a key -/
theorem c_X7_containerOf (l : Launch) (D : va_G) (cy : Nat → ClassId) (nw : Nat) (A : Nat → Nat) (x : Nat) (ho : mOk A x) (C : C5) (R : MR) (s : Nat) (hs : s < 17) (n0 : Nat) (hn0 : n0 ≤ 6) (en0 : C.mn s = nI n0) (key : Int32) : kI l yX7_containerOf wsX7_containerOf 0 0 D cy nw [.ref x, .int (nI s), .int key] (mP A x (C, R)) (fun r T => (mP A x (C, R)) = T ∧ (r = -1 ∨ ∃ j, j < n0 ∧ r = nI (6 * s + j))) 0 0 := by
  refine enterI (cc := cX7_containerOf) (nL := 4) (ret := (some .int)) (by decide +kernel) rfl (Nat.le_of_ble_eq_true rfl) ?_
  intro F Z hl hR hD hcy hnw hnm
  subst hl hD hcy hnw
  have hRf : F.R.frames = 0 := by rw [hR]
  have hRc : F.R.cells = 0 := by rw [hR]
  have hRs : F.R.slots = 0 := by rw [hR]
  have hRl : F.R.locals = 0 := by rw [hR]
  have in6 : ∀ w ∈ u_ws RX7 TX7 16, w ∈ wsX7_containerOf := by decide +kernel
  have lk7 : Cond.fieldLink RX7 7 (TX7 0).1 (TX7 0).2.1 (TX7 0).2.2.1 ∈ wsX7_containerOf := by decide +kernel
  have lk13 : Cond.fieldLink RX7 13 (TX7 1).1 (TX7 1).2.1 (TX7 1).2.2.1 ∈ wsX7_containerOf := by decide +kernel
  have loop : ∀ (n : Nat) (k : Nat), n0 - k < n → (k ≤ n0) → G F 4 (mP A x (C, R)) 0 0 (QI F (fun r T => (mP A x (C, R)) = T ∧ (r = -1 ∨ ∃ j, j < n0 ∧ r = nI (6 * s + j))) 0 0) 2 [(0, .ref x), (1, .int (nI s)), (2, .int key), (3, .int (nI k))] [] := by
    intro n
    induction n with
    | zero => intros; omega
    | succ n ih =>
      intro k hn hk
      refine g_iload_n Z dX7_containerOf_2 rfl ?_
      refine g_aload_n Z dX7_containerOf_3 rfl ?_
      refine m_ref_mn Z in6 lk7 dX7_containerOf_4 ?_
      refine g_iload_n Z dX7_containerOf_7 rfl ?_
      refine m_ald_mn Z ho dX7_containerOf_8 (by exact vp_in_nI (by omega) (by decide)) ?_
      rw [nI_clamp (by omega), en0]
      refine g_icmp_ge Z 40 dX7_containerOf_9 (by decide) (fun h9 => ?_) (fun h9 => ?_)
      · refine g_iconst (v := (-1)) Z dX7_containerOf_40 (by decide) ?_
        exact g_iret Z dX7_containerOf_41 (by omega) (by omega) (⟨rfl, Or.inl rfl⟩)
      · have hlt : k < n0 := ge_f (by omega) (by omega) h9
        refine g_aload_n Z dX7_containerOf_12 rfl ?_
        refine m_ref_ky Z in6 lk13 dX7_containerOf_13 ?_
        refine g_bipush (v := 6) Z dX7_containerOf_16 (by decide) ?_
        refine g_iload_n Z dX7_containerOf_18 rfl ?_
        refine g_imul Z dX7_containerOf_19 ?_
        refine g_iload_n Z dX7_containerOf_20 rfl ?_
        refine g_iadd Z dX7_containerOf_21 ?_
        rw [ix6]
        refine m_ald_ky Z ho dX7_containerOf_22 (by exact vp_in_nI (by omega) (by decide)) ?_
        rw [nI_clamp (by omega)]
        refine g_iload_n Z dX7_containerOf_23 rfl ?_
        refine g_icmp_ne Z 34 dX7_containerOf_24 (by decide) (fun h24 => ?_) (fun h24 => ?_)
        · refine g_iinc (c := 1) Z dX7_containerOf_34 rfl (by decide) (by decide) ?_
          rw [nI_1]
          refine g_goto Z 2 dX7_containerOf_37 (by decide) ?_
          exact g_lv (by (repeat (first | exact trivial | refine And.intro rfl ?_)); done) (ih (k + 1) (by omega) (by omega))
        · refine g_bipush (v := 6) Z dX7_containerOf_27 (by decide) ?_
          refine g_iload_n Z dX7_containerOf_29 rfl ?_
          refine g_imul Z dX7_containerOf_30 ?_
          refine g_iload_n Z dX7_containerOf_31 rfl ?_
          refine g_iadd Z dX7_containerOf_32 ?_
          rw [ix6]
          exact g_iret Z dX7_containerOf_33 (by omega) (by omega) (⟨rfl, Or.inr ⟨k, hlt, rfl⟩⟩)
  refine g_iconst (v := 0) Z dX7_containerOf_0 (by decide) ?_
  refine g_istore_n Z dX7_containerOf_1 (by decide) ?_
  exact g_lv (by (repeat (first | exact trivial | refine And.intro rfl ?_)); done) (loop (n0 + 1) 0 (by omega) (by omega))

set_option maxRecDepth 100000 in
set_option maxHeartbeats 2000000 in
/-- a new container is put in its place -/
theorem c_X7_made (l : Launch) (D : va_G) (cy : Nat → ClassId) (nw : Nat) (A : Nat → Nat) (x : Nat) (ho : mOk A x) (C : C5) (R : MR) (hO : Okc C) (s : Nat) (hs : s < 17) (n0 : Nat) (hn0 : n0 < 6) (en0 : C.mn s = nI n0) (hg0 : ∀ i, i < n0 → gc C (6 * s + i)) (key : Nat) (hkey : key < 65536) : kI l yX7_made wsX7_made 1 23 D cy nw [.ref x, .int (nI s), .int (nI key)] (mP A x (C, R)) (fun r T => ∃ E j, mP A x (E, R) = T ∧ r = nI (6 * s + j) ∧ j ≤ n0 ∧ E.mn s = nI (n0 + 1) ∧ Se s C E ∧ Okc E ∧ (∀ i, i ≤ n0 → gc E (6 * s + i)) ∧ E.sz (6 * s + j) = 0 ∧ ∀ l, l < 65536 → cb E.wd (6 * s + j) l = 0) 0 0 := by
  refine enterI (cc := cX7_made) (nL := 6) (ret := (some .int)) (by decide +kernel) rfl (Nat.le_of_ble_eq_true rfl) ?_
  intro F Z hl hR hD hcy hnw hnm
  subst hl hD hcy hnw
  have hRf : F.R.frames = 1 := by rw [hR]
  have hRc : F.R.cells = 0 := by rw [hR]
  have hRs : F.R.slots = 0 := by rw [hR]
  have hRl : F.R.locals = 23 := by rw [hR]
  have in6 : ∀ w ∈ u_ws RX7 TX7 16, w ∈ wsX7_made := by decide +kernel
  have lk7 : Cond.fieldLink RX7 7 (TX7 0).1 (TX7 0).2.1 (TX7 0).2.2.1 ∈ wsX7_made := by decide +kernel
  have lk13 : Cond.fieldLink RX7 13 (TX7 1).1 (TX7 1).2.1 (TX7 1).2.2.1 ∈ wsX7_made := by decide +kernel
  have lk16 : Cond.fieldLink RX7 16 (TX7 2).1 (TX7 2).2.1 (TX7 2).2.2.1 ∈ wsX7_made := by decide +kernel
  have lk19 : Cond.fieldLink RX7 19 (TX7 3).1 (TX7 3).2.1 (TX7 3).2.2.1 ∈ wsX7_made := by decide +kernel
  have lk23 : Cond.fieldLink RX7 23 (TX7 4).1 (TX7 4).2.1 (TX7 4).2.2.1 ∈ wsX7_made := by decide +kernel
  have tail : ∀ (k : Nat) (E : C5), k ≤ n0 → E.mn = C.mn → Se s C E → Okc E → (∀ i, i ≤ n0 → i ≠ k → gc E (6 * s + i)) → G F 6 (mP A x (E, R)) 0 0 (QI F (fun r T => ∃ E j, mP A x (E, R) = T ∧ r = nI (6 * s + j) ∧ j ≤ n0 ∧ E.mn s = nI (n0 + 1) ∧ Se s C E ∧ Okc E ∧ (∀ i, i ≤ n0 → gc E (6 * s + i)) ∧ E.sz (6 * s + j) = 0 ∧ ∀ l, l < 65536 → cb E.wd (6 * s + j) l = 0) 0 0) 52 [(0, .ref x), (1, .int (nI s)), (2, .int (nI key)), (3, .int (nI k))] [] := by
    intro k E hk hmn hS hE hg
    have zero : ∀ (n : Nat) (w : Nat) (g : Nat → Int64), 1024 - w < n → (w ≤ 1024 ∧ (∀ d, d ≠ 6 * s + k → ∀ l, l < 65536 → cb g d l = cb E.wd d l) ∧ ∀ l, l < 64 * w → cb g (6 * s + k) l = 0) → G F 6 (mP A x ((((E.s_ky (upd E.ky (6 * s + k) (nI key))).s_kd (upd E.kd (6 * s + k) 0)).s_sz (upd E.sz (6 * s + k) 0)).s_wd g, R)) 0 0 (QI F (fun r T => ∃ E j, mP A x (E, R) = T ∧ r = nI (6 * s + j) ∧ j ≤ n0 ∧ E.mn s = nI (n0 + 1) ∧ Se s C E ∧ Okc E ∧ (∀ i, i ≤ n0 → gc E (6 * s + i)) ∧ E.sz (6 * s + j) = 0 ∧ ∀ l, l < 65536 → cb E.wd (6 * s + j) l = 0) 0 0) 87 [(0, .ref x), (1, .int (nI s)), (2, .int (nI key)), (4, .int (nI (6 * s + k))), (5, .int (nI w))] [] := by
      intro n
      induction n with
      | zero => intros; omega
      | succ n ih =>
        intro w g hn ⟨hw, h1, h2⟩
        refine g_iload Z dX7_made_87 rfl ?_
        refine g_sipush (v := 1024) Z dX7_made_89 (by decide) ?_
        refine g_icmp_ge Z 116 dX7_made_92 (by decide) (fun h92 => ?_) (fun h92 => ?_)
        · have he : w = 1024 := by have := ge_t (N := 1024) (by omega) (by decide) h92; omega
          subst he
          have hCe : Ce (6 * s + k) E ((((E.s_ky (upd E.ky (6 * s + k) (nI key))).s_kd (upd E.kd (6 * s + k) 0)).s_sz (upd E.sz (6 * s + k) 0)).s_wd g) := ⟨rfl, fun d hd => ⟨pk_un hd, pk_un hd, h1 d hd⟩⟩
          refine g_aload_n Z dX7_made_116 rfl ?_
          refine m_ref_mn Z in6 lk7 dX7_made_117 ?_
          refine g_iload_n Z dX7_made_120 rfl ?_
          refine g_dup2 Z dX7_made_121 rfl rfl ?_
          refine m_ald_mn Z ho dX7_made_122 (by exact vp_in_nI (by omega) (by decide)) ?_
          rw [nI_clamp (by omega), hmn, en0]
          refine g_iconst (v := 1) Z dX7_made_123 (by decide) ?_
          refine g_iadd Z dX7_made_124 ?_
          rw [nI_1]
          refine m_ast_mn Z ho dX7_made_125 (by exact vp_in_nI (by omega) (by decide)) ?_
          rw [nI_clamp (by omega)]
          refine g_iload Z dX7_made_126 rfl ?_
          exact g_iret Z dX7_made_128 (by omega) (by omega) (⟨_, k, rfl, rfl, hk, pk_us, (hS.tr (hCe.se (by omega))).tr Ce.upd_mn, (hCe.ok ⟨key, hkey, pk_us⟩ hE).s_mn (by omega), fun i hi => by
            by_cases e : i = k
            · subst e; show upd E.sz (6 * s + i) 0 (6 * s + i) = nI (ct g (6 * s + i) 65536); rw [pk_us, ct_zero 65536 (fun l hl => h2 l (by omega))]; rfl
            · exact hCe.gc (by omega) (hg i hi e), pk_us, fun l hl => h2 l (by omega)⟩)
        · have hlt : w < 1024 := ge_f (by omega) (by decide) h92
          obtain ⟨k1, k2⟩ := zr_step hlt h1 h2
          refine g_aload_n Z dX7_made_95 rfl ?_
          refine m_ref_wd Z in6 lk23 dX7_made_96 ?_
          refine g_sipush (v := 1024) Z dX7_made_99 (by decide) ?_
          refine g_iload Z dX7_made_102 rfl ?_
          refine g_imul Z dX7_made_104 ?_
          refine g_iload Z dX7_made_105 rfl ?_
          refine g_iadd Z dX7_made_107 ?_
          rw [ixw]
          refine g_lconst (v := 0) Z dX7_made_108 (by decide) ?_
          refine m_ast_wd Z ho dX7_made_109 (by exact vp_in_nI (by omega) (by decide)) ?_
          rw [nI_clamp (by omega)]
          refine g_iinc (c := 1) Z dX7_made_110 rfl (by decide) (by decide) ?_
          rw [nI_1]
          refine g_goto Z 87 dX7_made_113 (by decide) ?_
          exact g_lv (by (repeat (first | exact trivial | refine And.intro rfl ?_)); done) (ih (w + 1) _ (by omega) ⟨by omega, k1, k2⟩)
    refine g_bipush (v := 6) Z dX7_made_52 (by decide) ?_
    refine g_iload_n Z dX7_made_54 rfl ?_
    refine g_imul Z dX7_made_55 ?_
    refine g_iload_n Z dX7_made_56 rfl ?_
    refine g_iadd Z dX7_made_57 ?_
    rw [ix6]
    refine g_istore Z dX7_made_58 (by decide) ?_
    refine g_aload_n Z dX7_made_60 rfl ?_
    refine m_ref_ky Z in6 lk13 dX7_made_61 ?_
    refine g_iload Z dX7_made_64 rfl ?_
    refine g_iload_n Z dX7_made_66 rfl ?_
    refine m_ast_ky Z ho dX7_made_67 (by exact vp_in_nI (by omega) (by decide)) ?_
    rw [nI_clamp (by omega)]
    refine g_aload_n Z dX7_made_68 rfl ?_
    refine m_ref_kd Z in6 lk16 dX7_made_69 ?_
    refine g_iload Z dX7_made_72 rfl ?_
    refine g_iconst (v := 0) Z dX7_made_74 (by decide) ?_
    refine m_ast_kd Z ho dX7_made_75 (by exact vp_in_nI (by omega) (by decide)) ?_
    rw [nI_clamp (by omega)]
    refine g_aload_n Z dX7_made_76 rfl ?_
    refine m_ref_sz Z in6 lk19 dX7_made_77 ?_
    refine g_iload Z dX7_made_80 rfl ?_
    refine g_iconst (v := 0) Z dX7_made_82 (by decide) ?_
    refine m_ast_sz Z ho dX7_made_83 (by exact vp_in_nI (by omega) (by decide)) ?_
    rw [nI_clamp (by omega)]
    refine g_iconst (v := 0) Z dX7_made_84 (by decide) ?_
    refine g_istore Z dX7_made_85 (by decide) ?_
    exact g_lv (by (repeat (first | exact trivial | refine And.intro rfl ?_)); done) (zero 1025 0 E.wd (by omega) ⟨by omega, fun _ _ _ _ => rfl, fun l hl => by omega⟩)
  have loop : ∀ (n : Nat) (k : Nat) (E : C5), k < n → (k ≤ n0 ∧ E.mn = C.mn ∧ Se s C E ∧ Okc E ∧ ∀ i, i ≤ n0 → i ≠ k → gc E (6 * s + i)) → G F 6 (mP A x (E, R)) 0 0 (QI F (fun r T => ∃ E j, mP A x (E, R) = T ∧ r = nI (6 * s + j) ∧ j ≤ n0 ∧ E.mn s = nI (n0 + 1) ∧ Se s C E ∧ Okc E ∧ (∀ i, i ≤ n0 → gc E (6 * s + i)) ∧ E.sz (6 * s + j) = 0 ∧ ∀ l, l < 65536 → cb E.wd (6 * s + j) l = 0) 0 0) 7 [(0, .ref x), (1, .int (nI s)), (2, .int (nI key)), (3, .int (nI k))] [] := by
    intro n
    induction n with
    | zero => intros; omega
    | succ n ih =>
      intro k E hn ⟨hk, hmn, hS, hE, hg⟩
      refine g_iload_n Z dX7_made_7 rfl ?_
      refine g_if_le Z 52 dX7_made_8 (by decide) (fun h8 => ?_) (fun h8 => ?_)
      · exact g_lv (by (repeat (first | exact trivial | refine And.intro rfl ?_)); done) (tail _ E hk hmn hS hE hg)
      · obtain ⟨k', rfl⟩ : ∃ k', k = k' + 1 := ⟨k - 1, by have : ¬ k = 0 := fun e => h8 (by rw [e]; decide); omega⟩
        refine g_aload_n Z dX7_made_11 rfl ?_
        refine m_ref_ky Z in6 lk13 dX7_made_12 ?_
        refine g_bipush (v := 6) Z dX7_made_15 (by decide) ?_
        refine g_iload_n Z dX7_made_17 rfl ?_
        refine g_imul Z dX7_made_18 ?_
        refine g_iload_n Z dX7_made_19 rfl ?_
        refine g_iadd Z dX7_made_20 ?_
        refine g_iconst (v := 1) Z dX7_made_21 (by decide) ?_
        refine g_isub Z dX7_made_22 ?_
        rw [ix6p]
        refine m_ald_ky Z ho dX7_made_23 (by exact vp_in_nI (by omega) (by decide)) ?_
        rw [nI_clamp (by omega)]
        refine g_iload_n Z dX7_made_24 rfl ?_
        refine g_icmp_le Z 52 dX7_made_25 (by decide) (fun h25 => ?_) (fun h25 => ?_)
        · exact g_lv (by (repeat (first | exact trivial | refine And.intro rfl ?_)); done) (tail _ E hk hmn hS hE hg)
        · refine g_aload_n Z dX7_made_28 rfl ?_
          refine g_bipush (v := 6) Z dX7_made_29 (by decide) ?_
          refine g_iload_n Z dX7_made_31 rfl ?_
          refine g_imul Z dX7_made_32 ?_
          refine g_iload_n Z dX7_made_33 rfl ?_
          refine g_iadd Z dX7_made_34 ?_
          refine g_iconst (v := 1) Z dX7_made_35 (by decide) ?_
          refine g_isub Z dX7_made_36 ?_
          rw [ix6p]
          refine g_bipush (v := 6) Z dX7_made_37 (by decide) ?_
          refine g_iload_n Z dX7_made_39 rfl ?_
          refine g_imul Z dX7_made_40 ?_
          refine g_iload_n Z dX7_made_41 rfl ?_
          refine g_iadd Z dX7_made_42 ?_
          rw [ix6]
          refine g_cvV Z (c_X7_copy F.l F.D F.cy F.nw A x ho _ _ _ _ (by omega) (by omega) (by omega)) 2 gX7_made_X7_copy rfl (by decide +kernel) (by rw [hRf, hRl]; decide) (by exact mP_x) (κ := 6) (by exact mP_Kx) rfl (by decide) rfl rfl (Nat.le_of_ble_eq_true rfl) dX7_made_43 (by rw [hRc, hRs]; omega) (fun T hp => ?_)
          obtain ⟨E2, rfl, c1, c2, c3, c4⟩ := hp
          refine g_iinc (c := (-1)) Z dX7_made_46 rfl (by decide) (by decide) ?_
          rw [pk_m1]
          refine g_goto Z 7 dX7_made_49 (by decide) ?_
          exact g_lv (by (repeat (first | exact trivial | refine And.intro rfl ?_)); done) (ih k' E2 (by omega) ⟨by omega, c1.1.trans hmn, hS.tr (c1.se (by omega)), c1.ok (by rw [c2]; exact hE.keyk (by omega)) hE, fun i hi hne => by
            by_cases e : i = k' + 1
            · subst e; show E2.sz _ = _; rw [c3, ct_congr (g := E.wd) (d := 6 * s + k') 65536 c4]; exact hg k' (by omega) (by omega)
            · exact c1.gc (by omega) (hg i hi e)⟩)
  refine g_aload_n Z dX7_made_0 rfl ?_
  refine m_ref_mn Z in6 lk7 dX7_made_1 ?_
  refine g_iload_n Z dX7_made_4 rfl ?_
  refine m_ald_mn Z ho dX7_made_5 (by exact vp_in_nI (by omega) (by decide)) ?_
  rw [nI_clamp (by omega), en0]
  refine g_istore_n Z dX7_made_6 (by decide) ?_
  exact g_lv (by (repeat (first | exact trivial | refine And.intro rfl ?_)); done) (loop (n0 + 1) n0 C (by omega) ⟨by omega, rfl, Se.rf, hO, fun i hi hne => hg0 i (by omega)⟩)

set_option maxRecDepth 100000 in
set_option maxHeartbeats 2000000 in
/-- a container has changed -/
theorem c_X7_changed (l : Launch) (D : va_G) (cy : Nat → ClassId) (nw : Nat) (A : Nat → Nat) (x : Nat) (ho : mOk A x) (C : C5) (R : MR) (hO : Okc C) (s : Nat) (hs : s < 17) (n0 : Nat) (hn0 : n0 ≤ 6) (en0 : C.mn s = nI n0) (hg0 : ∀ i, i < n0 → gc C (6 * s + i)) (j : Nat) (hj : j < n0) : kV l yX7_changed wsX7_changed 1 23 D cy nw [.ref x, .int (nI s), .int (nI (6 * s + j))] (mP A x (C, R)) (fun T => ∃ E, mP A x (E, R) = T ∧ Se s C E ∧ Okc E ∧ Gd E s) 0 0 := by
  refine enterV (cc := cX7_changed) (nL := 4) (ret := none) (by decide +kernel) rfl (Nat.le_of_ble_eq_true rfl) ?_
  intro F Z hl hR hD hcy hnw hnm
  subst hl hD hcy hnw
  have hRf : F.R.frames = 1 := by rw [hR]
  have hRc : F.R.cells = 0 := by rw [hR]
  have hRs : F.R.slots = 0 := by rw [hR]
  have hRl : F.R.locals = 23 := by rw [hR]
  have in6 : ∀ w ∈ u_ws RX7 TX7 16, w ∈ wsX7_changed := by decide +kernel
  have lk7 : Cond.fieldLink RX7 7 (TX7 0).1 (TX7 0).2.1 (TX7 0).2.2.1 ∈ wsX7_changed := by decide +kernel
  have lk16 : Cond.fieldLink RX7 16 (TX7 2).1 (TX7 2).2.1 (TX7 2).2.2.1 ∈ wsX7_changed := by decide +kernel
  have lk19 : Cond.fieldLink RX7 19 (TX7 3).1 (TX7 3).2.1 (TX7 3).2.2.1 ∈ wsX7_changed := by decide +kernel
  have loop : ∀ (n : Nat) (k : Nat) (E : C5), n0 - k < n → (j ≤ k ∧ k < n0 ∧ E.mn = C.mn ∧ Se s C E ∧ Okc E ∧ ∀ i, i < n0 → gc E (6 * s + i)) → G F 4 (mP A x (E, R)) 0 0 (QV F (fun T => ∃ E, mP A x (E, R) = T ∧ Se s C E ∧ Okc E ∧ Gd E s) 0 0) 23 [(0, .ref x), (1, .int (nI s)), (2, .int (nI (6 * s + j))), (3, .int (nI (6 * s + k)))] [] := by
    intro n
    induction n with
    | zero => intros; omega
    | succ n ih =>
      intro k E hn ⟨hjk, hk, hmn, hS, hE, hg⟩
      refine g_iload_n Z dX7_changed_23 rfl ?_
      refine g_iconst (v := 1) Z dX7_changed_24 (by decide) ?_
      refine g_iadd Z dX7_changed_25 ?_
      rw [nI_1]
      refine g_bipush (v := 6) Z dX7_changed_26 (by decide) ?_
      refine g_iload_n Z dX7_changed_28 rfl ?_
      refine g_imul Z dX7_changed_29 ?_
      refine g_aload_n Z dX7_changed_30 rfl ?_
      refine m_ref_mn Z in6 lk7 dX7_changed_31 ?_
      refine g_iload_n Z dX7_changed_34 rfl ?_
      refine m_ald_mn Z ho dX7_changed_35 (by exact vp_in_nI (by omega) (by decide)) ?_
      rw [nI_clamp (by omega), hmn, en0]
      refine g_iadd Z dX7_changed_36 ?_
      rw [ix6]
      refine g_icmp_ge Z 54 dX7_changed_37 (by decide) (fun h37 => ?_) (fun h37 => ?_)
      · have hge : 6 * s + n0 ≤ 6 * s + k + 1 := ge_t (by omega) (by omega) h37
        refine g_aload_n Z dX7_changed_54 rfl ?_
        refine m_ref_mn Z in6 lk7 dX7_changed_55 ?_
        refine g_iload_n Z dX7_changed_58 rfl ?_
        refine g_dup2 Z dX7_changed_59 rfl rfl ?_
        refine m_ald_mn Z ho dX7_changed_60 (by exact vp_in_nI (by omega) (by decide)) ?_
        rw [nI_clamp (by omega), hmn, en0]
        refine g_iconst (v := 1) Z dX7_changed_61 (by decide) ?_
        refine g_isub Z dX7_changed_62 ?_
        rw [show nI n0 - 1 = nI (n0 - 1) from pk_sub (a := n0) (b := 1) (by omega)]
        refine m_ast_mn Z ho dX7_changed_63 (by exact vp_in_nI (by omega) (by decide)) ?_
        rw [nI_clamp (by omega)]
        exact g_vret Z dX7_changed_64 (by omega) (by omega) (⟨_, rfl, hS.tr Ce.upd_mn, hE.s_mn (by omega), n0 - 1, by omega, pk_us, fun i hi => hg i (by omega)⟩)
      · have hlt : 6 * s + k + 1 < 6 * s + n0 := ge_f (by omega) (by omega) h37
        refine g_aload_n Z dX7_changed_40 rfl ?_
        refine g_iload_n Z dX7_changed_41 rfl ?_
        refine g_iconst (v := 1) Z dX7_changed_42 (by decide) ?_
        refine g_iadd Z dX7_changed_43 ?_
        rw [nI_1]
        refine g_iload_n Z dX7_changed_44 rfl ?_
        refine g_cvV Z (c_X7_copy F.l F.D F.cy F.nw A x ho _ _ _ _ (by omega) (by omega) (by omega)) 2 gX7_changed_X7_copy rfl (by decide +kernel) (by rw [hRf, hRl]; decide) (by exact mP_x) (κ := 6) (by exact mP_Kx) rfl (by decide) rfl rfl (Nat.le_of_ble_eq_true rfl) dX7_changed_45 (by rw [hRc, hRs]; omega) (fun T hp => ?_)
        obtain ⟨E2, rfl, c1, c2, c3, c4⟩ := hp
        refine g_iinc (c := 1) Z dX7_changed_48 rfl (by decide) (by decide) ?_
        rw [nI_1]
        refine g_goto Z 23 dX7_changed_51 (by decide) ?_
        exact g_lv (by (repeat (first | exact trivial | refine And.intro rfl ?_)); done) (ih (k + 1) E2 (by omega) ⟨by omega, by omega, c1.1.trans hmn, hS.tr (c1.se (by omega)), c1.ok (by rw [c2]; exact hE.keyk (by omega)) hE, fun i hi => by
          by_cases e : i = k
          · subst e; show E2.sz _ = _; rw [c3, ct_congr (g := E.wd) (d := 6 * s + i + 1) 65536 c4]; exact hg (i + 1) (by omega)
          · exact c1.gc (by omega) (hg i hi)⟩)
  refine g_aload_n Z dX7_changed_0 rfl ?_
  refine m_ref_sz Z in6 lk19 dX7_changed_1 ?_
  refine g_iload_n Z dX7_changed_4 rfl ?_
  refine m_ald_sz Z ho dX7_changed_5 (by exact vp_in_nI (by omega) (by decide)) ?_
  rw [nI_clamp (by omega)]
  refine g_if_le Z 21 dX7_changed_6 (by decide) (fun h6 => ?_) (fun h6 => ?_)
  · refine g_iload_n Z dX7_changed_21 rfl ?_
    refine g_istore_n Z dX7_changed_22 (by decide) ?_
    exact g_lv (by (repeat (first | exact trivial | refine And.intro rfl ?_)); done) (loop (n0 + 1) j C (by omega) ⟨by omega, by omega, rfl, Se.rf, hO, hg0⟩)
  · refine g_aload_n Z dX7_changed_9 rfl ?_
    refine m_ref_kd Z in6 lk16 dX7_changed_10 ?_
    refine g_iload_n Z dX7_changed_13 rfl ?_
    refine g_aload_n Z dX7_changed_14 rfl ?_
    refine g_iload_n Z dX7_changed_15 rfl ?_
    refine g_cvI Z (c_X7_plainKind F.l F.D F.cy F.nw A x ho _ _ _ (by omega)) 1 gX7_changed_X7_plainKind rfl (by decide +kernel) (by rw [hRf, hRl]; decide) (by exact mP_x) (κ := 6) (by exact mP_Kx) rfl (by decide) rfl rfl (Nat.le_of_ble_eq_true rfl) dX7_changed_16 (by rw [hRc, hRs]; omega) (fun r T hp => ?_)
    subst hp
    refine m_ast_kd Z ho dX7_changed_19 (by exact vp_in_nI (by omega) (by decide)) ?_
    rw [nI_clamp (by omega)]
    exact g_vret Z dX7_changed_20 (by omega) (by omega) (⟨_, rfl, Se.rf.tr (fun t _ ht => ⟨rfl, fun i _ => ⟨rfl, rfl, fun _ _ => rfl⟩⟩), hO, n0, hn0, en0, hg0⟩)

set_option maxRecDepth 100000 in
set_option maxHeartbeats 2000000 in
/-- how many numbers a set has -/
theorem c_X7_all (l : Launch) (D : va_G) (cy : Nat → ClassId) (nw : Nat) (A : Nat → Nat) (x : Nat) (ho : mOk A x) (C : C5) (R : MR) (hO : Okc C) (s : Nat) (hs : s < 17) : kI l yX7_all wsX7_all 0 0 D cy nw [.ref x, .int (nI s)] (mP A x (C, R)) (fun _ T => (mP A x (C, R)) = T) 0 0 := by
  refine enterI (cc := cX7_all) (nL := 4) (ret := (some .int)) (by decide +kernel) rfl (Nat.le_of_ble_eq_true rfl) ?_
  intro F Z hl hR hD hcy hnw hnm
  subst hl hD hcy hnw
  have hRf : F.R.frames = 0 := by rw [hR]
  have hRc : F.R.cells = 0 := by rw [hR]
  have hRs : F.R.slots = 0 := by rw [hR]
  have hRl : F.R.locals = 0 := by rw [hR]
  have in6 : ∀ w ∈ u_ws RX7 TX7 16, w ∈ wsX7_all := by decide +kernel
  have lk7 : Cond.fieldLink RX7 7 (TX7 0).1 (TX7 0).2.1 (TX7 0).2.2.1 ∈ wsX7_all := by decide +kernel
  have lk19 : Cond.fieldLink RX7 19 (TX7 3).1 (TX7 3).2.1 (TX7 3).2.2.1 ∈ wsX7_all := by decide +kernel
  obtain ⟨n0, hn0, en0⟩ := hO.mnk hs
  have loop : ∀ (n : Nat) (k : Nat) (y : Int32), n0 - k < n → (k ≤ n0) → G F 4 (mP A x (C, R)) 0 0 (QI F (fun _ T => (mP A x (C, R)) = T) 0 0) 4 [(0, .ref x), (1, .int (nI s)), (2, .int y), (3, .int (nI k))] [] := by
    intro n
    induction n with
    | zero => intros; omega
    | succ n ih =>
      intro k y hn hk
      refine g_iload_n Z dX7_all_4 rfl ?_
      refine g_aload_n Z dX7_all_5 rfl ?_
      refine m_ref_mn Z in6 lk7 dX7_all_6 ?_
      refine g_iload_n Z dX7_all_9 rfl ?_
      refine m_ald_mn Z ho dX7_all_10 (by exact vp_in_nI (by omega) (by decide)) ?_
      rw [nI_clamp (by omega), en0]
      refine g_icmp_ge Z 34 dX7_all_11 (by decide) (fun h11 => ?_) (fun h11 => ?_)
      · refine g_iload_n Z dX7_all_34 rfl ?_
        exact g_iret Z dX7_all_35 (by omega) (by omega) (rfl)
      · have hlt : k < n0 := ge_f (by omega) (by omega) h11
        refine g_iload_n Z dX7_all_14 rfl ?_
        refine g_aload_n Z dX7_all_15 rfl ?_
        refine m_ref_sz Z in6 lk19 dX7_all_16 ?_
        refine g_bipush (v := 6) Z dX7_all_19 (by decide) ?_
        refine g_iload_n Z dX7_all_21 rfl ?_
        refine g_imul Z dX7_all_22 ?_
        refine g_iload_n Z dX7_all_23 rfl ?_
        refine g_iadd Z dX7_all_24 ?_
        rw [ix6]
        refine m_ald_sz Z ho dX7_all_25 (by exact vp_in_nI (by omega) (by decide)) ?_
        rw [nI_clamp (by omega)]
        refine g_iadd Z dX7_all_26 ?_
        refine g_istore_n Z dX7_all_27 (by decide) ?_
        refine g_iinc (c := 1) Z dX7_all_28 rfl (by decide) (by decide) ?_
        rw [nI_1]
        refine g_goto Z 4 dX7_all_31 (by decide) ?_
        exact g_lv (by (repeat (first | exact trivial | refine And.intro rfl ?_)); done) (ih (k + 1) _ (by omega) (by omega))
  refine g_iconst (v := 0) Z dX7_all_0 (by decide) ?_
  refine g_istore_n Z dX7_all_1 (by decide) ?_
  refine g_iconst (v := 0) Z dX7_all_2 (by decide) ?_
  refine g_istore_n Z dX7_all_3 (by decide) ?_
  exact g_lv (by (repeat (first | exact trivial | refine And.intro rfl ?_)); done) (loop (n0 + 1) 0 _ (by omega) (by omega))
