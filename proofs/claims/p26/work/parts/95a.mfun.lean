/-! THE REFERENCE'S SETS AS VALUES -/
def Mc (C : C5) (c : Nat) (a : Cn) : Prop := C.ky c = nI a.1 ∧ C.kd c = a.2.1 ∧ C.sz c = nI (tot a.2.2) ∧ ∀ l, l < 65536 → cb C.wd c l = cb a.2.2 0 l
/-- container d of E is container c of C -/
def Mq (C : C5) (c : Nat) (E : C5) (d : Nat) : Prop := E.ky d = C.ky c ∧ E.kd d = C.kd c ∧ E.sz d = C.sz c ∧ ∀ l, l < 65536 → cb E.wd d l = cb C.wd c l
def Ms (C : C5) (s : Nat) (V : Sv) : Prop := V.1 ≤ 6 ∧ C.mn s = nI V.1 ∧ ∀ i, i < V.1 → Mc C (6 * s + i) (V.2 i)
/-- only container b may have changed -/
def Mb (b : Nat) (C E : C5) : Prop := E.mn = C.mn ∧ ∀ d, d ≠ b → Mq C d E d
/-- only set s may have changed -/
def Me (s : Nat) (C E : C5) : Prop := ∀ t, t < 17 → t ≠ s → E.mn t = C.mn t ∧ ∀ i, i < 6 → Mq C (6 * t + i) E (6 * t + i)
theorem Mq.rf {C : C5} {c : Nat} : Mq C c C c := ⟨rfl, rfl, rfl, fun _ _ => rfl⟩
theorem Mq.tr {C D E : C5} {c d e : Nat} (h : Mq C c D d) (k : Mq D d E e) : Mq C c E e := ⟨k.1.trans h.1, k.2.1.trans h.2.1, k.2.2.1.trans h.2.2.1, fun l hl => (k.2.2.2 l hl).trans (h.2.2.2 l hl)⟩
theorem Mq.mc {C E : C5} {c d : Nat} {a : Cn} (h : Mq C c E d) (k : Mc C c a) : Mc E d a := ⟨h.1.trans k.1, h.2.1.trans k.2.1, h.2.2.1.trans k.2.2.1, fun l hl => (h.2.2.2 l hl).trans (k.2.2.2 l hl)⟩
theorem Mb.rf {b : Nat} {C : C5} : Mb b C C := ⟨rfl, fun _ _ => Mq.rf⟩
theorem Mb.tr {b : Nat} {C D E : C5} (h : Mb b C D) (k : Mb b D E) : Mb b C E := ⟨k.1.trans h.1, fun d hd => (h.2 d hd).tr (k.2 d hd)⟩
theorem Mb.me {s j : Nat} {C E : C5} (h : Mb (6 * s + j) C E) (hj : j < 6) : Me s C E := fun t _ ht => ⟨by rw [h.1], fun i _ => h.2 (6 * t + i) (by omega)⟩
theorem Me.rf {s : Nat} {C : C5} : Me s C C := fun _ _ _ => ⟨rfl, fun _ _ => Mq.rf⟩
theorem Me.tr {s : Nat} {C D E : C5} (h : Me s C D) (k : Me s D E) : Me s C E := fun t h1 h2 => ⟨(k t h1 h2).1.trans (h t h1 h2).1, fun i hi => ((h t h1 h2).2 i hi).tr ((k t h1 h2).2 i hi)⟩
theorem Me.ms {s t : Nat} {C E : C5} {V : Sv} (h : Me s C E) (ht : t < 17) (hne : t ≠ s) (k : Ms C t V) : Ms E t V := by
  obtain ⟨k1, k2, k3⟩ := k
  obtain ⟨a1, a2⟩ := h t ht hne
  exact ⟨k1, a1.trans k2, fun i hi => (a2 i (by omega)).mc (k3 i hi)⟩
theorem Me.mn {s : Nat} {C : C5} {v : Int32} : Me s C (C.s_mn (upd C.mn s v)) := fun t _ ht => ⟨pk_un ht, fun _ _ => Mq.rf⟩
theorem Mc.congr {C : C5} {c : Nat} {a b : Cn} (h : Mc C c a) (h1 : a.1 = b.1) (h2 : a.2.1 = b.2.1) (h3 : ∀ j, j < 1024 → a.2.2 j = b.2.2 j) : Mc C c b := by
  obtain ⟨k1, k2, k3, k4⟩ := h
  refine ⟨by rw [← h1]; exact k1, k2.trans h2, by rw [← tot_congr h3]; exact k3, fun l hl => (k4 l hl).trans ?_⟩
  rw [cbz, cbz, h3 _ (by omega)]
theorem Ms.mc {C : C5} {s : Nat} {V : Sv} (h : Ms C s V) {i : Nat} (hi : i < V.1) : Mc C (6 * s + i) (V.2 i) := h.2.2 i hi
theorem Ms.put {C E : C5} {s i : Nat} {V : Sv} {a : Cn} (h : Ms C s V) (hi : i < V.1) (hb : Mb (6 * s + i) C E) (ha : Mc E (6 * s + i) a) : Ms E s (V.put i a) := by
  refine ⟨h.1, by rw [hb.1]; exact h.2.1, fun k hk => ?_⟩
  show Mc E (6 * s + k) (if k = i then a else V.2 k)
  by_cases e : k = i
  · subst e; rw [if_pos rfl]; exact ha
  · rw [if_neg e]; exact (hb.2 _ (by omega)).mc (h.2.2 k hk)
theorem cnt_tot {C : C5} {c : Nat} {W : Nat → Int64} (h : ∀ l, l < 65536 → cb C.wd c l = cb W 0 l) : ct C.wd c 65536 = tot W := by
  rw [tot_ct]
  exact ct_congr 65536 h

set_option maxRecDepth 100000 in
set_option maxHeartbeats 2000000 in
/-- a container is copied -/
theorem f_X7_copy (l : Launch) (D : va_G) (cy : Nat → ClassId) (nw : Nat) (A : Nat → Nat) (x : Nat) (ho : mOk A x) (C : C5) (R : MR) (a b : Nat) (ha : a < 102) (hb : b < 102) (hab : a ≠ b) : kV l yX7_copy wsX7_copy 0 0 D cy nw [.ref x, .int (nI a), .int (nI b)] (mP A x (C, R)) (fun T => ∃ E, mP A x (E, R) = T ∧ Mb b C E ∧ Mq C a E b) 0 0 := by
  refine enterV (cc := cX7_copy) (nL := 4) (ret := none) (by decide +kernel) rfl (Nat.le_of_ble_eq_true rfl) ?_
  intro F Z hl hR hD hcy hnw hnm
  subst hl hD hcy hnw
  have hRf : F.R.frames = 0 := by rw [hR]
  have hRc : F.R.cells = 0 := by rw [hR]
  have hRs : F.R.slots = 0 := by rw [hR]
  have hRl : F.R.locals = 0 := by rw [hR]
  have in6 : ∀ w ∈ u_ws RX7 TX7 16, w ∈ wsX7_copy := by decide +kernel
  have lk13 : Cond.fieldLink RX7 13 (TX7 1).1 (TX7 1).2.1 (TX7 1).2.2.1 ∈ wsX7_copy := by decide +kernel
  have lk16 : Cond.fieldLink RX7 16 (TX7 2).1 (TX7 2).2.1 (TX7 2).2.2.1 ∈ wsX7_copy := by decide +kernel
  have lk19 : Cond.fieldLink RX7 19 (TX7 3).1 (TX7 3).2.1 (TX7 3).2.2.1 ∈ wsX7_copy := by decide +kernel
  have lk23 : Cond.fieldLink RX7 23 (TX7 4).1 (TX7 4).2.1 (TX7 4).2.2.1 ∈ wsX7_copy := by decide +kernel
  have loop : ∀ (n : Nat) (w : Nat) (g : Nat → Int64), 1024 - w < n → (w ≤ 1024 ∧ (∀ d, d ≠ b → ∀ l, l < 65536 → cb g d l = cb C.wd d l) ∧ ∀ l, l < 64 * w → cb g b l = cb C.wd a l) → G F 4 (mP A x ((((C.s_ky (upd C.ky b (C.ky a))).s_kd (upd C.kd b (C.kd a))).s_sz (upd C.sz b (C.sz a))).s_wd g, R)) 0 0 (QV F (fun T => ∃ E, mP A x (E, R) = T ∧ Mb b C E ∧ Mq C a E b) 0 0) 38 [(0, .ref x), (1, .int (nI a)), (2, .int (nI b)), (3, .int (nI w))] [] := by
    intro n
    induction n with
    | zero => intros; omega
    | succ n ih =>
      intro w g hn ⟨hw, h1, h2⟩
      refine g_iload_n Z dX7_copy_38 rfl ?_
      refine g_sipush (v := 1024) Z dX7_copy_39 (by decide) ?_
      refine g_icmp_ge Z 75 dX7_copy_42 (by decide) (fun h42 => ?_) (fun h42 => ?_)
      · have he : w = 1024 := by have := ge_t (N := 1024) (by omega) (by decide) h42; omega
        subst he
        exact g_vret Z dX7_copy_75 (by omega) (by omega) (⟨_, rfl, ⟨rfl, fun d hd => ⟨pk_un hd, pk_un hd, pk_un hd, h1 d hd⟩⟩, pk_us, pk_us, pk_us, fun l hl => h2 l (by omega)⟩)
      · have hlt : w < 1024 := ge_f (by omega) (by decide) h42
        obtain ⟨k1, k2⟩ := cp_step hab hlt h1 h2
        refine g_aload_n Z dX7_copy_45 rfl ?_
        refine m_ref_wd Z in6 lk23 dX7_copy_46 ?_
        refine g_sipush (v := 1024) Z dX7_copy_49 (by decide) ?_
        refine g_iload_n Z dX7_copy_52 rfl ?_
        refine g_imul Z dX7_copy_53 ?_
        refine g_iload_n Z dX7_copy_54 rfl ?_
        refine g_iadd Z dX7_copy_55 ?_
        rw [ixw]
        refine g_aload_n Z dX7_copy_56 rfl ?_
        refine m_ref_wd Z in6 lk23 dX7_copy_57 ?_
        refine g_sipush (v := 1024) Z dX7_copy_60 (by decide) ?_
        refine g_iload_n Z dX7_copy_63 rfl ?_
        refine g_imul Z dX7_copy_64 ?_
        refine g_iload_n Z dX7_copy_65 rfl ?_
        refine g_iadd Z dX7_copy_66 ?_
        rw [ixw]
        refine m_ald_wd Z ho dX7_copy_67 (by exact vp_in_nI (by omega) (by decide)) ?_
        rw [nI_clamp (by omega)]
        refine m_ast_wd Z ho dX7_copy_68 (by exact vp_in_nI (by omega) (by decide)) ?_
        rw [nI_clamp (by omega)]
        refine g_iinc (c := 1) Z dX7_copy_69 rfl (by decide) (by decide) ?_
        rw [nI_1]
        refine g_goto Z 38 dX7_copy_72 (by decide) ?_
        exact g_lv (by (repeat (first | exact trivial | refine And.intro rfl ?_)); done) (ih (w + 1) _ (by omega) ⟨by omega, k1, k2⟩)
  refine g_aload_n Z dX7_copy_0 rfl ?_
  refine m_ref_ky Z in6 lk13 dX7_copy_1 ?_
  refine g_iload_n Z dX7_copy_4 rfl ?_
  refine g_aload_n Z dX7_copy_5 rfl ?_
  refine m_ref_ky Z in6 lk13 dX7_copy_6 ?_
  refine g_iload_n Z dX7_copy_9 rfl ?_
  refine m_ald_ky Z ho dX7_copy_10 (by exact vp_in_nI (by omega) (by decide)) ?_
  rw [nI_clamp (by omega)]
  refine m_ast_ky Z ho dX7_copy_11 (by exact vp_in_nI (by omega) (by decide)) ?_
  rw [nI_clamp (by omega)]
  refine g_aload_n Z dX7_copy_12 rfl ?_
  refine m_ref_kd Z in6 lk16 dX7_copy_13 ?_
  refine g_iload_n Z dX7_copy_16 rfl ?_
  refine g_aload_n Z dX7_copy_17 rfl ?_
  refine m_ref_kd Z in6 lk16 dX7_copy_18 ?_
  refine g_iload_n Z dX7_copy_21 rfl ?_
  refine m_ald_kd Z ho dX7_copy_22 (by exact vp_in_nI (by omega) (by decide)) ?_
  rw [nI_clamp (by omega)]
  refine m_ast_kd Z ho dX7_copy_23 (by exact vp_in_nI (by omega) (by decide)) ?_
  rw [nI_clamp (by omega)]
  refine g_aload_n Z dX7_copy_24 rfl ?_
  refine m_ref_sz Z in6 lk19 dX7_copy_25 ?_
  refine g_iload_n Z dX7_copy_28 rfl ?_
  refine g_aload_n Z dX7_copy_29 rfl ?_
  refine m_ref_sz Z in6 lk19 dX7_copy_30 ?_
  refine g_iload_n Z dX7_copy_33 rfl ?_
  refine m_ald_sz Z ho dX7_copy_34 (by exact vp_in_nI (by omega) (by decide)) ?_
  rw [nI_clamp (by omega)]
  refine m_ast_sz Z ho dX7_copy_35 (by exact vp_in_nI (by omega) (by decide)) ?_
  rw [nI_clamp (by omega)]
  refine g_iconst (v := 0) Z dX7_copy_36 (by decide) ?_
  refine g_istore_n Z dX7_copy_37 (by decide) ?_
  exact g_lv (by (repeat (first | exact trivial | refine And.intro rfl ?_)); done) (loop 1025 0 C.wd (by omega) ⟨by omega, fun _ _ _ _ => rfl, fun l hl => by omega⟩)

set_option maxRecDepth 100000 in
set_option maxHeartbeats 2000000 in
/-- a set is copied -/
theorem f_X7_copySet (l : Launch) (D : va_G) (cy : Nat → ClassId) (nw : Nat) (A : Nat → Nat) (x : Nat) (ho : mOk A x) (C : C5) (R : MR) (a b : Nat) (ha : a < 17) (hb : b < 17) (hab : a ≠ b) (V : Sv) (hV : Ms C a V) : kV l yX7_copySet wsX7_copySet 1 23 D cy nw [.ref x, .int (nI a), .int (nI b)] (mP A x (C, R)) (fun T => ∃ E, mP A x (E, R) = T ∧ Me b C E ∧ Ms E b V) 0 0 := by
  refine enterV (cc := cX7_copySet) (nL := 4) (ret := none) (by decide +kernel) rfl (Nat.le_of_ble_eq_true rfl) ?_
  intro F Z hl hR hD hcy hnw hnm
  subst hl hD hcy hnw
  have hRf : F.R.frames = 1 := by rw [hR]
  have hRc : F.R.cells = 0 := by rw [hR]
  have hRs : F.R.slots = 0 := by rw [hR]
  have hRl : F.R.locals = 23 := by rw [hR]
  have in6 : ∀ w ∈ u_ws RX7 TX7 16, w ∈ wsX7_copySet := by decide +kernel
  have lk7 : Cond.fieldLink RX7 7 (TX7 0).1 (TX7 0).2.1 (TX7 0).2.2.1 ∈ wsX7_copySet := by decide +kernel
  obtain ⟨hn0, en0, hcs⟩ := id hV
  have loop : ∀ (n : Nat) (k : Nat) (E : C5), V.1 - k < n → (k ≤ V.1 ∧ Me b C E ∧ E.mn b = nI V.1 ∧ ∀ i, i < k → Mc E (6 * b + i) (V.2 i)) → G F 4 (mP A x (E, R)) 0 0 (QV F (fun T => ∃ E, mP A x (E, R) = T ∧ Me b C E ∧ Ms E b V) 0 0) 14 [(0, .ref x), (1, .int (nI a)), (2, .int (nI b)), (3, .int (nI k))] [] := by
    intro n
    induction n with
    | zero => intros; omega
    | succ n ih =>
      intro k E hn ⟨hk, hS, hmb, hc⟩
      have hma : E.mn a = nI V.1 := (hS a ha hab).1.trans en0
      refine g_iload_n Z dX7_copySet_14 rfl ?_
      refine g_aload_n Z dX7_copySet_15 rfl ?_
      refine m_ref_mn Z in6 lk7 dX7_copySet_16 ?_
      refine g_iload_n Z dX7_copySet_19 rfl ?_
      refine m_ald_mn Z ho dX7_copySet_20 (by exact vp_in_nI (by omega) (by decide)) ?_
      rw [nI_clamp (by omega), hma]
      refine g_icmp_ge Z 46 dX7_copySet_21 (by decide) (fun h21 => ?_) (fun h21 => ?_)
      · have he : k = V.1 := by have := ge_t (i := k) (N := V.1) (by omega) (by omega) h21; omega
        subst he
        exact g_vret Z dX7_copySet_46 (by omega) (by omega) (⟨E, rfl, hS, hn0, hmb, hc⟩)
      · have hlt : k < V.1 := ge_f (by omega) (by omega) h21
        refine g_aload_n Z dX7_copySet_24 rfl ?_
        refine g_bipush (v := 6) Z dX7_copySet_25 (by decide) ?_
        refine g_iload_n Z dX7_copySet_27 rfl ?_
        refine g_imul Z dX7_copySet_28 ?_
        refine g_iload_n Z dX7_copySet_29 rfl ?_
        refine g_iadd Z dX7_copySet_30 ?_
        rw [ix6]
        refine g_bipush (v := 6) Z dX7_copySet_31 (by decide) ?_
        refine g_iload_n Z dX7_copySet_33 rfl ?_
        refine g_imul Z dX7_copySet_34 ?_
        refine g_iload_n Z dX7_copySet_35 rfl ?_
        refine g_iadd Z dX7_copySet_36 ?_
        rw [ix6]
        refine g_cvV Z (f_X7_copy F.l F.D F.cy F.nw A x ho _ _ _ _ (by omega) (by omega) (by omega)) 2 gX7_copySet_X7_copy rfl (by decide +kernel) (by rw [hRf, hRl]; decide) (by exact mP_x) (κ := 6) (by exact mP_Kx) rfl (by decide) rfl rfl (Nat.le_of_ble_eq_true rfl) dX7_copySet_37 (by rw [hRc, hRs]; omega) (fun T hp => ?_)
        obtain ⟨E2, rfl, c1, c2⟩ := hp
        have s2 := (hS a ha hab).2 k (by omega)
        refine g_iinc (c := 1) Z dX7_copySet_40 rfl (by decide) (by decide) ?_
        rw [nI_1]
        refine g_goto Z 14 dX7_copySet_43 (by decide) ?_
        exact g_lv (by (repeat (first | exact trivial | refine And.intro rfl ?_)); done) (ih (k + 1) E2 (by omega) ⟨by omega, hS.tr (c1.me (by omega)), by rw [c1.1]; exact hmb, fun i hi => by
          by_cases e : i = k
          · subst e; exact c2.mc (s2.mc (hcs i hlt))
          · exact (c1.2 _ (by omega)).mc (hc i (by omega))⟩)
  refine g_aload_n Z dX7_copySet_0 rfl ?_
  refine m_ref_mn Z in6 lk7 dX7_copySet_1 ?_
  refine g_iload_n Z dX7_copySet_4 rfl ?_
  refine g_aload_n Z dX7_copySet_5 rfl ?_
  refine m_ref_mn Z in6 lk7 dX7_copySet_6 ?_
  refine g_iload_n Z dX7_copySet_9 rfl ?_
  refine m_ald_mn Z ho dX7_copySet_10 (by exact vp_in_nI (by omega) (by decide)) ?_
  rw [nI_clamp (by omega), en0]
  refine m_ast_mn Z ho dX7_copySet_11 (by exact vp_in_nI (by omega) (by decide)) ?_
  rw [nI_clamp (by omega)]
  refine g_iconst (v := 0) Z dX7_copySet_12 (by decide) ?_
  refine g_istore_n Z dX7_copySet_13 (by decide) ?_
  exact g_lv (by (repeat (first | exact trivial | refine And.intro rfl ?_)); done) (loop (V.1 + 1) 0 (C.s_mn (upd C.mn b (nI V.1))) (by omega) ⟨by omega, Me.mn, pk_us, fun i hi => by omega⟩)

set_option maxRecDepth 100000 in
set_option maxHeartbeats 2000000 in
/-- the container of a key -/
theorem f_X7_containerOf (l : Launch) (D : va_G) (cy : Nat → ClassId) (nw : Nat) (A : Nat → Nat) (x : Nat) (ho : mOk A x) (C : C5) (R : MR) (s : Nat) (hs : s < 17) (V : Sv) (hV : Ms C s V) (hV6 : ∀ i, i < V.1 → (V.2 i).1 < 65536) (key : Nat) (hkey : key < 65536) : kI l yX7_containerOf wsX7_containerOf 0 0 D cy nw [.ref x, .int (nI s), .int (nI key)] (mP A x (C, R)) (fun r T => (mP A x (C, R)) = T ∧ ((r = -1 ∧ ∀ i, i < V.1 → (V.2 i).1 ≠ key) ∨ ∃ j, j < V.1 ∧ (V.2 j).1 = key ∧ r = nI (6 * s + j))) 0 0 := by
  refine enterI (cc := cX7_containerOf) (nL := 4) (ret := (some .int)) (by decide +kernel) rfl (Nat.le_of_ble_eq_true rfl) ?_
  intro F Z hl hR hD hcy hnw hnm
  subst hl hD hcy hnw
  have hRf : F.R.frames = 0 := by rw [hR]
  have hRc : F.R.cells = 0 := by rw [hR]
  have hRs : F.R.slots = 0 := by rw [hR]
  have hRl : F.R.locals = 0 := by rw [hR]
  have in6 : ∀ w ∈ u_ws RX7 TX7 16, w ∈ wsX7_containerOf := by decide +kernel
  have lk7 : Cond.fieldLink RX7 7 (TX7 0).1 (TX7 0).2.1 (TX7 0).2.2.1 ∈ wsX7_containerOf := by decide +kernel
  have lk13 : Cond.fieldLink RX7 13 (TX7 1).1 (TX7 1).2.1 (TX7 1).2.2.1 ∈ wsX7_containerOf := by decide +kernel
  obtain ⟨hn0, en0, hcs⟩ := id hV
  have loop : ∀ (n : Nat) (k : Nat), V.1 - k < n → (k ≤ V.1 ∧ ∀ i, i < k → (V.2 i).1 ≠ key) → G F 4 (mP A x (C, R)) 0 0 (QI F (fun r T => (mP A x (C, R)) = T ∧ ((r = -1 ∧ ∀ i, i < V.1 → (V.2 i).1 ≠ key) ∨ ∃ j, j < V.1 ∧ (V.2 j).1 = key ∧ r = nI (6 * s + j))) 0 0) 2 [(0, .ref x), (1, .int (nI s)), (2, .int (nI key)), (3, .int (nI k))] [] := by
    intro n
    induction n with
    | zero => intros; omega
    | succ n ih =>
      intro k hn ⟨hk, hb⟩
      refine g_iload_n Z dX7_containerOf_2 rfl ?_
      refine g_aload_n Z dX7_containerOf_3 rfl ?_
      refine m_ref_mn Z in6 lk7 dX7_containerOf_4 ?_
      refine g_iload_n Z dX7_containerOf_7 rfl ?_
      refine m_ald_mn Z ho dX7_containerOf_8 (by exact vp_in_nI (by omega) (by decide)) ?_
      rw [nI_clamp (by omega), en0]
      refine g_icmp_ge Z 40 dX7_containerOf_9 (by decide) (fun h9 => ?_) (fun h9 => ?_)
      · have hke : V.1 ≤ k := ge_t (i := k) (N := V.1) (by omega) (by omega) h9
        refine g_iconst (v := (-1)) Z dX7_containerOf_40 (by decide) ?_
        exact g_iret Z dX7_containerOf_41 (by omega) (by omega) (⟨rfl, Or.inl ⟨rfl, fun i hi => hb i (by omega)⟩⟩)
      · have hlt : k < V.1 := ge_f (by omega) (by omega) h9
        have hk1 := (hcs k hlt).1
        have hk2 := hV6 k hlt
        refine g_aload_n Z dX7_containerOf_12 rfl ?_
        refine m_ref_ky Z in6 lk13 dX7_containerOf_13 ?_
        refine g_bipush (v := 6) Z dX7_containerOf_16 (by decide) ?_
        refine g_iload_n Z dX7_containerOf_18 rfl ?_
        refine g_imul Z dX7_containerOf_19 ?_
        refine g_iload_n Z dX7_containerOf_20 rfl ?_
        refine g_iadd Z dX7_containerOf_21 ?_
        rw [ix6]
        refine m_ald_ky Z ho dX7_containerOf_22 (by exact vp_in_nI (by omega) (by decide)) ?_
        rw [nI_clamp (by omega), hk1]
        refine g_iload_n Z dX7_containerOf_23 rfl ?_
        refine g_icmp_ne Z 34 dX7_containerOf_24 (by decide) (fun h24 => ?_) (fun h24 => ?_)
        · have hne : (V.2 k).1 ≠ key := fun e => h24 (by rw [e])
          refine g_iinc (c := 1) Z dX7_containerOf_34 rfl (by decide) (by decide) ?_
          rw [nI_1]
          refine g_goto Z 2 dX7_containerOf_37 (by decide) ?_
          exact g_lv (by (repeat (first | exact trivial | refine And.intro rfl ?_)); done) (ih (k + 1) (by omega) ⟨by omega, fun i hi => by
            by_cases e : i = k
            · subst e; exact hne
            · exact hb i (by omega)⟩)
        · have he : (V.2 k).1 = key := (nI_eq (by omega) (by omega)).mp h24
          refine g_bipush (v := 6) Z dX7_containerOf_27 (by decide) ?_
          refine g_iload_n Z dX7_containerOf_29 rfl ?_
          refine g_imul Z dX7_containerOf_30 ?_
          refine g_iload_n Z dX7_containerOf_31 rfl ?_
          refine g_iadd Z dX7_containerOf_32 ?_
          rw [ix6]
          exact g_iret Z dX7_containerOf_33 (by omega) (by omega) (⟨rfl, Or.inr ⟨k, hlt, he, rfl⟩⟩)
  refine g_iconst (v := 0) Z dX7_containerOf_0 (by decide) ?_
  refine g_istore_n Z dX7_containerOf_1 (by decide) ?_
  exact g_lv (by (repeat (first | exact trivial | refine And.intro rfl ?_)); done) (loop (V.1 + 1) 0 (by omega) ⟨by omega, fun i hi => by omega⟩)

set_option maxRecDepth 100000 in
set_option maxHeartbeats 2000000 in
/-- how many numbers a set has -/
theorem f_X7_all (l : Launch) (D : va_G) (cy : Nat → ClassId) (nw : Nat) (A : Nat → Nat) (x : Nat) (ho : mOk A x) (C : C5) (R : MR) (s : Nat) (hs : s < 17) (V : Sv) (hV : Ms C s V) : kI l yX7_all wsX7_all 0 0 D cy nw [.ref x, .int (nI s)] (mP A x (C, R)) (fun r T => (mP A x (C, R)) = T ∧ r = nI (sT V V.1)) 0 0 := by
  refine enterI (cc := cX7_all) (nL := 4) (ret := (some .int)) (by decide +kernel) rfl (Nat.le_of_ble_eq_true rfl) ?_
  intro F Z hl hR hD hcy hnw hnm
  subst hl hD hcy hnw
  have hRf : F.R.frames = 0 := by rw [hR]
  have hRc : F.R.cells = 0 := by rw [hR]
  have hRs : F.R.slots = 0 := by rw [hR]
  have hRl : F.R.locals = 0 := by rw [hR]
  have in6 : ∀ w ∈ u_ws RX7 TX7 16, w ∈ wsX7_all := by decide +kernel
  have lk7 : Cond.fieldLink RX7 7 (TX7 0).1 (TX7 0).2.1 (TX7 0).2.2.1 ∈ wsX7_all := by decide +kernel
  have lk19 : Cond.fieldLink RX7 19 (TX7 3).1 (TX7 3).2.1 (TX7 3).2.2.1 ∈ wsX7_all := by decide +kernel
  obtain ⟨hn0, en0, hcs⟩ := id hV
  have loop : ∀ (n : Nat) (k : Nat), V.1 - k < n → (k ≤ V.1) → G F 4 (mP A x (C, R)) 0 0 (QI F (fun r T => (mP A x (C, R)) = T ∧ r = nI (sT V V.1)) 0 0) 4 [(0, .ref x), (1, .int (nI s)), (2, .int (nI (sT V k))), (3, .int (nI k))] [] := by
    intro n
    induction n with
    | zero => intros; omega
    | succ n ih =>
      intro k hn hk
      refine g_iload_n Z dX7_all_4 rfl ?_
      refine g_aload_n Z dX7_all_5 rfl ?_
      refine m_ref_mn Z in6 lk7 dX7_all_6 ?_
      refine g_iload_n Z dX7_all_9 rfl ?_
      refine m_ald_mn Z ho dX7_all_10 (by exact vp_in_nI (by omega) (by decide)) ?_
      rw [nI_clamp (by omega), en0]
      refine g_icmp_ge Z 34 dX7_all_11 (by decide) (fun h11 => ?_) (fun h11 => ?_)
      · have he : k = V.1 := by have := ge_t (i := k) (N := V.1) (by omega) (by omega) h11; omega
        subst he
        refine g_iload_n Z dX7_all_34 rfl ?_
        exact g_iret Z dX7_all_35 (by omega) (by omega) (⟨rfl, rfl⟩)
      · have hlt : k < V.1 := ge_f (by omega) (by omega) h11
        refine g_iload_n Z dX7_all_14 rfl ?_
        refine g_aload_n Z dX7_all_15 rfl ?_
        refine m_ref_sz Z in6 lk19 dX7_all_16 ?_
        refine g_bipush (v := 6) Z dX7_all_19 (by decide) ?_
        refine g_iload_n Z dX7_all_21 rfl ?_
        refine g_imul Z dX7_all_22 ?_
        refine g_iload_n Z dX7_all_23 rfl ?_
        refine g_iadd Z dX7_all_24 ?_
        rw [ix6]
        refine m_ald_sz Z ho dX7_all_25 (by exact vp_in_nI (by omega) (by decide)) ?_
        rw [nI_clamp (by omega), (hcs k hlt).2.2.1]
        refine g_iadd Z dX7_all_26 ?_
        rw [nI_add]
        refine g_istore_n Z dX7_all_27 (by decide) ?_
        refine g_iinc (c := 1) Z dX7_all_28 rfl (by decide) (by decide) ?_
        rw [nI_1]
        refine g_goto Z 4 dX7_all_31 (by decide) ?_
        exact g_lv (by (repeat (first | exact trivial | refine And.intro rfl ?_)); done) (ih (k + 1) (by omega) (by omega))
  refine g_iconst (v := 0) Z dX7_all_0 (by decide) ?_
  refine g_istore_n Z dX7_all_1 (by decide) ?_
  refine g_iconst (v := 0) Z dX7_all_2 (by decide) ?_
  refine g_istore_n Z dX7_all_3 (by decide) ?_
  exact g_lv (by (repeat (first | exact trivial | refine And.intro rfl ?_)); done) (loop (V.1 + 1) 0 (by omega) (by omega))

theorem zW_bit (l : Nat) : cb zW 0 l = 0 := by
  rw [cbz]
  show wv 0 / _ % 2 = 0
  rw [show wv 0 = 0 from rfl]
  simp
theorem ins_mc {E G : C5} {s k : Nat} {V : Sv} {a : Cn} (hb : Mb (6 * s + k) E G) (ha : Mc G (6 * s + k) a) (hlo : ∀ i, i < k → Mc E (6 * s + i) (V.2 i)) (hhi : ∀ i, k < i → i ≤ V.1 → Mc E (6 * s + i) (V.2 (i - 1))) : ∀ i, i < (V.ins k a).1 → Mc G (6 * s + i) ((V.ins k a).2 i) := by
  intro i hi
  have hi2 : i < V.1 + 1 := hi
  show Mc G (6 * s + i) (if i < k then V.2 i else if i = k then a else V.2 (i - 1))
  by_cases h1 : i < k
  · rw [if_pos h1]; exact (hb.2 _ (by omega)).mc (hlo i h1)
  · rw [if_neg h1]
    by_cases h2 : i = k
    · rw [if_pos h2, h2]; exact ha
    · rw [if_neg h2]; exact (hb.2 _ (by omega)).mc (hhi i (by omega) (by omega))

set_option maxRecDepth 100000 in
set_option maxHeartbeats 2000000 in
/-- a new container is put in its place -/
theorem f_X7_made (l : Launch) (D : va_G) (cy : Nat → ClassId) (nw : Nat) (A : Nat → Nat) (x : Nat) (ho : mOk A x) (C : C5) (R : MR) (s : Nat) (hs : s < 17) (V : Sv) (hV : Ms C s V) (hV6 : ∀ i, i < V.1 → (V.2 i).1 < 65536) (hsrt : Srt V) (h6 : V.1 < 6) (key : Nat) (hkey : key < 65536) (hno : ∀ i, i < V.1 → (V.2 i).1 ≠ key) : kI l yX7_made wsX7_made 1 23 D cy nw [.ref x, .int (nI s), .int (nI key)] (mP A x (C, R)) (fun r T => ∃ E j, mP A x (E, R) = T ∧ r = nI (6 * s + j) ∧ IsIx V key j ∧ Me s C E ∧ Ms E s (V.ins j (key, 0, zW))) 0 0 := by
  refine enterI (cc := cX7_made) (nL := 6) (ret := (some .int)) (by decide +kernel) rfl (Nat.le_of_ble_eq_true rfl) ?_
  intro F Z hl hR hD hcy hnw hnm
  subst hl hD hcy hnw
  have hRf : F.R.frames = 1 := by rw [hR]
  have hRc : F.R.cells = 0 := by rw [hR]
  have hRs : F.R.slots = 0 := by rw [hR]
  have hRl : F.R.locals = 23 := by rw [hR]
  have in6 : ∀ w ∈ u_ws RX7 TX7 16, w ∈ wsX7_made := by decide +kernel
  have lk7 : Cond.fieldLink RX7 7 (TX7 0).1 (TX7 0).2.1 (TX7 0).2.2.1 ∈ wsX7_made := by decide +kernel
  have lk13 : Cond.fieldLink RX7 13 (TX7 1).1 (TX7 1).2.1 (TX7 1).2.2.1 ∈ wsX7_made := by decide +kernel
  have lk16 : Cond.fieldLink RX7 16 (TX7 2).1 (TX7 2).2.1 (TX7 2).2.2.1 ∈ wsX7_made := by decide +kernel
  have lk19 : Cond.fieldLink RX7 19 (TX7 3).1 (TX7 3).2.1 (TX7 3).2.2.1 ∈ wsX7_made := by decide +kernel
  have lk23 : Cond.fieldLink RX7 23 (TX7 4).1 (TX7 4).2.1 (TX7 4).2.2.1 ∈ wsX7_made := by decide +kernel
  obtain ⟨hn0, en0, hcs⟩ := id hV
  have tail : ∀ (k : Nat) (E : C5), k ≤ V.1 → E.mn = C.mn → Me s C E → ((∀ i, i < k → Mc E (6 * s + i) (V.2 i)) ∧ (∀ i, k < i → i ≤ V.1 → Mc E (6 * s + i) (V.2 (i - 1)))) → IsIx V key k → G F 6 (mP A x (E, R)) 0 0 (QI F (fun r T => ∃ E j, mP A x (E, R) = T ∧ r = nI (6 * s + j) ∧ IsIx V key j ∧ Me s C E ∧ Ms E s (V.ins j (key, 0, zW))) 0 0) 52 [(0, .ref x), (1, .int (nI s)), (2, .int (nI key)), (3, .int (nI k))] [] := by
    intro k E hk hmn hS ⟨hlo, hhi⟩ hix
    have zero : ∀ (n : Nat) (w : Nat) (g : Nat → Int64), 1024 - w < n → (w ≤ 1024 ∧ (∀ d, d ≠ 6 * s + k → ∀ l, l < 65536 → cb g d l = cb E.wd d l) ∧ ∀ l, l < 64 * w → cb g (6 * s + k) l = 0) → G F 6 (mP A x ((((E.s_ky (upd E.ky (6 * s + k) (nI key))).s_kd (upd E.kd (6 * s + k) 0)).s_sz (upd E.sz (6 * s + k) 0)).s_wd g, R)) 0 0 (QI F (fun r T => ∃ E j, mP A x (E, R) = T ∧ r = nI (6 * s + j) ∧ IsIx V key j ∧ Me s C E ∧ Ms E s (V.ins j (key, 0, zW))) 0 0) 87 [(0, .ref x), (1, .int (nI s)), (2, .int (nI key)), (4, .int (nI (6 * s + k))), (5, .int (nI w))] [] := by
      intro n
      induction n with
      | zero => intros; omega
      | succ n ih =>
        intro w g hn ⟨hw, h1, h2⟩
        refine g_iload Z dX7_made_87 rfl ?_
        refine g_sipush (v := 1024) Z dX7_made_89 (by decide) ?_
        refine g_icmp_ge Z 116 dX7_made_92 (by decide) (fun h92 => ?_) (fun h92 => ?_)
        · have he : w = 1024 := by have := ge_t (N := 1024) (by omega) (by decide) h92; omega
          subst he
          have hMb : Mb (6 * s + k) E ((((E.s_ky (upd E.ky (6 * s + k) (nI key))).s_kd (upd E.kd (6 * s + k) 0)).s_sz (upd E.sz (6 * s + k) 0)).s_wd g) := ⟨rfl, fun d hd => ⟨pk_un hd, pk_un hd, pk_un hd, h1 d hd⟩⟩
          have hnew : Mc ((((E.s_ky (upd E.ky (6 * s + k) (nI key))).s_kd (upd E.kd (6 * s + k) 0)).s_sz (upd E.sz (6 * s + k) 0)).s_wd g) (6 * s + k) (key, 0, zW) := ⟨pk_us, pk_us, by rw [tot_zW]; exact pk_us, fun l hl => by rw [zW_bit]; exact h2 l (by omega)⟩
          refine g_aload_n Z dX7_made_116 rfl ?_
          refine m_ref_mn Z in6 lk7 dX7_made_117 ?_
          refine g_iload_n Z dX7_made_120 rfl ?_
          refine g_dup2 Z dX7_made_121 rfl rfl ?_
          refine m_ald_mn Z ho dX7_made_122 (by exact vp_in_nI (by omega) (by decide)) ?_
          rw [nI_clamp (by omega), hmn, en0]
          refine g_iconst (v := 1) Z dX7_made_123 (by decide) ?_
          refine g_iadd Z dX7_made_124 ?_
          rw [nI_1]
          refine m_ast_mn Z ho dX7_made_125 (by exact vp_in_nI (by omega) (by decide)) ?_
          rw [nI_clamp (by omega)]
          refine g_iload Z dX7_made_126 rfl ?_
          exact g_iret Z dX7_made_128 (by omega) (by omega) (⟨_, k, rfl, rfl, hix, (hS.tr (hMb.me (by omega))).tr Me.mn, by show V.1 + 1 ≤ 6; omega, pk_us, fun i hi => ins_mc hMb hnew hlo hhi i hi⟩)
        · have hlt : w < 1024 := ge_f (by omega) (by decide) h92
          obtain ⟨k1, k2⟩ := zr_step hlt h1 h2
          refine g_aload_n Z dX7_made_95 rfl ?_
          refine m_ref_wd Z in6 lk23 dX7_made_96 ?_
          refine g_sipush (v := 1024) Z dX7_made_99 (by decide) ?_
          refine g_iload Z dX7_made_102 rfl ?_
          refine g_imul Z dX7_made_104 ?_
          refine g_iload Z dX7_made_105 rfl ?_
          refine g_iadd Z dX7_made_107 ?_
          rw [ixw]
          refine g_lconst (v := 0) Z dX7_made_108 (by decide) ?_
          refine m_ast_wd Z ho dX7_made_109 (by exact vp_in_nI (by omega) (by decide)) ?_
          rw [nI_clamp (by omega)]
          refine g_iinc (c := 1) Z dX7_made_110 rfl (by decide) (by decide) ?_
          rw [nI_1]
          refine g_goto Z 87 dX7_made_113 (by decide) ?_
          exact g_lv (by (repeat (first | exact trivial | refine And.intro rfl ?_)); done) (ih (w + 1) _ (by omega) ⟨by omega, k1, k2⟩)
    refine g_bipush (v := 6) Z dX7_made_52 (by decide) ?_
    refine g_iload_n Z dX7_made_54 rfl ?_
    refine g_imul Z dX7_made_55 ?_
    refine g_iload_n Z dX7_made_56 rfl ?_
    refine g_iadd Z dX7_made_57 ?_
    rw [ix6]
    refine g_istore Z dX7_made_58 (by decide) ?_
    refine g_aload_n Z dX7_made_60 rfl ?_
    refine m_ref_ky Z in6 lk13 dX7_made_61 ?_
    refine g_iload Z dX7_made_64 rfl ?_
    refine g_iload_n Z dX7_made_66 rfl ?_
    refine m_ast_ky Z ho dX7_made_67 (by exact vp_in_nI (by omega) (by decide)) ?_
    rw [nI_clamp (by omega)]
    refine g_aload_n Z dX7_made_68 rfl ?_
    refine m_ref_kd Z in6 lk16 dX7_made_69 ?_
    refine g_iload Z dX7_made_72 rfl ?_
    refine g_iconst (v := 0) Z dX7_made_74 (by decide) ?_
    refine m_ast_kd Z ho dX7_made_75 (by exact vp_in_nI (by omega) (by decide)) ?_
    rw [nI_clamp (by omega)]
    refine g_aload_n Z dX7_made_76 rfl ?_
    refine m_ref_sz Z in6 lk19 dX7_made_77 ?_
    refine g_iload Z dX7_made_80 rfl ?_
    refine g_iconst (v := 0) Z dX7_made_82 (by decide) ?_
    refine m_ast_sz Z ho dX7_made_83 (by exact vp_in_nI (by omega) (by decide)) ?_
    rw [nI_clamp (by omega)]
    refine g_iconst (v := 0) Z dX7_made_84 (by decide) ?_
    refine g_istore Z dX7_made_85 (by decide) ?_
    exact g_lv (by (repeat (first | exact trivial | refine And.intro rfl ?_)); done) (zero 1025 0 E.wd (by omega) ⟨by omega, fun _ _ _ _ => rfl, fun l hl => by omega⟩)
  have loop : ∀ (n : Nat) (k : Nat) (E : C5), k < n → (k ≤ V.1 ∧ E.mn = C.mn ∧ Me s C E ∧ ((∀ i, i < k → Mc E (6 * s + i) (V.2 i)) ∧ (∀ i, k < i → i ≤ V.1 → Mc E (6 * s + i) (V.2 (i - 1)))) ∧ ∀ i, k ≤ i → i < V.1 → key < (V.2 i).1) → G F 6 (mP A x (E, R)) 0 0 (QI F (fun r T => ∃ E j, mP A x (E, R) = T ∧ r = nI (6 * s + j) ∧ IsIx V key j ∧ Me s C E ∧ Ms E s (V.ins j (key, 0, zW))) 0 0) 7 [(0, .ref x), (1, .int (nI s)), (2, .int (nI key)), (3, .int (nI k))] [] := by
    intro n
    induction n with
    | zero => intros; omega
    | succ n ih =>
      intro k E hn ⟨hk, hmn, hS, ⟨hlo, hhi⟩, hgt⟩
      refine g_iload_n Z dX7_made_7 rfl ?_
      refine g_if_le Z 52 dX7_made_8 (by decide) (fun h8 => ?_) (fun h8 => ?_)
      · have hk0 : k = 0 := by have := le_t (i := k) (N := 0) (by omega) (by decide) h8; omega
        have hix : IsIx V key k := ⟨by omega, fun i hi => by omega, fun hl => Nat.le_of_lt (hgt k (Nat.le_refl _) hl)⟩
        exact g_lv (by (repeat (first | exact trivial | refine And.intro rfl ?_)); done) (tail _ E hk hmn hS ⟨hlo, hhi⟩ hix)
      · obtain ⟨k', rfl⟩ : ∃ k', k = k' + 1 := ⟨k - 1, by have : ¬ k = 0 := fun e => h8 (by rw [e]; decide); omega⟩
        have hk1 := (hlo k' (by omega)).1
        have hk2 := hV6 k' (by omega)
        refine g_aload_n Z dX7_made_11 rfl ?_
        refine m_ref_ky Z in6 lk13 dX7_made_12 ?_
        refine g_bipush (v := 6) Z dX7_made_15 (by decide) ?_
        refine g_iload_n Z dX7_made_17 rfl ?_
        refine g_imul Z dX7_made_18 ?_
        refine g_iload_n Z dX7_made_19 rfl ?_
        refine g_iadd Z dX7_made_20 ?_
        refine g_iconst (v := 1) Z dX7_made_21 (by decide) ?_
        refine g_isub Z dX7_made_22 ?_
        rw [ix6p]
        refine m_ald_ky Z ho dX7_made_23 (by exact vp_in_nI (by omega) (by decide)) ?_
        rw [nI_clamp (by omega), hk1]
        refine g_iload_n Z dX7_made_24 rfl ?_
        refine g_icmp_le Z 52 dX7_made_25 (by decide) (fun h25 => ?_) (fun h25 => ?_)
        · have hle : (V.2 k').1 ≤ key := le_t (i := (V.2 k').1) (N := key) (by omega) (by omega) h25
          have hix : IsIx V key (k' + 1) := ⟨hk, fun i hi => by
            have hne := hno k' (by omega)
            by_cases e : i = k'
            · subst e; omega
            · have := hsrt i k' (by omega) (by omega); omega, fun hl => Nat.le_of_lt (hgt (k' + 1) (Nat.le_refl _) hl)⟩
          exact g_lv (by (repeat (first | exact trivial | refine And.intro rfl ?_)); done) (tail _ E hk hmn hS ⟨hlo, hhi⟩ hix)
        · have hgt1 : key < (V.2 k').1 := le_f (i := (V.2 k').1) (N := key) (by omega) (by omega) h25
          refine g_aload_n Z dX7_made_28 rfl ?_
          refine g_bipush (v := 6) Z dX7_made_29 (by decide) ?_
          refine g_iload_n Z dX7_made_31 rfl ?_
          refine g_imul Z dX7_made_32 ?_
          refine g_iload_n Z dX7_made_33 rfl ?_
          refine g_iadd Z dX7_made_34 ?_
          refine g_iconst (v := 1) Z dX7_made_35 (by decide) ?_
          refine g_isub Z dX7_made_36 ?_
          rw [ix6p]
          refine g_bipush (v := 6) Z dX7_made_37 (by decide) ?_
          refine g_iload_n Z dX7_made_39 rfl ?_
          refine g_imul Z dX7_made_40 ?_
          refine g_iload_n Z dX7_made_41 rfl ?_
          refine g_iadd Z dX7_made_42 ?_
          rw [ix6]
          refine g_cvV Z (f_X7_copy F.l F.D F.cy F.nw A x ho _ _ _ _ (by omega) (by omega) (by omega)) 2 gX7_made_X7_copy rfl (by decide +kernel) (by rw [hRf, hRl]; decide) (by exact mP_x) (κ := 6) (by exact mP_Kx) rfl (by decide) rfl rfl (Nat.le_of_ble_eq_true rfl) dX7_made_43 (by rw [hRc, hRs]; omega) (fun T hp => ?_)
          obtain ⟨E2, rfl, c1, c2⟩ := hp
          refine g_iinc (c := (-1)) Z dX7_made_46 rfl (by decide) (by decide) ?_
          rw [pk_m1]
          refine g_goto Z 7 dX7_made_49 (by decide) ?_
          exact g_lv (by (repeat (first | exact trivial | refine And.intro rfl ?_)); done) (ih k' E2 (by omega) ⟨by omega, c1.1.trans hmn, hS.tr (c1.me (by omega)), ⟨fun i hi => (c1.2 _ (by omega)).mc (hlo i (by omega)), fun i h1 h2 => by
            by_cases e : i = k' + 1
            · subst e; exact c2.mc (hlo k' (by omega))
            · exact (c1.2 _ (by omega)).mc (hhi i (by omega) h2)⟩, fun i h1 h2 => by
            by_cases e : i = k'
            · subst e; exact hgt1
            · exact hgt i (by omega) h2⟩)
  refine g_aload_n Z dX7_made_0 rfl ?_
  refine m_ref_mn Z in6 lk7 dX7_made_1 ?_
  refine g_iload_n Z dX7_made_4 rfl ?_
  refine m_ald_mn Z ho dX7_made_5 (by exact vp_in_nI (by omega) (by decide)) ?_
  rw [nI_clamp (by omega), en0]
  refine g_istore_n Z dX7_made_6 (by decide) ?_
  exact g_lv (by (repeat (first | exact trivial | refine And.intro rfl ?_)); done) (loop (V.1 + 1) V.1 C (by omega) ⟨by omega, rfl, Me.rf, ⟨hcs, fun i h1 h2 => by omega⟩, fun i h1 h2 => by omega⟩)

set_option maxRecDepth 100000 in
set_option maxHeartbeats 2000000 in
/-- array or bitmap -/
theorem f_X7_plainKind (l : Launch) (D : va_G) (cy : Nat → ClassId) (nw : Nat) (A : Nat → Nat) (x : Nat) (ho : mOk A x) (C : C5) (R : MR) (c : Nat) (hc : c < 102) : kI l yX7_plainKind wsX7_plainKind 0 0 D cy nw [.ref x, .int (nI c)] (mP A x (C, R)) (fun r T => (mP A x (C, R)) = T ∧ r = plK (C.sz c)) 0 0 := by
  refine enterI (cc := cX7_plainKind) (nL := 2) (ret := (some .int)) (by decide +kernel) rfl (Nat.le_of_ble_eq_true rfl) ?_
  intro F Z hl hR hD hcy hnw hnm
  subst hl hD hcy hnw
  have hRf : F.R.frames = 0 := by rw [hR]
  have hRc : F.R.cells = 0 := by rw [hR]
  have hRs : F.R.slots = 0 := by rw [hR]
  have hRl : F.R.locals = 0 := by rw [hR]
  have in6 : ∀ w ∈ u_ws RX7 TX7 16, w ∈ wsX7_plainKind := by decide +kernel
  have lk19 : Cond.fieldLink RX7 19 (TX7 3).1 (TX7 3).2.1 (TX7 3).2.2.1 ∈ wsX7_plainKind := by decide +kernel
  refine g_aload_n Z dX7_plainKind_0 rfl ?_
  refine m_ref_sz Z in6 lk19 dX7_plainKind_1 ?_
  refine g_iload_n Z dX7_plainKind_4 rfl ?_
  refine m_ald_sz Z ho dX7_plainKind_5 (by exact vp_in_nI (by omega) (by decide)) ?_
  rw [nI_clamp (by omega)]
  refine g_sipush (v := 4096) Z dX7_plainKind_6 (by decide) ?_
  refine g_icmp_gt Z 16 dX7_plainKind_9 (by decide) (fun h9 => ?_) (fun h9 => ?_)
  · refine g_iconst (v := 1) Z dX7_plainKind_16 (by decide) ?_
    exact g_iret Z dX7_plainKind_17 (by omega) (by omega) (⟨rfl, by unfold plK; first | rw [if_pos h9] | rw [if_neg h9]⟩)
  · refine g_iconst (v := 0) Z dX7_plainKind_12 (by decide) ?_
    refine g_goto Z 17 dX7_plainKind_13 (by decide) ?_
    exact g_iret Z dX7_plainKind_17 (by omega) (by omega) (⟨rfl, by unfold plK; first | rw [if_pos h9] | rw [if_neg h9]⟩)

set_option maxRecDepth 100000 in
set_option maxHeartbeats 2000000 in
/-- a container has changed -/
theorem f_X7_changed (l : Launch) (D : va_G) (cy : Nat → ClassId) (nw : Nat) (A : Nat → Nat) (x : Nat) (ho : mOk A x) (C : C5) (R : MR) (s : Nat) (hs : s < 17) (V : Sv) (hV : Ms C s V) (j : Nat) (hj : j < V.1) : kV l yX7_changed wsX7_changed 1 23 D cy nw [.ref x, .int (nI s), .int (nI (6 * s + j))] (mP A x (C, R)) (fun T => ∃ E, mP A x (E, R) = T ∧ Me s C E ∧ Ms E s (if 0 < tot (V.2 j).2.2 then V.put j ((V.2 j).1, plK (nI (tot (V.2 j).2.2)), (V.2 j).2.2) else V.del j) ∧ (j + 1 = V.1 → E.sz = C.sz)) 0 0 := by
  refine enterV (cc := cX7_changed) (nL := 4) (ret := none) (by decide +kernel) rfl (Nat.le_of_ble_eq_true rfl) ?_
  intro F Z hl hR hD hcy hnw hnm
  subst hl hD hcy hnw
  have hRf : F.R.frames = 1 := by rw [hR]
  have hRc : F.R.cells = 0 := by rw [hR]
  have hRs : F.R.slots = 0 := by rw [hR]
  have hRl : F.R.locals = 23 := by rw [hR]
  have in6 : ∀ w ∈ u_ws RX7 TX7 16, w ∈ wsX7_changed := by decide +kernel
  have lk7 : Cond.fieldLink RX7 7 (TX7 0).1 (TX7 0).2.1 (TX7 0).2.2.1 ∈ wsX7_changed := by decide +kernel
  have lk16 : Cond.fieldLink RX7 16 (TX7 2).1 (TX7 2).2.1 (TX7 2).2.2.1 ∈ wsX7_changed := by decide +kernel
  have lk19 : Cond.fieldLink RX7 19 (TX7 3).1 (TX7 3).2.1 (TX7 3).2.2.1 ∈ wsX7_changed := by decide +kernel
  obtain ⟨hn0, en0, hcs⟩ := id hV
  have htl := tot_le (V.2 j).2.2
  have hsz := (hcs j hj).2.2.1
  have loop : ∀ (n : Nat) (k : Nat) (E : C5), V.1 - k < n → (¬ 0 < tot (V.2 j).2.2 ∧ j ≤ k ∧ k < V.1 ∧ E.mn = C.mn ∧ Me s C E ∧ (∀ i, i < k → Mc E (6 * s + i) ((V.del j).2 i)) ∧ (∀ i, k ≤ i → i < V.1 → j < i → Mc E (6 * s + i) (V.2 i)) ∧ (j + 1 = V.1 → E.sz = C.sz)) → G F 4 (mP A x (E, R)) 0 0 (QV F (fun T => ∃ E, mP A x (E, R) = T ∧ Me s C E ∧ Ms E s (if 0 < tot (V.2 j).2.2 then V.put j ((V.2 j).1, plK (nI (tot (V.2 j).2.2)), (V.2 j).2.2) else V.del j) ∧ (j + 1 = V.1 → E.sz = C.sz)) 0 0) 23 [(0, .ref x), (1, .int (nI s)), (2, .int (nI (6 * s + j))), (3, .int (nI (6 * s + k)))] [] := by
    intro n
    induction n with
    | zero => intros; omega
    | succ n ih =>
      intro k E hn ⟨hz, hjk, hk, hmn, hS, hlo, hhi, hsz2⟩
      refine g_iload_n Z dX7_changed_23 rfl ?_
      refine g_iconst (v := 1) Z dX7_changed_24 (by decide) ?_
      refine g_iadd Z dX7_changed_25 ?_
      rw [nI_1]
      refine g_bipush (v := 6) Z dX7_changed_26 (by decide) ?_
      refine g_iload_n Z dX7_changed_28 rfl ?_
      refine g_imul Z dX7_changed_29 ?_
      refine g_aload_n Z dX7_changed_30 rfl ?_
      refine m_ref_mn Z in6 lk7 dX7_changed_31 ?_
      refine g_iload_n Z dX7_changed_34 rfl ?_
      refine m_ald_mn Z ho dX7_changed_35 (by exact vp_in_nI (by omega) (by decide)) ?_
      rw [nI_clamp (by omega), hmn, en0]
      refine g_iadd Z dX7_changed_36 ?_
      rw [ix6]
      refine g_icmp_ge Z 54 dX7_changed_37 (by decide) (fun h37 => ?_) (fun h37 => ?_)
      · have hge : 6 * s + V.1 ≤ 6 * s + k + 1 := ge_t (by omega) (by omega) h37
        refine g_aload_n Z dX7_changed_54 rfl ?_
        refine m_ref_mn Z in6 lk7 dX7_changed_55 ?_
        refine g_iload_n Z dX7_changed_58 rfl ?_
        refine g_dup2 Z dX7_changed_59 rfl rfl ?_
        refine m_ald_mn Z ho dX7_changed_60 (by exact vp_in_nI (by omega) (by decide)) ?_
        rw [nI_clamp (by omega), hmn, en0]
        refine g_iconst (v := 1) Z dX7_changed_61 (by decide) ?_
        refine g_isub Z dX7_changed_62 ?_
        rw [show nI V.1 - 1 = nI (V.1 - 1) from pk_sub (a := V.1) (b := 1) (by omega)]
        refine m_ast_mn Z ho dX7_changed_63 (by exact vp_in_nI (by omega) (by decide)) ?_
        rw [nI_clamp (by omega)]
        exact g_vret Z dX7_changed_64 (by omega) (by omega) (⟨_, rfl, hS.tr Me.mn, by rw [if_neg hz]; exact ⟨by show V.1 - 1 ≤ 6; omega, pk_us, fun i hi => hlo i (by have : i < V.1 - 1 := hi; omega)⟩, hsz2⟩)
      · have hlt : 6 * s + k + 1 < 6 * s + V.1 := ge_f (by omega) (by omega) h37
        refine g_aload_n Z dX7_changed_40 rfl ?_
        refine g_iload_n Z dX7_changed_41 rfl ?_
        refine g_iconst (v := 1) Z dX7_changed_42 (by decide) ?_
        refine g_iadd Z dX7_changed_43 ?_
        rw [nI_1]
        refine g_iload_n Z dX7_changed_44 rfl ?_
        refine g_cvV Z (f_X7_copy F.l F.D F.cy F.nw A x ho _ _ _ _ (by omega) (by omega) (by omega)) 2 gX7_changed_X7_copy rfl (by decide +kernel) (by rw [hRf, hRl]; decide) (by exact mP_x) (κ := 6) (by exact mP_Kx) rfl (by decide) rfl rfl (Nat.le_of_ble_eq_true rfl) dX7_changed_45 (by rw [hRc, hRs]; omega) (fun T hp => ?_)
        obtain ⟨E2, rfl, c1, c2⟩ := hp
        refine g_iinc (c := 1) Z dX7_changed_48 rfl (by decide) (by decide) ?_
        rw [nI_1]
        refine g_goto Z 23 dX7_changed_51 (by decide) ?_
        exact g_lv (by (repeat (first | exact trivial | refine And.intro rfl ?_)); done) (ih (k + 1) E2 (by omega) ⟨hz, by omega, by omega, c1.1.trans hmn, hS.tr (c1.me (by omega)), fun i hi => by
          by_cases e : i = k
          · subst e
            show Mc E2 (6 * s + i) (if i < j then V.2 i else V.2 (i + 1))
            rw [if_neg (by omega)]; exact c2.mc (hhi (i + 1) (by omega) (by omega) (by omega))
          · exact (c1.2 _ (by omega)).mc (hlo i (by omega)), fun i h1 h2 h3 => (c1.2 _ (by omega)).mc (hhi i (by omega) h2 h3), fun e => by omega⟩)
  refine g_aload_n Z dX7_changed_0 rfl ?_
  refine m_ref_sz Z in6 lk19 dX7_changed_1 ?_
  refine g_iload_n Z dX7_changed_4 rfl ?_
  refine m_ald_sz Z ho dX7_changed_5 (by exact vp_in_nI (by omega) (by decide)) ?_
  rw [nI_clamp (by omega), hsz]
  refine g_if_le Z 21 dX7_changed_6 (by decide) (fun h6 => ?_) (fun h6 => ?_)
  · have hz : ¬ 0 < tot (V.2 j).2.2 := by have := le_t (i := tot (V.2 j).2.2) (N := 0) (by omega) (by decide) h6; omega
    refine g_iload_n Z dX7_changed_21 rfl ?_
    refine g_istore_n Z dX7_changed_22 (by decide) ?_
    exact g_lv (by (repeat (first | exact trivial | refine And.intro rfl ?_)); done) (loop (V.1 + 1) j C (by omega) ⟨hz, by omega, by omega, rfl, Me.rf, fun i hi => by show Mc C (6 * s + i) (if i < j then V.2 i else V.2 (i + 1)); rw [if_pos hi]; exact hcs i (by omega), fun i _ h2 _ => hcs i h2, fun _ => rfl⟩)
  · have hz : 0 < tot (V.2 j).2.2 := by have := le_f (i := tot (V.2 j).2.2) (N := 0) (by omega) (by decide) h6; omega
    refine g_aload_n Z dX7_changed_9 rfl ?_
    refine m_ref_kd Z in6 lk16 dX7_changed_10 ?_
    refine g_iload_n Z dX7_changed_13 rfl ?_
    refine g_aload_n Z dX7_changed_14 rfl ?_
    refine g_iload_n Z dX7_changed_15 rfl ?_
    refine g_cvI Z (f_X7_plainKind F.l F.D F.cy F.nw A x ho _ _ _ (by omega)) 1 gX7_changed_X7_plainKind rfl (by decide +kernel) (by rw [hRf, hRl]; decide) (by exact mP_x) (κ := 6) (by exact mP_Kx) rfl (by decide) rfl rfl (Nat.le_of_ble_eq_true rfl) dX7_changed_16 (by rw [hRc, hRs]; omega) (fun r T hp => ?_)
    obtain ⟨rfl, rfl⟩ := hp
    refine m_ast_kd Z ho dX7_changed_19 (by exact vp_in_nI (by omega) (by decide)) ?_
    rw [nI_clamp (by omega)]
    exact g_vret Z dX7_changed_20 (by omega) (by omega) (⟨_, rfl, Mb.me (j := j) ⟨rfl, fun d hd => ⟨rfl, pk_un hd, rfl, fun _ _ => rfl⟩⟩ (by omega), by rw [if_pos hz]; exact hV.put hj ⟨rfl, fun d hd => ⟨rfl, pk_un hd, rfl, fun _ _ => rfl⟩⟩ ⟨(hcs j hj).1, pk_us.trans (congrArg plK hsz), hsz, (hcs j hj).2.2.2⟩, fun _ => rfl⟩)
