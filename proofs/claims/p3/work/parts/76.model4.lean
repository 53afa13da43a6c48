/-- no container, or one of the 102 -/
def cOr (y : Int32) : Prop := y = -1 ∨ ∃ c, c < 102 ∧ y = nI c
theorem cOr.nn {y : Int32} (h : cOr y) (h0 : ¬ y = -1) : ∃ c, c < 102 ∧ y = nI c := by
  rcases h with h | h
  · exact absurd h h0
  · exact h
/-- a word of container c is written, and its bits are added to the size -/
theorem wd_step {D E : C5} {c w : Nat} {v : Int64} (hw : w < 1024) (hC : Ce c E D) (hs : D.sz c = nI (ct D.wd c (64 * w))) :
    Ce c E ((D.s_wd (vp_updL D.wd (1024 * c + w) v)).s_sz (upd D.sz c (D.sz c + nI (pc v)))) ∧ upd D.sz c (D.sz c + nI (pc v)) c = nI (ct (vp_updL D.wd (1024 * c + w) v) c (64 * (w + 1))) := by
  refine ⟨⟨hC.1, fun d hd => ⟨(hC.2 d hd).1, (pk_un hd).trans (hC.2 d hd).2.1, fun l hl => (cb_word hw hl (Or.inl hd)).trans ((hC.2 d hd).2.2 l hl)⟩⟩, ?_⟩
  rw [pk_us, hs, nI_add, ct_next, pk_uLs, ct_congr (g := D.wd) (d := c) (64 * w) (fun k hk => cb_word hw (by omega) (Or.inr (by omega)))]
theorem ct_all {f : Nat → Int64} {c w : Nat} (h : w = 1024) : ct f c (64 * w) = ct f c 65536 := by rw [h]

set_option maxRecDepth 100000 in
set_option maxHeartbeats 2000000 in
/-- whether two containers hold the same -/
theorem c_X7_isLike (l : Launch) (D : va_G) (cy : Nat → ClassId) (nw : Nat) (A : Nat → Nat) (x : Nat) (ho : mOk A x) (C : C5) (R : MR) (y : Int32) (hy : cOr y) (d : Nat) (hd : d < 102) : kI l yX7_isLike wsX7_isLike 0 0 D cy nw [.ref x, .int y, .int (nI d)] (mP A x (C, R)) (fun r T => (mP A x (C, R)) = T ∧ (r = 0 ∨ (r = 1 ∧ ∃ c, c < 102 ∧ y = nI c))) 0 0 := by
  refine enterI (cc := cX7_isLike) (nL := 4) (ret := (some .boolean)) (by decide +kernel) rfl (Nat.le_of_ble_eq_true rfl) ?_
  intro F Z hl hR hD hcy hnw hnm
  subst hl hD hcy hnw
  have hRf : F.R.frames = 0 := by rw [hR]
  have hRc : F.R.cells = 0 := by rw [hR]
  have hRs : F.R.slots = 0 := by rw [hR]
  have hRl : F.R.locals = 0 := by rw [hR]
  have in6 : ∀ w ∈ u_ws RX7 TX7 16, w ∈ wsX7_isLike := by decide +kernel
  have lk19 : Cond.fieldLink RX7 19 (TX7 3).1 (TX7 3).2.1 (TX7 3).2.2.1 ∈ wsX7_isLike := by decide +kernel
  have lk23 : Cond.fieldLink RX7 23 (TX7 4).1 (TX7 4).2.1 (TX7 4).2.2.1 ∈ wsX7_isLike := by decide +kernel
  have loop : ∀ (n : Nat) (c w : Nat), 1024 - w < n → (c < 102 ∧ y = nI c ∧ w ≤ 1024) → G F 4 (mP A x (C, R)) 0 0 (QI F (fun r T => (mP A x (C, R)) = T ∧ (r = 0 ∨ (r = 1 ∧ ∃ c, c < 102 ∧ y = nI c))) 0 0) 24 [(0, .ref x), (1, .int (nI c)), (2, .int (nI d)), (3, .int (nI w))] [] := by
    intro n
    induction n with
    | zero => intros; omega
    | succ n ih =>
      intro c w hn ⟨hc, hy, hw⟩
      refine g_iload_n Z dX7_isLike_24 rfl ?_
      refine g_sipush (v := 1024) Z dX7_isLike_25 (by decide) ?_
      refine g_icmp_ge Z 67 dX7_isLike_28 (by decide) (fun h28 => ?_) (fun h28 => ?_)
      · refine g_iconst (v := 1) Z dX7_isLike_67 (by decide) ?_
        exact g_zret Z dX7_isLike_68 (by rfl) (by omega) (by omega) (⟨rfl, Or.inr ⟨rfl, c, hc, hy⟩⟩)
      · have hlt : w < 1024 := ge_f (by omega) (by decide) h28
        refine g_aload_n Z dX7_isLike_31 rfl ?_
        refine m_ref_wd Z in6 lk23 dX7_isLike_32 ?_
        refine g_sipush (v := 1024) Z dX7_isLike_35 (by decide) ?_
        refine g_iload_n Z dX7_isLike_38 rfl ?_
        refine g_imul Z dX7_isLike_39 ?_
        refine g_iload_n Z dX7_isLike_40 rfl ?_
        refine g_iadd Z dX7_isLike_41 ?_
        rw [ixw]
        refine m_ald_wd Z ho dX7_isLike_42 (by exact vp_in_nI (by omega) (by decide)) ?_
        rw [nI_clamp (by omega)]
        refine g_aload_n Z dX7_isLike_43 rfl ?_
        refine m_ref_wd Z in6 lk23 dX7_isLike_44 ?_
        refine g_sipush (v := 1024) Z dX7_isLike_47 (by decide) ?_
        refine g_iload_n Z dX7_isLike_50 rfl ?_
        refine g_imul Z dX7_isLike_51 ?_
        refine g_iload_n Z dX7_isLike_52 rfl ?_
        refine g_iadd Z dX7_isLike_53 ?_
        rw [ixw]
        refine m_ald_wd Z ho dX7_isLike_54 (by exact vp_in_nI (by omega) (by decide)) ?_
        rw [nI_clamp (by omega)]
        refine g_lcmp Z dX7_isLike_55 ?_
        refine g_if_eq Z 61 dX7_isLike_56 (by decide) (fun h56 => ?_) (fun h56 => ?_)
        · refine g_iinc (c := 1) Z dX7_isLike_61 rfl (by decide) (by decide) ?_
          rw [nI_1]
          refine g_goto Z 24 dX7_isLike_64 (by decide) ?_
          exact g_lv (by (repeat (first | exact trivial | refine And.intro rfl ?_)); done) (ih c (w + 1) (by omega) ⟨hc, hy, by omega⟩)
        · refine g_iconst (v := 0) Z dX7_isLike_59 (by decide) ?_
          exact g_zret Z dX7_isLike_60 (by rfl) (by omega) (by omega) (⟨rfl, Or.inl rfl⟩)
  refine g_iload_n Z dX7_isLike_0 rfl ?_
  refine g_iconst (v := (-1)) Z dX7_isLike_1 (by decide) ?_
  refine g_icmp_eq Z 20 dX7_isLike_2 (by decide) (fun h2 => ?_) (fun h2 => ?_)
  · refine g_iconst (v := 0) Z dX7_isLike_20 (by decide) ?_
    exact g_zret Z dX7_isLike_21 (by rfl) (by omega) (by omega) (⟨rfl, Or.inl rfl⟩)
  · obtain ⟨c, hc, rfl⟩ := hy.nn h2
    refine g_aload_n Z dX7_isLike_5 rfl ?_
    refine m_ref_sz Z in6 lk19 dX7_isLike_6 ?_
    refine g_iload_n Z dX7_isLike_9 rfl ?_
    refine m_ald_sz Z ho dX7_isLike_10 (by exact vp_in_nI (by omega) (by decide)) ?_
    rw [nI_clamp (by omega)]
    refine g_aload_n Z dX7_isLike_11 rfl ?_
    refine m_ref_sz Z in6 lk19 dX7_isLike_12 ?_
    refine g_iload_n Z dX7_isLike_15 rfl ?_
    refine m_ald_sz Z ho dX7_isLike_16 (by exact vp_in_nI (by omega) (by decide)) ?_
    rw [nI_clamp (by omega)]
    refine g_icmp_eq Z 22 dX7_isLike_17 (by decide) (fun h17 => ?_) (fun h17 => ?_)
    · refine g_iconst (v := 0) Z dX7_isLike_22 (by decide) ?_
      refine g_istore_n Z dX7_isLike_23 (by decide) ?_
      exact g_lv (by (repeat (first | exact trivial | refine And.intro rfl ?_)); done) (loop 1025 c 0 (by omega) ⟨hc, rfl, by omega⟩)
    · refine g_iconst (v := 0) Z dX7_isLike_20 (by decide) ?_
      exact g_zret Z dX7_isLike_21 (by rfl) (by omega) (by omega) (⟨rfl, Or.inl rfl⟩)

set_option maxRecDepth 100000 in
set_option maxHeartbeats 2000000 in
/-- static: two words are joined -/
theorem c_X7_joined (l : Launch) (D : va_G) (cy : Nat → ClassId) (nw : Nat) (S : PS) (y : Int32) (a b : Int64) : kL l yX7_joined wsX7_joined 0 0 D cy nw [.int y, .long a, .long b] S (fun _ T => S = T) 0 0 := by
  refine enterL (cc := cX7_joined) (nL := 5) (ret := (some .long)) (by decide +kernel) rfl (Nat.le_of_ble_eq_true rfl) ?_
  intro F Z hl hR hD hcy hnw hnm
  subst hl hD hcy hnw
  have hRf : F.R.frames = 0 := by rw [hR]
  have hRc : F.R.cells = 0 := by rw [hR]
  have hRs : F.R.slots = 0 := by rw [hR]
  have hRl : F.R.locals = 0 := by rw [hR]
  have ct52 : Cond.constantLong RX7 52 (-1) ∈ wsX7_joined := by decide +kernel
  refine g_iload_n Z dX7_joined_0 rfl ?_
  refine g_if_ne Z 10 dX7_joined_1 (by decide) (fun h1 => ?_) (fun h1 => ?_)
  · refine g_iload_n Z dX7_joined_10 rfl ?_
    refine g_iconst (v := 1) Z dX7_joined_11 (by decide) ?_
    refine g_icmp_ne Z 21 dX7_joined_12 (by decide) (fun h12 => ?_) (fun h12 => ?_)
    · refine g_iload_n Z dX7_joined_21 rfl ?_
      refine g_iconst (v := 2) Z dX7_joined_22 (by decide) ?_
      refine g_icmp_ne Z 32 dX7_joined_23 (by decide) (fun h23 => ?_) (fun h23 => ?_)
      · refine g_lload_n Z dX7_joined_32 rfl ?_
        refine g_lload_n Z dX7_joined_33 rfl ?_
        refine g_ldc2 (v := -1) Z dX7_joined_34 ct52 ?_
        refine g_lxor Z dX7_joined_37 ?_
        refine g_land Z dX7_joined_38 ?_
        exact g_lret Z dX7_joined_39 (by omega) (by omega) (rfl)
      · refine g_lload_n Z dX7_joined_26 rfl ?_
        refine g_lload_n Z dX7_joined_27 rfl ?_
        refine g_lxor Z dX7_joined_28 ?_
        refine g_goto Z 39 dX7_joined_29 (by decide) ?_
        exact g_lret Z dX7_joined_39 (by omega) (by omega) (rfl)
    · refine g_lload_n Z dX7_joined_15 rfl ?_
      refine g_lload_n Z dX7_joined_16 rfl ?_
      refine g_lor Z dX7_joined_17 ?_
      refine g_goto Z 39 dX7_joined_18 (by decide) ?_
      exact g_lret Z dX7_joined_39 (by omega) (by omega) (rfl)
  · refine g_lload_n Z dX7_joined_4 rfl ?_
    refine g_lload_n Z dX7_joined_5 rfl ?_
    refine g_land Z dX7_joined_6 ?_
    refine g_goto Z 39 dX7_joined_7 (by decide) ?_
    exact g_lret Z dX7_joined_39 (by omega) (by omega) (rfl)

set_option maxRecDepth 100000 in
set_option maxHeartbeats 2000000 in
/-- a container is made of two -/
theorem c_X7_makeOne (l : Launch) (D : va_G) (cy : Nat → ClassId) (nw : Nat) (A : Nat → Nat) (x : Nat) (ho : mOk A x) (C : C5) (R : MR) (hO : Okc C) (n0 : Nat) (hn0 : n0 ≤ 6) (en0 : C.mn 16 = nI n0) (hg0 : ∀ i, i < n0 → gc C (6 * 16 + i)) (y : Int32) (key : Nat) (hkey : key < 65536) (a b : Int32) (ha : cOr a) (hb : cOr b) : kI l yX7_makeOne wsX7_makeOne 2 48 D cy nw [.ref x, .int y, .int (nI key), .int a, .int b] (mP A x (C, R)) (fun r T => (r = 0 ∨ r = 1) ∧ ∃ E, mP A x (E, R) = T ∧ Se 16 C E ∧ Okc E ∧ Gd E 16) 0 0 := by
  refine enterI (cc := cX7_makeOne) (nL := 9) (ret := (some .boolean)) (by decide +kernel) rfl (Nat.le_of_ble_eq_true rfl) ?_
  intro F Z hl hR hD hcy hnw hnm
  subst hl hD hcy hnw
  have hRf : F.R.frames = 2 := by rw [hR]
  have hRc : F.R.cells = 0 := by rw [hR]
  have hRs : F.R.slots = 0 := by rw [hR]
  have hRl : F.R.locals = 48 := by rw [hR]
  have in6 : ∀ w ∈ u_ws RX7 TX7 16, w ∈ wsX7_makeOne := by decide +kernel
  have lk7 : Cond.fieldLink RX7 7 (TX7 0).1 (TX7 0).2.1 (TX7 0).2.2.1 ∈ wsX7_makeOne := by decide +kernel
  have lk16 : Cond.fieldLink RX7 16 (TX7 2).1 (TX7 2).2.1 (TX7 2).2.2.1 ∈ wsX7_makeOne := by decide +kernel
  have lk19 : Cond.fieldLink RX7 19 (TX7 3).1 (TX7 3).2.1 (TX7 3).2.2.1 ∈ wsX7_makeOne := by decide +kernel
  have lk23 : Cond.fieldLink RX7 23 (TX7 4).1 (TX7 4).2.1 (TX7 4).2.2.1 ∈ wsX7_makeOne := by decide +kernel
  have look : ∀ (n : Nat) (w : Nat), 1024 - w < n → (w ≤ 1024) → G F 9 (mP A x (C, R)) 0 0 (QI F (fun r T => (r = 0 ∨ r = 1) ∧ ∃ E, mP A x (E, R) = T ∧ Se 16 C E ∧ Okc E ∧ Gd E 16) 0 0) 15 [(0, .ref x), (1, .int y), (2, .int (nI key)), (3, .int a), (4, .int b), (5, .int (nI w))] [] := by
    intro n
    induction n with
    | zero => intros; omega
    | succ n ih =>
      intro w hn hw
      have j70 : ∀ (u v : Int64), w < 1024 → G F 9 (mP A x (C, R)) 0 0 (QI F (fun r T => (r = 0 ∨ r = 1) ∧ ∃ E, mP A x (E, R) = T ∧ Se 16 C E ∧ Okc E ∧ Gd E 16) 0 0) 70 [(0, .ref x), (1, .int y), (2, .int (nI key)), (3, .int a), (4, .int b), (5, .int (nI w))] [.long v, .long u, .int y] := by
        intro u v hlt
        refine g_csL Z (c_X7_joined F.l F.D F.cy F.nw _ _ _ _) 3 gX7_makeOne_X7_joined rfl (by decide +kernel) (by rw [hRf, hRl]; decide) rfl rfl (Nat.le_of_ble_eq_true rfl) dX7_makeOne_70 (by rw [hRc, hRs]; omega) (fun r T hp => ?_)
        subst hp
        refine g_lconst (v := 0) Z dX7_makeOne_73 (by decide) ?_
        refine g_lcmp Z dX7_makeOne_74 ?_
        refine g_if_eq Z 80 dX7_makeOne_75 (by decide) (fun h75 => ?_) (fun h75 => ?_)
        · refine g_iinc (c := 1) Z dX7_makeOne_80 rfl (by decide) (by decide) ?_
          rw [nI_1]
          refine g_goto Z 15 dX7_makeOne_83 (by decide) ?_
          exact g_lv (by (repeat (first | exact trivial | refine And.intro rfl ?_)); done) (ih (w + 1) (by omega) (by omega))
        · refine g_iconst (v := 0) Z dX7_makeOne_78 (by decide) ?_
          exact g_zret Z dX7_makeOne_79 (by rfl) (by omega) (by omega) (⟨Or.inl rfl, C, rfl, Se.rf, hO, n0, hn0, en0, hg0⟩)
      have j46 : ∀ (u : Int64), w < 1024 → G F 9 (mP A x (C, R)) 0 0 (QI F (fun r T => (r = 0 ∨ r = 1) ∧ ∃ E, mP A x (E, R) = T ∧ Se 16 C E ∧ Okc E ∧ Gd E 16) 0 0) 46 [(0, .ref x), (1, .int y), (2, .int (nI key)), (3, .int a), (4, .int b), (5, .int (nI w))] [.long u, .int y] := by
        intro u hlt
        refine g_iload Z dX7_makeOne_46 rfl ?_
        refine g_iconst (v := (-1)) Z dX7_makeOne_48 (by decide) ?_
        refine g_icmp_ne Z 56 dX7_makeOne_49 (by decide) (fun h49 => ?_) (fun h49 => ?_)
        · obtain ⟨b', hb', rfl⟩ := hb.nn h49
          refine g_aload_n Z dX7_makeOne_56 rfl ?_
          refine m_ref_wd Z in6 lk23 dX7_makeOne_57 ?_
          refine g_sipush (v := 1024) Z dX7_makeOne_60 (by decide) ?_
          refine g_iload Z dX7_makeOne_63 rfl ?_
          refine g_imul Z dX7_makeOne_65 ?_
          refine g_iload Z dX7_makeOne_66 rfl ?_
          refine g_iadd Z dX7_makeOne_68 ?_
          rw [ixw]
          refine m_ald_wd Z ho dX7_makeOne_69 (by exact vp_in_nI (by omega) (by decide)) ?_
          rw [nI_clamp (by omega)]
          exact g_lv (by (repeat (first | exact trivial | refine And.intro rfl ?_)); done) (j70 _ _ hlt)
        · refine g_lconst (v := 0) Z dX7_makeOne_52 (by decide) ?_
          refine g_goto Z 70 dX7_makeOne_53 (by decide) ?_
          exact g_lv (by (repeat (first | exact trivial | refine And.intro rfl ?_)); done) (j70 _ _ hlt)
      refine g_iload Z dX7_makeOne_15 rfl ?_
      refine g_sipush (v := 1024) Z dX7_makeOne_17 (by decide) ?_
      refine g_icmp_ge Z 86 dX7_makeOne_20 (by decide) (fun h20 => ?_) (fun h20 => ?_)
      · refine g_iconst (v := 1) Z dX7_makeOne_86 (by decide) ?_
        exact g_zret Z dX7_makeOne_87 (by rfl) (by omega) (by omega) (⟨Or.inr rfl, C, rfl, Se.rf, hO, n0, hn0, en0, hg0⟩)
      · have hlt : w < 1024 := ge_f (by omega) (by decide) h20
        refine g_iload_n Z dX7_makeOne_23 rfl ?_
        refine g_iload_n Z dX7_makeOne_24 rfl ?_
        refine g_iconst (v := (-1)) Z dX7_makeOne_25 (by decide) ?_
        refine g_icmp_ne Z 33 dX7_makeOne_26 (by decide) (fun h26 => ?_) (fun h26 => ?_)
        · obtain ⟨a', ha', rfl⟩ := ha.nn h26
          refine g_aload_n Z dX7_makeOne_33 rfl ?_
          refine m_ref_wd Z in6 lk23 dX7_makeOne_34 ?_
          refine g_sipush (v := 1024) Z dX7_makeOne_37 (by decide) ?_
          refine g_iload_n Z dX7_makeOne_40 rfl ?_
          refine g_imul Z dX7_makeOne_41 ?_
          refine g_iload Z dX7_makeOne_42 rfl ?_
          refine g_iadd Z dX7_makeOne_44 ?_
          rw [ixw]
          refine m_ald_wd Z ho dX7_makeOne_45 (by exact vp_in_nI (by omega) (by decide)) ?_
          rw [nI_clamp (by omega)]
          exact g_lv (by (repeat (first | exact trivial | refine And.intro rfl ?_)); done) (j46 _ hlt)
        · refine g_lconst (v := 0) Z dX7_makeOne_29 (by decide) ?_
          refine g_goto Z 46 dX7_makeOne_30 (by decide) ?_
          exact g_lv (by (repeat (first | exact trivial | refine And.intro rfl ?_)); done) (j46 _ hlt)
  have fin : ∀ (E : C5) (j : Nat), j < 6 → Se 16 C E → Okc E → Gd E 16 → G F 9 (mP A x (E, R)) 0 0 (QI F (fun r T => (r = 0 ∨ r = 1) ∧ ∃ E, mP A x (E, R) = T ∧ Se 16 C E ∧ Okc E ∧ Gd E 16) 0 0) 205 [(0, .ref x), (3, .int a), (4, .int b), (5, .int (nI (6 * 16 + j)))] [] := by
    intro E j hj hS hE hG
    have j268 : ∀ (z : Int32), G F 9 (mP A x (E, R)) 0 0 (QI F (fun r T => (r = 0 ∨ r = 1) ∧ ∃ E, mP A x (E, R) = T ∧ Se 16 C E ∧ Okc E ∧ Gd E 16) 0 0) 268 [(0, .ref x)] [.int z, .int (nI (6 * 16 + j)), .ref (A 2)] := by
      intro z
      refine m_ast_kd Z ho dX7_makeOne_268 (by exact vp_in_nI (by omega) (by decide)) ?_
      rw [nI_clamp (by omega)]
      refine g_iconst (v := 1) Z dX7_makeOne_269 (by decide) ?_
      exact g_zret Z dX7_makeOne_270 (by rfl) (by omega) (by omega) (⟨Or.inr rfl, _, rfl, hS, hE, hG⟩)
    refine g_aload_n Z dX7_makeOne_205 rfl ?_
    refine m_ref_sz Z in6 lk19 dX7_makeOne_206 ?_
    refine g_iload Z dX7_makeOne_209 rfl ?_
    refine m_ald_sz Z ho dX7_makeOne_211 (by exact vp_in_nI (by omega) (by decide)) ?_
    rw [nI_clamp (by omega)]
    refine g_if_le Z 269 dX7_makeOne_212 (by decide) (fun h212 => ?_) (fun h212 => ?_)
    · refine g_iconst (v := 1) Z dX7_makeOne_269 (by decide) ?_
      exact g_zret Z dX7_makeOne_270 (by rfl) (by omega) (by omega) (⟨Or.inr rfl, _, rfl, hS, hE, hG⟩)
    · refine g_aload_n Z dX7_makeOne_215 rfl ?_
      refine m_ref_kd Z in6 lk16 dX7_makeOne_216 ?_
      refine g_iload Z dX7_makeOne_219 rfl ?_
      refine g_aload_n Z dX7_makeOne_221 rfl ?_
      refine g_iload_n Z dX7_makeOne_222 rfl ?_
      refine g_iload Z dX7_makeOne_223 rfl ?_
      refine g_cvI Z (c_X7_isLike F.l F.D F.cy F.nw A x ho _ _ _ ha _ (by omega)) 2 gX7_makeOne_X7_isLike rfl (by decide +kernel) (by rw [hRf, hRl]; decide) (by exact mP_x) (κ := 6) (by exact mP_Kx) rfl (by decide) rfl rfl (Nat.le_of_ble_eq_true rfl) dX7_makeOne_225 (by rw [hRc, hRs]; omega) (fun r T1 hp => ?_)
      obtain ⟨rfl, hr1⟩ := hp
      refine g_if_eq Z 240 dX7_makeOne_228 (by decide) (fun h228 => ?_) (fun h228 => ?_)
      · refine g_aload_n Z dX7_makeOne_240 rfl ?_
        refine g_iload Z dX7_makeOne_241 rfl ?_
        refine g_iload Z dX7_makeOne_243 rfl ?_
        refine g_cvI Z (c_X7_isLike F.l F.D F.cy F.nw A x ho _ _ _ hb _ (by omega)) 2 gX7_makeOne_X7_isLike rfl (by decide +kernel) (by rw [hRf, hRl]; decide) (by exact mP_x) (κ := 6) (by exact mP_Kx) rfl (by decide) rfl rfl (Nat.le_of_ble_eq_true rfl) dX7_makeOne_245 (by rw [hRc, hRs]; omega) (fun r T2 hp => ?_)
        obtain ⟨rfl, hr2⟩ := hp
        refine g_if_eq Z 261 dX7_makeOne_248 (by decide) (fun h248 => ?_) (fun h248 => ?_)
        · refine g_aload_n Z dX7_makeOne_261 rfl ?_
          refine m_ref_kd Z in6 lk16 dX7_makeOne_262 ?_
          refine g_iload Z dX7_makeOne_265 rfl ?_
          refine m_ald_kd Z ho dX7_makeOne_267 (by exact vp_in_nI (by omega) (by decide)) ?_
          rw [nI_clamp (by omega)]
          exact g_lv (by (repeat (first | exact trivial | refine And.intro rfl ?_)); done) (j268 _)
        · obtain ⟨b', hb', rfl⟩ : ∃ c, c < 102 ∧ b = nI c := by rcases hr2 with e | e; exact absurd e h248; exact e.2
          refine g_aload_n Z dX7_makeOne_251 rfl ?_
          refine m_ref_kd Z in6 lk16 dX7_makeOne_252 ?_
          refine g_iload Z dX7_makeOne_255 rfl ?_
          refine m_ald_kd Z ho dX7_makeOne_257 (by exact vp_in_nI (by omega) (by decide)) ?_
          rw [nI_clamp (by omega)]
          refine g_goto Z 268 dX7_makeOne_258 (by decide) ?_
          exact g_lv (by (repeat (first | exact trivial | refine And.intro rfl ?_)); done) (j268 _)
      · obtain ⟨a', ha', rfl⟩ : ∃ c, c < 102 ∧ a = nI c := by rcases hr1 with e | e; exact absurd e h228; exact e.2
        refine g_aload_n Z dX7_makeOne_231 rfl ?_
        refine m_ref_kd Z in6 lk16 dX7_makeOne_232 ?_
        refine g_iload_n Z dX7_makeOne_235 rfl ?_
        refine m_ald_kd Z ho dX7_makeOne_236 (by exact vp_in_nI (by omega) (by decide)) ?_
        rw [nI_clamp (by omega)]
        refine g_goto Z 268 dX7_makeOne_237 (by decide) ?_
        exact g_lv (by (repeat (first | exact trivial | refine And.intro rfl ?_)); done) (j268 _)
  have fill : ∀ (n j : Nat) (E : C5), j ≤ n0 → n0 < 6 → E.mn 16 = nI (n0 + 1) → Se 16 C E → Okc E → (∀ i, i ≤ n0 → gc E (6 * 16 + i)) → ∀ (w : Nat) (D : C5), 1024 - w < n → (w ≤ 1024 ∧ Ce (6 * 16 + j) E D ∧ D.ky = E.ky ∧ D.sz (6 * 16 + j) = nI (ct D.wd (6 * 16 + j) (64 * w))) → G F 9 (mP A x (D, R)) 0 0 (QI F (fun r T => (r = 0 ∨ r = 1) ∧ ∃ E, mP A x (E, R) = T ∧ Se 16 C E ∧ Okc E ∧ Gd E 16) 0 0) 100 [(0, .ref x), (1, .int y), (3, .int a), (4, .int b), (5, .int (nI (6 * 16 + j))), (6, .int (nI w))] [] := by
    intro n j E hj hn6 hm hS hE hg
    induction n with
    | zero => intros; omega
    | succ n ih =>
      intro w D hn ⟨hw, hC, hky, hs⟩
      have j155 : ∀ (u v : Int64), w < 1024 → G F 9 (mP A x (D, R)) 0 0 (QI F (fun r T => (r = 0 ∨ r = 1) ∧ ∃ E, mP A x (E, R) = T ∧ Se 16 C E ∧ Okc E ∧ Gd E 16) 0 0) 155 [(0, .ref x), (1, .int y), (3, .int a), (4, .int b), (5, .int (nI (6 * 16 + j))), (6, .int (nI w))] [.long v, .long u, .int y] := by
        intro u v hlt
        refine g_csL Z (c_X7_joined F.l F.D F.cy F.nw _ _ _ _) 3 gX7_makeOne_X7_joined rfl (by decide +kernel) (by rw [hRf, hRl]; decide) rfl rfl (Nat.le_of_ble_eq_true rfl) dX7_makeOne_155 (by rw [hRc, hRs]; omega) (fun r T1 hp => ?_)
        subst hp
        obtain ⟨s1, s2⟩ := wd_step (v := r) hlt hC hs
        refine g_lstore Z dX7_makeOne_158 (by decide) ?_
        refine g_aload_n Z dX7_makeOne_160 rfl ?_
        refine m_ref_wd Z in6 lk23 dX7_makeOne_161 ?_
        refine g_sipush (v := 1024) Z dX7_makeOne_164 (by decide) ?_
        refine g_iload Z dX7_makeOne_167 rfl ?_
        refine g_imul Z dX7_makeOne_169 ?_
        refine g_iload Z dX7_makeOne_170 rfl ?_
        refine g_iadd Z dX7_makeOne_172 ?_
        rw [ixw]
        refine g_lload Z dX7_makeOne_173 rfl ?_
        refine m_ast_wd Z ho dX7_makeOne_175 (by exact vp_in_nI (by omega) (by decide)) ?_
        rw [nI_clamp (by omega)]
        refine g_aload_n Z dX7_makeOne_176 rfl ?_
        refine m_ref_sz Z in6 lk19 dX7_makeOne_177 ?_
        refine g_iload Z dX7_makeOne_180 rfl ?_
        refine g_dup2 Z dX7_makeOne_182 rfl rfl ?_
        refine m_ald_sz Z ho dX7_makeOne_183 (by exact vp_in_nI (by omega) (by decide)) ?_
        rw [nI_clamp (by omega)]
        refine g_lload Z dX7_makeOne_184 rfl ?_
        refine g_csI Z (c_X7_bitsOf F.l F.D F.cy F.nw _ _) 1 gX7_makeOne_X7_bitsOf rfl (by decide +kernel) (by rw [hRf, hRl]; decide) rfl rfl (Nat.le_of_ble_eq_true rfl) dX7_makeOne_186 (by rw [hRc, hRs]; omega) (fun r2 T2 hp => ?_)
        obtain ⟨rfl, rfl⟩ := hp
        refine g_iadd Z dX7_makeOne_189 ?_
        refine m_ast_sz Z ho dX7_makeOne_190 (by exact vp_in_nI (by omega) (by decide)) ?_
        rw [nI_clamp (by omega)]
        refine g_iinc (c := 1) Z dX7_makeOne_191 rfl (by decide) (by decide) ?_
        rw [nI_1]
        refine g_goto Z 100 dX7_makeOne_194 (by decide) ?_
        exact g_lv (by (repeat (first | exact trivial | refine And.intro rfl ?_)); done) (ih (w + 1) _ (by omega) ⟨by omega, s1, hky, s2⟩)
      have j131 : ∀ (u : Int64), w < 1024 → G F 9 (mP A x (D, R)) 0 0 (QI F (fun r T => (r = 0 ∨ r = 1) ∧ ∃ E, mP A x (E, R) = T ∧ Se 16 C E ∧ Okc E ∧ Gd E 16) 0 0) 131 [(0, .ref x), (1, .int y), (3, .int a), (4, .int b), (5, .int (nI (6 * 16 + j))), (6, .int (nI w))] [.long u, .int y] := by
        intro u hlt
        refine g_iload Z dX7_makeOne_131 rfl ?_
        refine g_iconst (v := (-1)) Z dX7_makeOne_133 (by decide) ?_
        refine g_icmp_ne Z 141 dX7_makeOne_134 (by decide) (fun h134 => ?_) (fun h134 => ?_)
        · obtain ⟨b', hb', rfl⟩ := hb.nn h134
          refine g_aload_n Z dX7_makeOne_141 rfl ?_
          refine m_ref_wd Z in6 lk23 dX7_makeOne_142 ?_
          refine g_sipush (v := 1024) Z dX7_makeOne_145 (by decide) ?_
          refine g_iload Z dX7_makeOne_148 rfl ?_
          refine g_imul Z dX7_makeOne_150 ?_
          refine g_iload Z dX7_makeOne_151 rfl ?_
          refine g_iadd Z dX7_makeOne_153 ?_
          rw [ixw]
          refine m_ald_wd Z ho dX7_makeOne_154 (by exact vp_in_nI (by omega) (by decide)) ?_
          rw [nI_clamp (by omega)]
          exact g_lv (by (repeat (first | exact trivial | refine And.intro rfl ?_)); done) (j155 _ _ hlt)
        · refine g_lconst (v := 0) Z dX7_makeOne_137 (by decide) ?_
          refine g_goto Z 155 dX7_makeOne_138 (by decide) ?_
          exact g_lv (by (repeat (first | exact trivial | refine And.intro rfl ?_)); done) (j155 _ _ hlt)
      refine g_iload Z dX7_makeOne_100 rfl ?_
      refine g_sipush (v := 1024) Z dX7_makeOne_102 (by decide) ?_
      refine g_icmp_ge Z 197 dX7_makeOne_105 (by decide) (fun h105 => ?_) (fun h105 => ?_)
      · have he : w = 1024 := by have := ge_t (N := 1024) (by omega) (by decide) h105; omega
        have hgD : ∀ i, i < n0 + 1 → gc D (6 * 16 + i) := all_gc hC (by show D.sz _ = _; rw [hs, ct_all he]) (fun i hi => hg i (by omega))
        have hOD := hC.okk hky hE
        have hSD := hC.se (s := 16) (by omega)
        have hmD : D.mn 16 = nI (n0 + 1) := by rw [hC.1]; exact hm
        refine g_aload_n Z dX7_makeOne_197 rfl ?_
        refine g_bipush (v := 16) Z dX7_makeOne_198 (by decide) ?_
        refine g_iload Z dX7_makeOne_200 rfl ?_
        refine g_cvV Z (c_X7_changed F.l F.D F.cy F.nw A x ho _ _ hOD 16 (by decide) (n0 + 1) (by omega) hmD hgD j (by omega)) 2 gX7_makeOne_X7_changed rfl (by decide +kernel) (by rw [hRf, hRl]; decide) (by exact mP_x) (κ := 6) (by exact mP_Kx) rfl (by decide) rfl rfl (Nat.le_of_ble_eq_true rfl) dX7_makeOne_202 (by rw [hRc, hRs]; omega) (fun T hp => ?_)
        obtain ⟨E3, rfl, k1, k2, k3⟩ := hp
        exact g_lv (by (repeat (first | exact trivial | refine And.intro rfl ?_)); done) (fin E3 j (by omega) ((hS.tr hSD).tr k1) k2 k3)
      · have hlt : w < 1024 := ge_f (by omega) (by decide) h105
        refine g_iload_n Z dX7_makeOne_108 rfl ?_
        refine g_iload_n Z dX7_makeOne_109 rfl ?_
        refine g_iconst (v := (-1)) Z dX7_makeOne_110 (by decide) ?_
        refine g_icmp_ne Z 118 dX7_makeOne_111 (by decide) (fun h111 => ?_) (fun h111 => ?_)
        · obtain ⟨a', ha', rfl⟩ := ha.nn h111
          refine g_aload_n Z dX7_makeOne_118 rfl ?_
          refine m_ref_wd Z in6 lk23 dX7_makeOne_119 ?_
          refine g_sipush (v := 1024) Z dX7_makeOne_122 (by decide) ?_
          refine g_iload_n Z dX7_makeOne_125 rfl ?_
          refine g_imul Z dX7_makeOne_126 ?_
          refine g_iload Z dX7_makeOne_127 rfl ?_
          refine g_iadd Z dX7_makeOne_129 ?_
          rw [ixw]
          refine m_ald_wd Z ho dX7_makeOne_130 (by exact vp_in_nI (by omega) (by decide)) ?_
          rw [nI_clamp (by omega)]
          exact g_lv (by (repeat (first | exact trivial | refine And.intro rfl ?_)); done) (j131 _ hlt)
        · refine g_lconst (v := 0) Z dX7_makeOne_114 (by decide) ?_
          refine g_goto Z 131 dX7_makeOne_115 (by decide) ?_
          exact g_lv (by (repeat (first | exact trivial | refine And.intro rfl ?_)); done) (j131 _ hlt)
  refine g_aload_n Z dX7_makeOne_0 rfl ?_
  refine m_ref_mn Z in6 lk7 dX7_makeOne_1 ?_
  refine g_bipush (v := 16) Z dX7_makeOne_4 (by decide) ?_
  refine m_ald_mn Z ho dX7_makeOne_6 (by exact vp_in_nI (n := 16) (by decide) (by decide)) ?_
  rw [show (16 : Int32).toNatClampNeg = 16 by decide, en0]
  refine g_bipush (v := 6) Z dX7_makeOne_7 (by decide) ?_
  refine g_icmp_ne Z 88 dX7_makeOne_9 (by decide) (fun h9 => ?_) (fun h9 => ?_)
  · have hn6 : ¬ n0 = 6 := fun e => h9 (by rw [e]; rfl)
    refine g_aload_n Z dX7_makeOne_88 rfl ?_
    refine g_bipush (v := 16) Z dX7_makeOne_89 (by decide) ?_
    refine g_iload_n Z dX7_makeOne_91 rfl ?_
    refine g_cvI Z (c_X7_made F.l F.D F.cy F.nw A x ho _ _ hO 16 (by decide) n0 (by omega) en0 hg0 key hkey) 2 gX7_makeOne_X7_made rfl (by decide +kernel) (by rw [hRf, hRl]; decide) (by exact mP_x) (κ := 6) (by exact mP_Kx) rfl (by decide) rfl rfl (Nat.le_of_ble_eq_true rfl) dX7_makeOne_92 (by rw [hRc, hRs]; omega) (fun r T hp => ?_)
    obtain ⟨E, j, rfl, rfl, e1, e2, e3, e4, e5, e6, e7⟩ := hp
    refine g_istore Z dX7_makeOne_95 (by decide) ?_
    refine g_iconst (v := 0) Z dX7_makeOne_97 (by decide) ?_
    refine g_istore Z dX7_makeOne_98 (by decide) ?_
    exact g_lv (by (repeat (first | exact trivial | refine And.intro rfl ?_)); done) (fill 1025 j E e1 (by omega) e2 e3 e4 e5 0 E (by omega) ⟨by omega, Ce.rf, rfl, e6⟩)
  · refine g_iconst (v := 0) Z dX7_makeOne_12 (by decide) ?_
    refine g_istore Z dX7_makeOne_13 (by decide) ?_
    exact g_lv (by (repeat (first | exact trivial | refine And.intro rfl ?_)); done) (look 1025 0 (by omega) (by omega))

theorem ne_nI {a b : Nat} (ha : a < 2 ^ 31) (hb : b < 2 ^ 31) (h : a ≠ b) : ¬ nI a = nI b := fun e => h ((nI_eq ha hb).mp e)
theorem add0 (a : Nat) : nI a + 0 = nI a := nI_add a 0

set_option maxRecDepth 100000 in
set_option maxHeartbeats 2000000 in
/-- a set is made of two -/
theorem c_X7_make (l : Launch) (D : va_G) (cy : Nat → ClassId) (nw : Nat) (A : Nat → Nat) (x : Nat) (ho : mOk A x) (C : C5) (R : MR) (hO : Okc C) (y : Int32) (a b : Nat) (ha : a < 16) (hb : b < 16) : kI l yX7_make wsX7_make 3 76 D cy nw [.ref x, .int y, .int (nI a), .int (nI b)] (mP A x (C, R)) (fun r T => (r = 0 ∨ r = 1) ∧ ∃ E, mP A x (E, R) = T ∧ Se 16 C E ∧ Okc E ∧ Gd E 16) 0 0 := by
  refine enterI (cc := cX7_make) (nL := 9) (ret := (some .boolean)) (by decide +kernel) rfl (Nat.le_of_ble_eq_true rfl) ?_
  intro F Z hl hR hD hcy hnw hnm
  subst hl hD hcy hnw
  have hRf : F.R.frames = 3 := by rw [hR]
  have hRc : F.R.cells = 0 := by rw [hR]
  have hRs : F.R.slots = 0 := by rw [hR]
  have hRl : F.R.locals = 76 := by rw [hR]
  have in6 : ∀ w ∈ u_ws RX7 TX7 16, w ∈ wsX7_make := by decide +kernel
  have lk7 : Cond.fieldLink RX7 7 (TX7 0).1 (TX7 0).2.1 (TX7 0).2.2.1 ∈ wsX7_make := by decide +kernel
  have lk13 : Cond.fieldLink RX7 13 (TX7 1).1 (TX7 1).2.1 (TX7 1).2.2.1 ∈ wsX7_make := by decide +kernel
  have ct107 : Cond.constant RX7 107 (65536) ∈ wsX7_make := by decide +kernel
  obtain ⟨na, hna, ena⟩ := hO.mnk (s := a) (by omega)
  obtain ⟨nb, hnb, enb⟩ := hO.mnk (s := b) (by omega)
  have loop : ∀ (n : Nat) (i j : Nat) (E : C5), (na - i) + (nb - j) < n → (i ≤ na ∧ j ≤ nb ∧ Se 16 C E ∧ Okc E ∧ Gd E 16) → G F 9 (mP A x (E, R)) 0 0 (QI F (fun r T => (r = 0 ∨ r = 1) ∧ ∃ E, mP A x (E, R) = T ∧ Se 16 C E ∧ Okc E ∧ Gd E 16) 0 0) 14 [(0, .ref x), (1, .int y), (2, .int (nI a)), (3, .int (nI b)), (4, .int (nI i)), (5, .int (nI j))] [] := by
    intro n
    induction n with
    | zero => intros; omega
    | succ n ih =>
      intro i j E hn ⟨hi, hj, hS, hE, hG⟩
      obtain ⟨n1, hn1, en1, hg1⟩ := id hG
      have ema : E.mn a = nI na := (hS a (by omega) (by omega)).1.trans ena
      have emb : E.mn b = nI nb := (hS b (by omega) (by omega)).1.trans enb
      by_cases hi1 : i < na
      · obtain ⟨k1, hk1, e1⟩ := hE.keyk (i := 6 * a + i) (by omega)
        by_cases hj1 : j < nb
        · obtain ⟨k2, hk2, e2⟩ := hE.keyk (i := 6 * b + j) (by omega)
          rcases Nat.lt_trichotomy k1 k2 with hk | hk | hk
          · refine g_iload Z dX7_make_14 rfl ?_
            refine g_aload_n Z dX7_make_16 rfl ?_
            refine m_ref_mn Z in6 lk7 dX7_make_17 ?_
            refine g_iload_n Z dX7_make_20 rfl ?_
            refine m_ald_mn Z ho dX7_make_21 (by exact vp_in_nI (by omega) (by decide)) ?_
            rw [nI_clamp (by omega), ema]
            refine g_icmp_lt Z 36 dX7_make_22 (by decide) (fun h22 => ?_) (fun h22 => absurd (nI_lt hi1 (by omega)) h22)
            refine g_iload Z dX7_make_36 rfl ?_
            refine g_aload_n Z dX7_make_38 rfl ?_
            refine m_ref_mn Z in6 lk7 dX7_make_39 ?_
            refine g_iload_n Z dX7_make_42 rfl ?_
            refine m_ald_mn Z ho dX7_make_43 (by exact vp_in_nI (by omega) (by decide)) ?_
            rw [nI_clamp (by omega), ema]
            refine g_icmp_ge Z 62 dX7_make_44 (by decide) (fun h44 => absurd h44 (nI_ge hi1 (by omega))) (fun h44 => ?_)
            refine g_aload_n Z dX7_make_47 rfl ?_
            refine m_ref_ky Z in6 lk13 dX7_make_48 ?_
            refine g_bipush (v := 6) Z dX7_make_51 (by decide) ?_
            refine g_iload_n Z dX7_make_53 rfl ?_
            refine g_imul Z dX7_make_54 ?_
            refine g_iload Z dX7_make_55 rfl ?_
            refine g_iadd Z dX7_make_57 ?_
            rw [ix6]
            refine m_ald_ky Z ho dX7_make_58 (by exact vp_in_nI (by omega) (by decide)) ?_
            rw [nI_clamp (by omega), e1]
            refine g_goto Z 64 dX7_make_59 (by decide) ?_
            refine g_istore Z dX7_make_64 (by decide) ?_
            refine g_iload Z dX7_make_66 rfl ?_
            refine g_aload_n Z dX7_make_68 rfl ?_
            refine m_ref_mn Z in6 lk7 dX7_make_69 ?_
            refine g_iload_n Z dX7_make_72 rfl ?_
            refine m_ald_mn Z ho dX7_make_73 (by exact vp_in_nI (by omega) (by decide)) ?_
            rw [nI_clamp (by omega), emb]
            refine g_icmp_ge Z 92 dX7_make_74 (by decide) (fun h74 => absurd h74 (nI_ge hj1 (by omega))) (fun h74 => ?_)
            refine g_aload_n Z dX7_make_77 rfl ?_
            refine m_ref_ky Z in6 lk13 dX7_make_78 ?_
            refine g_bipush (v := 6) Z dX7_make_81 (by decide) ?_
            refine g_iload_n Z dX7_make_83 rfl ?_
            refine g_imul Z dX7_make_84 ?_
            refine g_iload Z dX7_make_85 rfl ?_
            refine g_iadd Z dX7_make_87 ?_
            rw [ix6]
            refine m_ald_ky Z ho dX7_make_88 (by exact vp_in_nI (by omega) (by decide)) ?_
            rw [nI_clamp (by omega), e2]
            refine g_goto Z 94 dX7_make_89 (by decide) ?_
            refine g_istore Z dX7_make_94 (by decide) ?_
            refine g_iload Z dX7_make_96 rfl ?_
            refine g_iload Z dX7_make_98 rfl ?_
            refine g_icmp_ge Z 108 dX7_make_100 (by decide) (fun h100 => absurd h100 (nI_ge (a := k1) (b := k2) (by omega) (by omega))) (fun h100 => ?_)
            refine g_iload Z dX7_make_103 rfl ?_
            refine g_goto Z 110 dX7_make_105 (by decide) ?_
            refine g_istore Z dX7_make_110 (by decide) ?_
            refine g_aload_n Z dX7_make_112 rfl ?_
            refine g_iload_n Z dX7_make_113 rfl ?_
            refine g_iload Z dX7_make_114 rfl ?_
            refine g_iload Z dX7_make_116 rfl ?_
            refine g_iload Z dX7_make_118 rfl ?_
            refine g_icmp_ne Z 133 dX7_make_120 (by decide) (fun h120 => absurd (rfl) h120) (fun h120 => ?_)
            refine g_bipush (v := 6) Z dX7_make_123 (by decide) ?_
            refine g_iload_n Z dX7_make_125 rfl ?_
            refine g_imul Z dX7_make_126 ?_
            refine g_iload Z dX7_make_127 rfl ?_
            refine g_iadd Z dX7_make_129 ?_
            rw [ix6]
            refine g_goto Z 134 dX7_make_130 (by decide) ?_
            refine g_iload Z dX7_make_134 rfl ?_
            refine g_iload Z dX7_make_136 rfl ?_
            refine g_icmp_ne Z 151 dX7_make_138 (by decide) (fun h138 => ?_) (fun h138 => absurd h138 (ne_nI (a := k2) (b := k1) (by omega) (by omega) (by omega)))
            refine g_iconst (v := (-1)) Z dX7_make_151 (by decide) ?_
            refine g_cvI Z (c_X7_makeOne F.l F.D F.cy F.nw A x ho _ _ hE n1 hn1 en1 hg1 _ k1 (by omega) _ _ (Or.inr ⟨_, by omega, rfl⟩) (Or.inl rfl)) 4 gX7_make_X7_makeOne rfl (by decide +kernel) (by rw [hRf, hRl]; decide) (by exact mP_x) (κ := 6) (by exact mP_Kx) rfl (by decide) rfl rfl (Nat.le_of_ble_eq_true rfl) dX7_make_152 (by rw [hRc, hRs]; omega) (fun r T hp => ?_)
            obtain ⟨-, E2, rfl, s1, s2, s3⟩ := hp
            refine g_if_ne Z 160 dX7_make_155 (by decide) (fun h155 => ?_) (fun h155 => ?_)
            · refine g_iload Z dX7_make_160 rfl ?_
              refine g_iload Z dX7_make_162 rfl ?_
              refine g_iload Z dX7_make_164 rfl ?_
              refine g_icmp_ne Z 173 dX7_make_166 (by decide) (fun h166 => absurd (rfl) h166) (fun h166 => ?_)
              refine g_iconst (v := 1) Z dX7_make_169 (by decide) ?_
              refine g_goto Z 174 dX7_make_170 (by decide) ?_
              refine g_iadd Z dX7_make_174 ?_
              rw [nI_1]
              refine g_istore Z dX7_make_175 (by decide) ?_
              refine g_iload Z dX7_make_177 rfl ?_
              refine g_iload Z dX7_make_179 rfl ?_
              refine g_iload Z dX7_make_181 rfl ?_
              refine g_icmp_ne Z 190 dX7_make_183 (by decide) (fun h183 => ?_) (fun h183 => absurd h183 (ne_nI (a := k2) (b := k1) (by omega) (by omega) (by omega)))
              refine g_iconst (v := 0) Z dX7_make_190 (by decide) ?_
              refine g_iadd Z dX7_make_191 ?_
              rw [add0]
              refine g_istore Z dX7_make_192 (by decide) ?_
              refine g_goto Z 14 dX7_make_194 (by decide) ?_
              exact g_lv (by (repeat (first | exact trivial | refine And.intro rfl ?_)); done) (ih (i + 1) j E2 (by omega) ⟨by omega, by omega, hS.tr s1, s2, s3⟩)
            · refine g_iconst (v := 0) Z dX7_make_158 (by decide) ?_
              exact g_zret Z dX7_make_159 (by rfl) (by omega) (by omega) (⟨Or.inl rfl, E2, rfl, hS.tr s1, s2, s3⟩)
          · subst hk
            refine g_iload Z dX7_make_14 rfl ?_
            refine g_aload_n Z dX7_make_16 rfl ?_
            refine m_ref_mn Z in6 lk7 dX7_make_17 ?_
            refine g_iload_n Z dX7_make_20 rfl ?_
            refine m_ald_mn Z ho dX7_make_21 (by exact vp_in_nI (by omega) (by decide)) ?_
            rw [nI_clamp (by omega), ema]
            refine g_icmp_lt Z 36 dX7_make_22 (by decide) (fun h22 => ?_) (fun h22 => absurd (nI_lt hi1 (by omega)) h22)
            refine g_iload Z dX7_make_36 rfl ?_
            refine g_aload_n Z dX7_make_38 rfl ?_
            refine m_ref_mn Z in6 lk7 dX7_make_39 ?_
            refine g_iload_n Z dX7_make_42 rfl ?_
            refine m_ald_mn Z ho dX7_make_43 (by exact vp_in_nI (by omega) (by decide)) ?_
            rw [nI_clamp (by omega), ema]
            refine g_icmp_ge Z 62 dX7_make_44 (by decide) (fun h44 => absurd h44 (nI_ge hi1 (by omega))) (fun h44 => ?_)
            refine g_aload_n Z dX7_make_47 rfl ?_
            refine m_ref_ky Z in6 lk13 dX7_make_48 ?_
            refine g_bipush (v := 6) Z dX7_make_51 (by decide) ?_
            refine g_iload_n Z dX7_make_53 rfl ?_
            refine g_imul Z dX7_make_54 ?_
            refine g_iload Z dX7_make_55 rfl ?_
            refine g_iadd Z dX7_make_57 ?_
            rw [ix6]
            refine m_ald_ky Z ho dX7_make_58 (by exact vp_in_nI (by omega) (by decide)) ?_
            rw [nI_clamp (by omega), e1]
            refine g_goto Z 64 dX7_make_59 (by decide) ?_
            refine g_istore Z dX7_make_64 (by decide) ?_
            refine g_iload Z dX7_make_66 rfl ?_
            refine g_aload_n Z dX7_make_68 rfl ?_
            refine m_ref_mn Z in6 lk7 dX7_make_69 ?_
            refine g_iload_n Z dX7_make_72 rfl ?_
            refine m_ald_mn Z ho dX7_make_73 (by exact vp_in_nI (by omega) (by decide)) ?_
            rw [nI_clamp (by omega), emb]
            refine g_icmp_ge Z 92 dX7_make_74 (by decide) (fun h74 => absurd h74 (nI_ge hj1 (by omega))) (fun h74 => ?_)
            refine g_aload_n Z dX7_make_77 rfl ?_
            refine m_ref_ky Z in6 lk13 dX7_make_78 ?_
            refine g_bipush (v := 6) Z dX7_make_81 (by decide) ?_
            refine g_iload_n Z dX7_make_83 rfl ?_
            refine g_imul Z dX7_make_84 ?_
            refine g_iload Z dX7_make_85 rfl ?_
            refine g_iadd Z dX7_make_87 ?_
            rw [ix6]
            refine m_ald_ky Z ho dX7_make_88 (by exact vp_in_nI (by omega) (by decide)) ?_
            rw [nI_clamp (by omega), e2]
            refine g_goto Z 94 dX7_make_89 (by decide) ?_
            refine g_istore Z dX7_make_94 (by decide) ?_
            refine g_iload Z dX7_make_96 rfl ?_
            refine g_iload Z dX7_make_98 rfl ?_
            refine g_icmp_ge Z 108 dX7_make_100 (by decide) (fun h100 => ?_) (fun h100 => absurd (nI_le (a := k1) (b := k1) (by omega) (by omega)) h100)
            refine g_iload Z dX7_make_108 rfl ?_
            refine g_istore Z dX7_make_110 (by decide) ?_
            refine g_aload_n Z dX7_make_112 rfl ?_
            refine g_iload_n Z dX7_make_113 rfl ?_
            refine g_iload Z dX7_make_114 rfl ?_
            refine g_iload Z dX7_make_116 rfl ?_
            refine g_iload Z dX7_make_118 rfl ?_
            refine g_icmp_ne Z 133 dX7_make_120 (by decide) (fun h120 => absurd (rfl) h120) (fun h120 => ?_)
            refine g_bipush (v := 6) Z dX7_make_123 (by decide) ?_
            refine g_iload_n Z dX7_make_125 rfl ?_
            refine g_imul Z dX7_make_126 ?_
            refine g_iload Z dX7_make_127 rfl ?_
            refine g_iadd Z dX7_make_129 ?_
            rw [ix6]
            refine g_goto Z 134 dX7_make_130 (by decide) ?_
            refine g_iload Z dX7_make_134 rfl ?_
            refine g_iload Z dX7_make_136 rfl ?_
            refine g_icmp_ne Z 151 dX7_make_138 (by decide) (fun h138 => absurd (rfl) h138) (fun h138 => ?_)
            refine g_bipush (v := 6) Z dX7_make_141 (by decide) ?_
            refine g_iload_n Z dX7_make_143 rfl ?_
            refine g_imul Z dX7_make_144 ?_
            refine g_iload Z dX7_make_145 rfl ?_
            refine g_iadd Z dX7_make_147 ?_
            rw [ix6]
            refine g_goto Z 152 dX7_make_148 (by decide) ?_
            refine g_cvI Z (c_X7_makeOne F.l F.D F.cy F.nw A x ho _ _ hE n1 hn1 en1 hg1 _ k1 (by omega) _ _ (Or.inr ⟨_, by omega, rfl⟩) (Or.inr ⟨_, by omega, rfl⟩)) 4 gX7_make_X7_makeOne rfl (by decide +kernel) (by rw [hRf, hRl]; decide) (by exact mP_x) (κ := 6) (by exact mP_Kx) rfl (by decide) rfl rfl (Nat.le_of_ble_eq_true rfl) dX7_make_152 (by rw [hRc, hRs]; omega) (fun r T hp => ?_)
            obtain ⟨-, E2, rfl, s1, s2, s3⟩ := hp
            refine g_if_ne Z 160 dX7_make_155 (by decide) (fun h155 => ?_) (fun h155 => ?_)
            · refine g_iload Z dX7_make_160 rfl ?_
              refine g_iload Z dX7_make_162 rfl ?_
              refine g_iload Z dX7_make_164 rfl ?_
              refine g_icmp_ne Z 173 dX7_make_166 (by decide) (fun h166 => absurd (rfl) h166) (fun h166 => ?_)
              refine g_iconst (v := 1) Z dX7_make_169 (by decide) ?_
              refine g_goto Z 174 dX7_make_170 (by decide) ?_
              refine g_iadd Z dX7_make_174 ?_
              rw [nI_1]
              refine g_istore Z dX7_make_175 (by decide) ?_
              refine g_iload Z dX7_make_177 rfl ?_
              refine g_iload Z dX7_make_179 rfl ?_
              refine g_iload Z dX7_make_181 rfl ?_
              refine g_icmp_ne Z 190 dX7_make_183 (by decide) (fun h183 => absurd (rfl) h183) (fun h183 => ?_)
              refine g_iconst (v := 1) Z dX7_make_186 (by decide) ?_
              refine g_goto Z 191 dX7_make_187 (by decide) ?_
              refine g_iadd Z dX7_make_191 ?_
              rw [nI_1]
              refine g_istore Z dX7_make_192 (by decide) ?_
              refine g_goto Z 14 dX7_make_194 (by decide) ?_
              exact g_lv (by (repeat (first | exact trivial | refine And.intro rfl ?_)); done) (ih (i + 1) (j + 1) E2 (by omega) ⟨by omega, by omega, hS.tr s1, s2, s3⟩)
            · refine g_iconst (v := 0) Z dX7_make_158 (by decide) ?_
              exact g_zret Z dX7_make_159 (by rfl) (by omega) (by omega) (⟨Or.inl rfl, E2, rfl, hS.tr s1, s2, s3⟩)
          · refine g_iload Z dX7_make_14 rfl ?_
            refine g_aload_n Z dX7_make_16 rfl ?_
            refine m_ref_mn Z in6 lk7 dX7_make_17 ?_
            refine g_iload_n Z dX7_make_20 rfl ?_
            refine m_ald_mn Z ho dX7_make_21 (by exact vp_in_nI (by omega) (by decide)) ?_
            rw [nI_clamp (by omega), ema]
            refine g_icmp_lt Z 36 dX7_make_22 (by decide) (fun h22 => ?_) (fun h22 => absurd (nI_lt hi1 (by omega)) h22)
            refine g_iload Z dX7_make_36 rfl ?_
            refine g_aload_n Z dX7_make_38 rfl ?_
            refine m_ref_mn Z in6 lk7 dX7_make_39 ?_
            refine g_iload_n Z dX7_make_42 rfl ?_
            refine m_ald_mn Z ho dX7_make_43 (by exact vp_in_nI (by omega) (by decide)) ?_
            rw [nI_clamp (by omega), ema]
            refine g_icmp_ge Z 62 dX7_make_44 (by decide) (fun h44 => absurd h44 (nI_ge hi1 (by omega))) (fun h44 => ?_)
            refine g_aload_n Z dX7_make_47 rfl ?_
            refine m_ref_ky Z in6 lk13 dX7_make_48 ?_
            refine g_bipush (v := 6) Z dX7_make_51 (by decide) ?_
            refine g_iload_n Z dX7_make_53 rfl ?_
            refine g_imul Z dX7_make_54 ?_
            refine g_iload Z dX7_make_55 rfl ?_
            refine g_iadd Z dX7_make_57 ?_
            rw [ix6]
            refine m_ald_ky Z ho dX7_make_58 (by exact vp_in_nI (by omega) (by decide)) ?_
            rw [nI_clamp (by omega), e1]
            refine g_goto Z 64 dX7_make_59 (by decide) ?_
            refine g_istore Z dX7_make_64 (by decide) ?_
            refine g_iload Z dX7_make_66 rfl ?_
            refine g_aload_n Z dX7_make_68 rfl ?_
            refine m_ref_mn Z in6 lk7 dX7_make_69 ?_
            refine g_iload_n Z dX7_make_72 rfl ?_
            refine m_ald_mn Z ho dX7_make_73 (by exact vp_in_nI (by omega) (by decide)) ?_
            rw [nI_clamp (by omega), emb]
            refine g_icmp_ge Z 92 dX7_make_74 (by decide) (fun h74 => absurd h74 (nI_ge hj1 (by omega))) (fun h74 => ?_)
            refine g_aload_n Z dX7_make_77 rfl ?_
            refine m_ref_ky Z in6 lk13 dX7_make_78 ?_
            refine g_bipush (v := 6) Z dX7_make_81 (by decide) ?_
            refine g_iload_n Z dX7_make_83 rfl ?_
            refine g_imul Z dX7_make_84 ?_
            refine g_iload Z dX7_make_85 rfl ?_
            refine g_iadd Z dX7_make_87 ?_
            rw [ix6]
            refine m_ald_ky Z ho dX7_make_88 (by exact vp_in_nI (by omega) (by decide)) ?_
            rw [nI_clamp (by omega), e2]
            refine g_goto Z 94 dX7_make_89 (by decide) ?_
            refine g_istore Z dX7_make_94 (by decide) ?_
            refine g_iload Z dX7_make_96 rfl ?_
            refine g_iload Z dX7_make_98 rfl ?_
            refine g_icmp_ge Z 108 dX7_make_100 (by decide) (fun h100 => ?_) (fun h100 => absurd (nI_le (a := k2) (b := k1) (by omega) (by omega)) h100)
            refine g_iload Z dX7_make_108 rfl ?_
            refine g_istore Z dX7_make_110 (by decide) ?_
            refine g_aload_n Z dX7_make_112 rfl ?_
            refine g_iload_n Z dX7_make_113 rfl ?_
            refine g_iload Z dX7_make_114 rfl ?_
            refine g_iload Z dX7_make_116 rfl ?_
            refine g_iload Z dX7_make_118 rfl ?_
            refine g_icmp_ne Z 133 dX7_make_120 (by decide) (fun h120 => ?_) (fun h120 => absurd h120 (ne_nI (a := k1) (b := k2) (by omega) (by omega) (by omega)))
            refine g_iconst (v := (-1)) Z dX7_make_133 (by decide) ?_
            refine g_iload Z dX7_make_134 rfl ?_
            refine g_iload Z dX7_make_136 rfl ?_
            refine g_icmp_ne Z 151 dX7_make_138 (by decide) (fun h138 => absurd (rfl) h138) (fun h138 => ?_)
            refine g_bipush (v := 6) Z dX7_make_141 (by decide) ?_
            refine g_iload_n Z dX7_make_143 rfl ?_
            refine g_imul Z dX7_make_144 ?_
            refine g_iload Z dX7_make_145 rfl ?_
            refine g_iadd Z dX7_make_147 ?_
            rw [ix6]
            refine g_goto Z 152 dX7_make_148 (by decide) ?_
            refine g_cvI Z (c_X7_makeOne F.l F.D F.cy F.nw A x ho _ _ hE n1 hn1 en1 hg1 _ k2 (by omega) _ _ (Or.inl rfl) (Or.inr ⟨_, by omega, rfl⟩)) 4 gX7_make_X7_makeOne rfl (by decide +kernel) (by rw [hRf, hRl]; decide) (by exact mP_x) (κ := 6) (by exact mP_Kx) rfl (by decide) rfl rfl (Nat.le_of_ble_eq_true rfl) dX7_make_152 (by rw [hRc, hRs]; omega) (fun r T hp => ?_)
            obtain ⟨-, E2, rfl, s1, s2, s3⟩ := hp
            refine g_if_ne Z 160 dX7_make_155 (by decide) (fun h155 => ?_) (fun h155 => ?_)
            · refine g_iload Z dX7_make_160 rfl ?_
              refine g_iload Z dX7_make_162 rfl ?_
              refine g_iload Z dX7_make_164 rfl ?_
              refine g_icmp_ne Z 173 dX7_make_166 (by decide) (fun h166 => ?_) (fun h166 => absurd h166 (ne_nI (a := k1) (b := k2) (by omega) (by omega) (by omega)))
              refine g_iconst (v := 0) Z dX7_make_173 (by decide) ?_
              refine g_iadd Z dX7_make_174 ?_
              rw [add0]
              refine g_istore Z dX7_make_175 (by decide) ?_
              refine g_iload Z dX7_make_177 rfl ?_
              refine g_iload Z dX7_make_179 rfl ?_
              refine g_iload Z dX7_make_181 rfl ?_
              refine g_icmp_ne Z 190 dX7_make_183 (by decide) (fun h183 => absurd (rfl) h183) (fun h183 => ?_)
              refine g_iconst (v := 1) Z dX7_make_186 (by decide) ?_
              refine g_goto Z 191 dX7_make_187 (by decide) ?_
              refine g_iadd Z dX7_make_191 ?_
              rw [nI_1]
              refine g_istore Z dX7_make_192 (by decide) ?_
              refine g_goto Z 14 dX7_make_194 (by decide) ?_
              exact g_lv (by (repeat (first | exact trivial | refine And.intro rfl ?_)); done) (ih i (j + 1) E2 (by omega) ⟨by omega, by omega, hS.tr s1, s2, s3⟩)
            · refine g_iconst (v := 0) Z dX7_make_158 (by decide) ?_
              exact g_zret Z dX7_make_159 (by rfl) (by omega) (by omega) (⟨Or.inl rfl, E2, rfl, hS.tr s1, s2, s3⟩)
        · refine g_iload Z dX7_make_14 rfl ?_
          refine g_aload_n Z dX7_make_16 rfl ?_
          refine m_ref_mn Z in6 lk7 dX7_make_17 ?_
          refine g_iload_n Z dX7_make_20 rfl ?_
          refine m_ald_mn Z ho dX7_make_21 (by exact vp_in_nI (by omega) (by decide)) ?_
          rw [nI_clamp (by omega), ema]
          refine g_icmp_lt Z 36 dX7_make_22 (by decide) (fun h22 => ?_) (fun h22 => absurd (nI_lt hi1 (by omega)) h22)
          refine g_iload Z dX7_make_36 rfl ?_
          refine g_aload_n Z dX7_make_38 rfl ?_
          refine m_ref_mn Z in6 lk7 dX7_make_39 ?_
          refine g_iload_n Z dX7_make_42 rfl ?_
          refine m_ald_mn Z ho dX7_make_43 (by exact vp_in_nI (by omega) (by decide)) ?_
          rw [nI_clamp (by omega), ema]
          refine g_icmp_ge Z 62 dX7_make_44 (by decide) (fun h44 => absurd h44 (nI_ge hi1 (by omega))) (fun h44 => ?_)
          refine g_aload_n Z dX7_make_47 rfl ?_
          refine m_ref_ky Z in6 lk13 dX7_make_48 ?_
          refine g_bipush (v := 6) Z dX7_make_51 (by decide) ?_
          refine g_iload_n Z dX7_make_53 rfl ?_
          refine g_imul Z dX7_make_54 ?_
          refine g_iload Z dX7_make_55 rfl ?_
          refine g_iadd Z dX7_make_57 ?_
          rw [ix6]
          refine m_ald_ky Z ho dX7_make_58 (by exact vp_in_nI (by omega) (by decide)) ?_
          rw [nI_clamp (by omega), e1]
          refine g_goto Z 64 dX7_make_59 (by decide) ?_
          refine g_istore Z dX7_make_64 (by decide) ?_
          refine g_iload Z dX7_make_66 rfl ?_
          refine g_aload_n Z dX7_make_68 rfl ?_
          refine m_ref_mn Z in6 lk7 dX7_make_69 ?_
          refine g_iload_n Z dX7_make_72 rfl ?_
          refine m_ald_mn Z ho dX7_make_73 (by exact vp_in_nI (by omega) (by decide)) ?_
          rw [nI_clamp (by omega), emb]
          refine g_icmp_ge Z 92 dX7_make_74 (by decide) (fun h74 => ?_) (fun h74 => absurd (nI_le (by omega) (by omega)) h74)
          refine g_ldc (v := 65536) Z dX7_make_92 ct107 ?_
          refine g_istore Z dX7_make_94 (by decide) ?_
          refine g_iload Z dX7_make_96 rfl ?_
          refine g_iload Z dX7_make_98 rfl ?_
          refine g_icmp_ge Z 108 dX7_make_100 (by decide) (fun h100 => absurd h100 (nI_ge (a := k1) (b := 65536) (by omega) (by omega))) (fun h100 => ?_)
          refine g_iload Z dX7_make_103 rfl ?_
          refine g_goto Z 110 dX7_make_105 (by decide) ?_
          refine g_istore Z dX7_make_110 (by decide) ?_
          refine g_aload_n Z dX7_make_112 rfl ?_
          refine g_iload_n Z dX7_make_113 rfl ?_
          refine g_iload Z dX7_make_114 rfl ?_
          refine g_iload Z dX7_make_116 rfl ?_
          refine g_iload Z dX7_make_118 rfl ?_
          refine g_icmp_ne Z 133 dX7_make_120 (by decide) (fun h120 => absurd (rfl) h120) (fun h120 => ?_)
          refine g_bipush (v := 6) Z dX7_make_123 (by decide) ?_
          refine g_iload_n Z dX7_make_125 rfl ?_
          refine g_imul Z dX7_make_126 ?_
          refine g_iload Z dX7_make_127 rfl ?_
          refine g_iadd Z dX7_make_129 ?_
          rw [ix6]
          refine g_goto Z 134 dX7_make_130 (by decide) ?_
          refine g_iload Z dX7_make_134 rfl ?_
          refine g_iload Z dX7_make_136 rfl ?_
          refine g_icmp_ne Z 151 dX7_make_138 (by decide) (fun h138 => ?_) (fun h138 => absurd h138 (ne_nI (a := 65536) (b := k1) (by omega) (by omega) (by omega)))
          refine g_iconst (v := (-1)) Z dX7_make_151 (by decide) ?_
          refine g_cvI Z (c_X7_makeOne F.l F.D F.cy F.nw A x ho _ _ hE n1 hn1 en1 hg1 _ k1 (by omega) _ _ (Or.inr ⟨_, by omega, rfl⟩) (Or.inl rfl)) 4 gX7_make_X7_makeOne rfl (by decide +kernel) (by rw [hRf, hRl]; decide) (by exact mP_x) (κ := 6) (by exact mP_Kx) rfl (by decide) rfl rfl (Nat.le_of_ble_eq_true rfl) dX7_make_152 (by rw [hRc, hRs]; omega) (fun r T hp => ?_)
          obtain ⟨-, E2, rfl, s1, s2, s3⟩ := hp
          refine g_if_ne Z 160 dX7_make_155 (by decide) (fun h155 => ?_) (fun h155 => ?_)
          · refine g_iload Z dX7_make_160 rfl ?_
            refine g_iload Z dX7_make_162 rfl ?_
            refine g_iload Z dX7_make_164 rfl ?_
            refine g_icmp_ne Z 173 dX7_make_166 (by decide) (fun h166 => absurd (rfl) h166) (fun h166 => ?_)
            refine g_iconst (v := 1) Z dX7_make_169 (by decide) ?_
            refine g_goto Z 174 dX7_make_170 (by decide) ?_
            refine g_iadd Z dX7_make_174 ?_
            rw [nI_1]
            refine g_istore Z dX7_make_175 (by decide) ?_
            refine g_iload Z dX7_make_177 rfl ?_
            refine g_iload Z dX7_make_179 rfl ?_
            refine g_iload Z dX7_make_181 rfl ?_
            refine g_icmp_ne Z 190 dX7_make_183 (by decide) (fun h183 => ?_) (fun h183 => absurd h183 (ne_nI (a := 65536) (b := k1) (by omega) (by omega) (by omega)))
            refine g_iconst (v := 0) Z dX7_make_190 (by decide) ?_
            refine g_iadd Z dX7_make_191 ?_
            rw [add0]
            refine g_istore Z dX7_make_192 (by decide) ?_
            refine g_goto Z 14 dX7_make_194 (by decide) ?_
            exact g_lv (by (repeat (first | exact trivial | refine And.intro rfl ?_)); done) (ih (i + 1) j E2 (by omega) ⟨by omega, by omega, hS.tr s1, s2, s3⟩)
          · refine g_iconst (v := 0) Z dX7_make_158 (by decide) ?_
            exact g_zret Z dX7_make_159 (by rfl) (by omega) (by omega) (⟨Or.inl rfl, E2, rfl, hS.tr s1, s2, s3⟩)
      · by_cases hj1 : j < nb
        · obtain ⟨k2, hk2, e2⟩ := hE.keyk (i := 6 * b + j) (by omega)
          refine g_iload Z dX7_make_14 rfl ?_
          refine g_aload_n Z dX7_make_16 rfl ?_
          refine m_ref_mn Z in6 lk7 dX7_make_17 ?_
          refine g_iload_n Z dX7_make_20 rfl ?_
          refine m_ald_mn Z ho dX7_make_21 (by exact vp_in_nI (by omega) (by decide)) ?_
          rw [nI_clamp (by omega), ema]
          refine g_icmp_lt Z 36 dX7_make_22 (by decide) (fun h22 => absurd h22 (nI_nlt (by omega) (by omega))) (fun h22 => ?_)
          refine g_iload Z dX7_make_25 rfl ?_
          refine g_aload_n Z dX7_make_27 rfl ?_
          refine m_ref_mn Z in6 lk7 dX7_make_28 ?_
          refine g_iload_n Z dX7_make_31 rfl ?_
          refine m_ald_mn Z ho dX7_make_32 (by exact vp_in_nI (by omega) (by decide)) ?_
          rw [nI_clamp (by omega), emb]
          refine g_icmp_ge Z 197 dX7_make_33 (by decide) (fun h33 => absurd h33 (nI_ge hj1 (by omega))) (fun h33 => ?_)
          refine g_iload Z dX7_make_36 rfl ?_
          refine g_aload_n Z dX7_make_38 rfl ?_
          refine m_ref_mn Z in6 lk7 dX7_make_39 ?_
          refine g_iload_n Z dX7_make_42 rfl ?_
          refine m_ald_mn Z ho dX7_make_43 (by exact vp_in_nI (by omega) (by decide)) ?_
          rw [nI_clamp (by omega), ema]
          refine g_icmp_ge Z 62 dX7_make_44 (by decide) (fun h44 => ?_) (fun h44 => absurd (nI_le (by omega) (by omega)) h44)
          refine g_ldc (v := 65536) Z dX7_make_62 ct107 ?_
          refine g_istore Z dX7_make_64 (by decide) ?_
          refine g_iload Z dX7_make_66 rfl ?_
          refine g_aload_n Z dX7_make_68 rfl ?_
          refine m_ref_mn Z in6 lk7 dX7_make_69 ?_
          refine g_iload_n Z dX7_make_72 rfl ?_
          refine m_ald_mn Z ho dX7_make_73 (by exact vp_in_nI (by omega) (by decide)) ?_
          rw [nI_clamp (by omega), emb]
          refine g_icmp_ge Z 92 dX7_make_74 (by decide) (fun h74 => absurd h74 (nI_ge hj1 (by omega))) (fun h74 => ?_)
          refine g_aload_n Z dX7_make_77 rfl ?_
          refine m_ref_ky Z in6 lk13 dX7_make_78 ?_
          refine g_bipush (v := 6) Z dX7_make_81 (by decide) ?_
          refine g_iload_n Z dX7_make_83 rfl ?_
          refine g_imul Z dX7_make_84 ?_
          refine g_iload Z dX7_make_85 rfl ?_
          refine g_iadd Z dX7_make_87 ?_
          rw [ix6]
          refine m_ald_ky Z ho dX7_make_88 (by exact vp_in_nI (by omega) (by decide)) ?_
          rw [nI_clamp (by omega), e2]
          refine g_goto Z 94 dX7_make_89 (by decide) ?_
          refine g_istore Z dX7_make_94 (by decide) ?_
          refine g_iload Z dX7_make_96 rfl ?_
          refine g_iload Z dX7_make_98 rfl ?_
          refine g_icmp_ge Z 108 dX7_make_100 (by decide) (fun h100 => ?_) (fun h100 => absurd (nI_le (a := k2) (b := 65536) (by omega) (by omega)) h100)
          refine g_iload Z dX7_make_108 rfl ?_
          refine g_istore Z dX7_make_110 (by decide) ?_
          refine g_aload_n Z dX7_make_112 rfl ?_
          refine g_iload_n Z dX7_make_113 rfl ?_
          refine g_iload Z dX7_make_114 rfl ?_
          refine g_iload Z dX7_make_116 rfl ?_
          refine g_iload Z dX7_make_118 rfl ?_
          refine g_icmp_ne Z 133 dX7_make_120 (by decide) (fun h120 => ?_) (fun h120 => absurd h120 (ne_nI (a := 65536) (b := k2) (by omega) (by omega) (by omega)))
          refine g_iconst (v := (-1)) Z dX7_make_133 (by decide) ?_
          refine g_iload Z dX7_make_134 rfl ?_
          refine g_iload Z dX7_make_136 rfl ?_
          refine g_icmp_ne Z 151 dX7_make_138 (by decide) (fun h138 => absurd (rfl) h138) (fun h138 => ?_)
          refine g_bipush (v := 6) Z dX7_make_141 (by decide) ?_
          refine g_iload_n Z dX7_make_143 rfl ?_
          refine g_imul Z dX7_make_144 ?_
          refine g_iload Z dX7_make_145 rfl ?_
          refine g_iadd Z dX7_make_147 ?_
          rw [ix6]
          refine g_goto Z 152 dX7_make_148 (by decide) ?_
          refine g_cvI Z (c_X7_makeOne F.l F.D F.cy F.nw A x ho _ _ hE n1 hn1 en1 hg1 _ k2 (by omega) _ _ (Or.inl rfl) (Or.inr ⟨_, by omega, rfl⟩)) 4 gX7_make_X7_makeOne rfl (by decide +kernel) (by rw [hRf, hRl]; decide) (by exact mP_x) (κ := 6) (by exact mP_Kx) rfl (by decide) rfl rfl (Nat.le_of_ble_eq_true rfl) dX7_make_152 (by rw [hRc, hRs]; omega) (fun r T hp => ?_)
          obtain ⟨-, E2, rfl, s1, s2, s3⟩ := hp
          refine g_if_ne Z 160 dX7_make_155 (by decide) (fun h155 => ?_) (fun h155 => ?_)
          · refine g_iload Z dX7_make_160 rfl ?_
            refine g_iload Z dX7_make_162 rfl ?_
            refine g_iload Z dX7_make_164 rfl ?_
            refine g_icmp_ne Z 173 dX7_make_166 (by decide) (fun h166 => ?_) (fun h166 => absurd h166 (ne_nI (a := 65536) (b := k2) (by omega) (by omega) (by omega)))
            refine g_iconst (v := 0) Z dX7_make_173 (by decide) ?_
            refine g_iadd Z dX7_make_174 ?_
            rw [add0]
            refine g_istore Z dX7_make_175 (by decide) ?_
            refine g_iload Z dX7_make_177 rfl ?_
            refine g_iload Z dX7_make_179 rfl ?_
            refine g_iload Z dX7_make_181 rfl ?_
            refine g_icmp_ne Z 190 dX7_make_183 (by decide) (fun h183 => absurd (rfl) h183) (fun h183 => ?_)
            refine g_iconst (v := 1) Z dX7_make_186 (by decide) ?_
            refine g_goto Z 191 dX7_make_187 (by decide) ?_
            refine g_iadd Z dX7_make_191 ?_
            rw [nI_1]
            refine g_istore Z dX7_make_192 (by decide) ?_
            refine g_goto Z 14 dX7_make_194 (by decide) ?_
            exact g_lv (by (repeat (first | exact trivial | refine And.intro rfl ?_)); done) (ih i (j + 1) E2 (by omega) ⟨by omega, by omega, hS.tr s1, s2, s3⟩)
          · refine g_iconst (v := 0) Z dX7_make_158 (by decide) ?_
            exact g_zret Z dX7_make_159 (by rfl) (by omega) (by omega) (⟨Or.inl rfl, E2, rfl, hS.tr s1, s2, s3⟩)
        · refine g_iload Z dX7_make_14 rfl ?_
          refine g_aload_n Z dX7_make_16 rfl ?_
          refine m_ref_mn Z in6 lk7 dX7_make_17 ?_
          refine g_iload_n Z dX7_make_20 rfl ?_
          refine m_ald_mn Z ho dX7_make_21 (by exact vp_in_nI (by omega) (by decide)) ?_
          rw [nI_clamp (by omega), ema]
          refine g_icmp_lt Z 36 dX7_make_22 (by decide) (fun h22 => absurd h22 (nI_nlt (by omega) (by omega))) (fun h22 => ?_)
          refine g_iload Z dX7_make_25 rfl ?_
          refine g_aload_n Z dX7_make_27 rfl ?_
          refine m_ref_mn Z in6 lk7 dX7_make_28 ?_
          refine g_iload_n Z dX7_make_31 rfl ?_
          refine m_ald_mn Z ho dX7_make_32 (by exact vp_in_nI (by omega) (by decide)) ?_
          rw [nI_clamp (by omega), emb]
          refine g_icmp_ge Z 197 dX7_make_33 (by decide) (fun h33 => ?_) (fun h33 => absurd (nI_le (by omega) (by omega)) h33)
          refine g_iconst (v := 1) Z dX7_make_197 (by decide) ?_
          exact g_zret Z dX7_make_198 (by rfl) (by omega) (by omega) (⟨Or.inr rfl, E, rfl, hS, hE, hG⟩)
  refine g_aload_n Z dX7_make_0 rfl ?_
  refine m_ref_mn Z in6 lk7 dX7_make_1 ?_
  refine g_bipush (v := 16) Z dX7_make_4 (by decide) ?_
  refine g_iconst (v := 0) Z dX7_make_6 (by decide) ?_
  refine m_ast_mn Z ho dX7_make_7 (by exact vp_in_nI (n := 16) (by decide) (by decide)) ?_
  rw [show (16 : Int32).toNatClampNeg = 16 by decide]
  refine g_iconst (v := 0) Z dX7_make_8 (by decide) ?_
  refine g_istore Z dX7_make_9 (by decide) ?_
  refine g_iconst (v := 0) Z dX7_make_11 (by decide) ?_
  refine g_istore Z dX7_make_12 (by decide) ?_
  exact g_lv (by (repeat (first | exact trivial | refine And.intro rfl ?_)); done) (loop 13 0 0 (C.s_mn (upd C.mn 16 0)) (by omega) ⟨by omega, by omega, Ce.upd_mn, hO.s_mn (k := 0) (by omega), 0, by omega, pk_us (f := C.mn) (k := 16) (x := nI 0), fun i hi => by omega⟩)
