/-! JOINING, IN THE REFERENCE -/
theorem Mc.w {C : C5} {c : Nat} {a : Cn} (h : Mc C c a) {j : Nat} (hj : j < 1024) : C.wd (1024 * c + j) = a.2.2 j := by
  refine row_ext (f := fun i => C.wd (1024 * c + i)) (g := a.2.2) (fun l hl => ?_) j hj
  rw [← h.2.2.2 l hl, cbz]
  rfl
theorem cb_w {f g : Nat → Int64} {c : Nat} (h : ∀ j, j < 1024 → f (1024 * c + j) = g j) {l : Nat} (hl : l < 65536) : cb f c l = cb g 0 l := by
  rw [cbz]
  unfold cb
  rw [h _ (by omega)]
theorem tot_nz {W : Nat → Int64} (h : ¬ 0 < tot W) : ∀ j, j < 1024 → W j = 0 := by
  refine row_ext (g := zW) (fun l hl => ?_)
  rw [zW_bit]
  rcases (show cb W 0 l = 0 ∨ cb W 0 l = 1 by have := cb_le W 0 l; omega) with e | e
  · exact e
  · exact absurd (tot_pos hl e) h
theorem tot_n0 {W : Nat → Int64} (h : ∀ j, j < 1024 → W j = 0) : tot W = 0 := (tot_congr (V := zW) h).trans tot_zW
/-- no container, or one of a set that may be joined -/
def Ao (C : C5) (y : Int32) (o : Option Cn) : Prop := (y = -1 ∧ o = none) ∨ ∃ c v, c < 96 ∧ y = nI c ∧ o = some v ∧ Mc C c v
def wo (o : Option Cn) : Nat → Int64 := match o with
  | none => zW
  | some v => v.2.2
def jW (x : Int32) (oa ob : Option Cn) : Nat → Int64 := fun j => mxW x (wo oa j) (wo ob j)
def lk (W : Nat → Int64) (o : Option Cn) : Prop := ∃ v, o = some v ∧ ∀ j, j < 1024 → W j = v.2.2 j
/-- the kind that a joined container gets -/
def jKd (x : Int32) (oa ob : Option Cn) (k : Int32) : Prop := (∃ v, oa = some v ∧ (∀ j, j < 1024 → jW x oa ob j = v.2.2 j) ∧ k = v.2.1) ∨ (¬ lk (jW x oa ob) oa ∧ ((∃ v, ob = some v ∧ (∀ j, j < 1024 → jW x oa ob j = v.2.2 j) ∧ k = v.2.1) ∨ (¬ lk (jW x oa ob) ob ∧ k = plK (nI (tot (jW x oa ob))))))
theorem Ao.mq {C E : C5} {y : Int32} {o : Option Cn} (h : Ao C y o) (hq : ∀ c, c < 96 → Mq C c E c) : Ao E y o := by
  rcases h with h | ⟨c, v, h1, h2, h3, h4⟩
  · exact Or.inl h
  · exact Or.inr ⟨c, v, h1, h2, h3, (hq c h1).mc h4⟩
theorem Me.mq {C E : C5} (h : Me 16 C E) : ∀ c, c < 96 → Mq C c E c := by
  intro c hc
  have := (h (c / 6) (by omega) (by omega)).2 (c % 6) (by omega)
  rw [show 6 * (c / 6) + c % 6 = c by omega] at this
  exact this
theorem Ao.nn {C : C5} {y : Int32} {o : Option Cn} (h : Ao C y o) (h0 : ¬ y = -1) : ∃ c v, c < 96 ∧ y = nI c ∧ o = some v ∧ Mc C c v := h.resolve_left (fun q => h0 q.1)
theorem Ao.no {C : C5} {o : Option Cn} (h : Ao C (-1) o) : o = none := by
  rcases h with h | ⟨c, v, h1, h2, -⟩
  · exact h.2
  · exact absurd h2.symm (nI_nm1 (by omega))
theorem Ms.congr {C : C5} {s : Nat} {V W : Sv} (h : Ms C s V) (h1 : V.1 = W.1) (h2 : ∀ i, i < V.1 → V.2 i = W.2 i) : Ms C s W := ⟨by rw [← h1]; exact h.1, by rw [← h1]; exact h.2.1, fun i hi => by rw [← h2 i (by omega)]; exact h.2.2 i (by omega)⟩
theorem psh_put {V : Sv} {a b : Cn} : (V.psh a).put V.1 b = V.psh b := by
  refine sv_ext rfl (fun k => ?_)
  show (if k = V.1 then b else if k = V.1 then a else V.2 k) = (if k = V.1 then b else V.2 k)
  by_cases e : k = V.1
  · rw [if_pos e, if_pos e]
  · rw [if_neg e, if_neg e, if_neg e]
theorem psh_at {V : Sv} {a : Cn} : (V.psh a).2 V.1 = a := if_pos rfl
theorem Ms.ip {C : C5} {s : Nat} {V : Sv} {a : Cn} (h : Ms C s (V.ins V.1 a)) : Ms C s (V.psh a) := h.congr rfl (fun i hi => by
  have hi2 : i < V.1 + 1 := hi
  show (if i < V.1 then V.2 i else if i = V.1 then a else V.2 (i - 1)) = (if i = V.1 then a else V.2 i)
  by_cases e : i = V.1
  · rw [if_neg (by omega), if_pos e, if_pos e]
  · rw [if_pos (by omega), if_neg e])
theorem Ms.pd {C : C5} {s : Nat} {V : Sv} {a : Cn} (h : Ms C s ((V.psh a).del V.1)) : Ms C s V := h.congr rfl (fun i hi => by
  have hi2 : i < V.1 + 1 - 1 := hi
  show (if i < V.1 then (if i = V.1 then a else V.2 i) else _) = V.2 i
  rw [if_pos (by omega), if_neg (by omega)])
theorem wd_stp {D E : C5} {c w : Nat} {v : Int64} (hw : w < 1024) (hC : Mb c E D) (hs : D.sz c = nI (ct D.wd c (64 * w))) :
    Mb c E ((D.s_wd (vp_updL D.wd (1024 * c + w) v)).s_sz (upd D.sz c (D.sz c + nI (pc v)))) ∧ upd D.sz c (D.sz c + nI (pc v)) c = nI (ct (vp_updL D.wd (1024 * c + w) v) c (64 * (w + 1))) := by
  refine ⟨⟨hC.1, fun d hd => ⟨(hC.2 d hd).1, (hC.2 d hd).2.1, (pk_un hd).trans (hC.2 d hd).2.2.1, fun l hl => (cb_word hw hl (Or.inl hd)).trans ((hC.2 d hd).2.2.2 l hl)⟩⟩, ?_⟩
  rw [pk_us, hs, nI_add, ct_next, pk_uLs, ct_congr (g := D.wd) (d := c) (64 * w) (fun k hk => cb_word hw (by omega) (Or.inr (by omega)))]

set_option maxRecDepth 100000 in
set_option maxHeartbeats 2000000 in
/-- whether two containers hold the same -/
theorem f_X7_isLike (l : Launch) (D : va_G) (cy : Nat → ClassId) (nw : Nat) (A : Nat → Nat) (x : Nat) (ho : mOk A x) (C : C5) (R : MR) (y : Int32) (o : Option Cn) (hy : Ao C y o) (d : Nat) (hd : d < 102) (b : Cn) (hd2 : Mc C d b) : kI l yX7_isLike wsX7_isLike 0 0 D cy nw [.ref x, .int y, .int (nI d)] (mP A x (C, R)) (fun r T => (mP A x (C, R)) = T ∧ ((r = 1 ∧ ∃ v, o = some v ∧ ∀ j, j < 1024 → b.2.2 j = v.2.2 j) ∨ (r = 0 ∧ ¬ lk b.2.2 o))) 0 0 := by
  refine enterI (cc := cX7_isLike) (nL := 4) (ret := (some .boolean)) (by decide +kernel) rfl (Nat.le_of_ble_eq_true rfl) ?_
  intro F Z hl hR hD hcy hnw hnm
  subst hl hD hcy hnw
  have hRf : F.R.frames = 0 := by rw [hR]
  have hRc : F.R.cells = 0 := by rw [hR]
  have hRs : F.R.slots = 0 := by rw [hR]
  have hRl : F.R.locals = 0 := by rw [hR]
  have in6 : ∀ w ∈ u_ws RX7 TX7 16, w ∈ wsX7_isLike := by decide +kernel
  have lk19 : Cond.fieldLink RX7 19 (TX7 3).1 (TX7 3).2.1 (TX7 3).2.2.1 ∈ wsX7_isLike := by decide +kernel
  have lk23 : Cond.fieldLink RX7 23 (TX7 4).1 (TX7 4).2.1 (TX7 4).2.2.1 ∈ wsX7_isLike := by decide +kernel
  have loop : ∀ (n : Nat) (c w : Nat) (v : Cn), 1024 - w < n → (c < 96 ∧ o = some v ∧ Mc C c v ∧ w ≤ 1024 ∧ ∀ j, j < w → b.2.2 j = v.2.2 j) → G F 4 (mP A x (C, R)) 0 0 (QI F (fun r T => (mP A x (C, R)) = T ∧ ((r = 1 ∧ ∃ v, o = some v ∧ ∀ j, j < 1024 → b.2.2 j = v.2.2 j) ∨ (r = 0 ∧ ¬ lk b.2.2 o))) 0 0) 24 [(0, .ref x), (1, .int (nI c)), (2, .int (nI d)), (3, .int (nI w))] [] := by
    intro n
    induction n with
    | zero => intros; omega
    | succ n ih =>
      intro c w v hn ⟨hc, ho2, hmc, hw, hj⟩
      refine g_iload_n Z dX7_isLike_24 rfl ?_
      refine g_sipush (v := 1024) Z dX7_isLike_25 (by decide) ?_
      refine g_icmp_ge Z 67 dX7_isLike_28 (by decide) (fun h28 => ?_) (fun h28 => ?_)
      · have he : w = 1024 := by have := ge_t (N := 1024) (by omega) (by decide) h28; omega
        subst he
        refine g_iconst (v := 1) Z dX7_isLike_67 (by decide) ?_
        exact g_zret Z dX7_isLike_68 (by rfl) (by omega) (by omega) (⟨rfl, Or.inl ⟨rfl, v, ho2, hj⟩⟩)
      · have hlt : w < 1024 := ge_f (by omega) (by decide) h28
        refine g_aload_n Z dX7_isLike_31 rfl ?_
        refine m_ref_wd Z in6 lk23 dX7_isLike_32 ?_
        refine g_sipush (v := 1024) Z dX7_isLike_35 (by decide) ?_
        refine g_iload_n Z dX7_isLike_38 rfl ?_
        refine g_imul Z dX7_isLike_39 ?_
        refine g_iload_n Z dX7_isLike_40 rfl ?_
        refine g_iadd Z dX7_isLike_41 ?_
        rw [ixw]
        refine m_ald_wd Z ho dX7_isLike_42 (by exact vp_in_nI (by omega) (by decide)) ?_
        rw [nI_clamp (by omega), hmc.w hlt]
        refine g_aload_n Z dX7_isLike_43 rfl ?_
        refine m_ref_wd Z in6 lk23 dX7_isLike_44 ?_
        refine g_sipush (v := 1024) Z dX7_isLike_47 (by decide) ?_
        refine g_iload_n Z dX7_isLike_50 rfl ?_
        refine g_imul Z dX7_isLike_51 ?_
        refine g_iload_n Z dX7_isLike_52 rfl ?_
        refine g_iadd Z dX7_isLike_53 ?_
        rw [ixw]
        refine m_ald_wd Z ho dX7_isLike_54 (by exact vp_in_nI (by omega) (by decide)) ?_
        rw [nI_clamp (by omega), hd2.w hlt]
        refine g_lcmp Z dX7_isLike_55 ?_
        refine g_if_eq Z 61 dX7_isLike_56 (by decide) (fun h56 => ?_) (fun h56 => ?_)
        · have he := lc_eq.mp h56
          refine g_iinc (c := 1) Z dX7_isLike_61 rfl (by decide) (by decide) ?_
          rw [nI_1]
          refine g_goto Z 24 dX7_isLike_64 (by decide) ?_
          exact g_lv (by (repeat (first | exact trivial | refine And.intro rfl ?_)); done) (ih c (w + 1) v (by omega) ⟨hc, ho2, hmc, by omega, fun j hj2 => by
            by_cases e : j = w
            · subst e; exact he.symm
            · exact hj j (by omega)⟩)
        · have hne : ¬ v.2.2 w = b.2.2 w := fun q => h56 (lc_eq.mpr q)
          refine g_iconst (v := 0) Z dX7_isLike_59 (by decide) ?_
          exact g_zret Z dX7_isLike_60 (by rfl) (by omega) (by omega) (⟨rfl, Or.inr ⟨rfl, fun ⟨v2, q1, q2⟩ => hne (by rw [ho2] at q1; cases q1; exact (q2 w hlt).symm)⟩⟩)
  refine g_iload_n Z dX7_isLike_0 rfl ?_
  refine g_iconst (v := (-1)) Z dX7_isLike_1 (by decide) ?_
  refine g_icmp_eq Z 20 dX7_isLike_2 (by decide) (fun h2 => ?_) (fun h2 => ?_)
  · have hno : ¬ lk b.2.2 o := by rw [h2] at hy; rw [hy.no]; exact fun ⟨v, q, _⟩ => by cases q
    refine g_iconst (v := 0) Z dX7_isLike_20 (by decide) ?_
    exact g_zret Z dX7_isLike_21 (by rfl) (by omega) (by omega) (⟨rfl, Or.inr ⟨rfl, hno⟩⟩)
  · obtain ⟨c, v, hc, rfl, ho2, hmc⟩ := hy.nn h2
    refine g_aload_n Z dX7_isLike_5 rfl ?_
    refine m_ref_sz Z in6 lk19 dX7_isLike_6 ?_
    refine g_iload_n Z dX7_isLike_9 rfl ?_
    refine m_ald_sz Z ho dX7_isLike_10 (by exact vp_in_nI (by omega) (by decide)) ?_
    rw [nI_clamp (by omega), hmc.2.2.1]
    refine g_aload_n Z dX7_isLike_11 rfl ?_
    refine m_ref_sz Z in6 lk19 dX7_isLike_12 ?_
    refine g_iload_n Z dX7_isLike_15 rfl ?_
    refine m_ald_sz Z ho dX7_isLike_16 (by exact vp_in_nI (by omega) (by decide)) ?_
    rw [nI_clamp (by omega), hd2.2.2.1]
    refine g_icmp_eq Z 22 dX7_isLike_17 (by decide) (fun h17 => ?_) (fun h17 => ?_)
    · refine g_iconst (v := 0) Z dX7_isLike_22 (by decide) ?_
      refine g_istore_n Z dX7_isLike_23 (by decide) ?_
      exact g_lv (by (repeat (first | exact trivial | refine And.intro rfl ?_)); done) (loop 1025 c 0 v (by omega) ⟨hc, ho2, hmc, by omega, fun j hj => by omega⟩)
    · have hno : ¬ lk b.2.2 o := fun ⟨v2, q1, q2⟩ => h17 (by rw [ho2] at q1; cases q1; rw [tot_congr q2])
      refine g_iconst (v := 0) Z dX7_isLike_20 (by decide) ?_
      exact g_zret Z dX7_isLike_21 (by rfl) (by omega) (by omega) (⟨rfl, Or.inr ⟨rfl, hno⟩⟩)

set_option maxRecDepth 100000 in
set_option maxHeartbeats 2000000 in
/-- static: two words are joined -/
theorem f_X7_joined (l : Launch) (D : va_G) (cy : Nat → ClassId) (nw : Nat) (S : PS) (y : Int32) (a b : Int64) : kL l yX7_joined wsX7_joined 0 0 D cy nw [.int y, .long a, .long b] S (fun r T => S = T ∧ r = mxW y a b) 0 0 := by
  refine enterL (cc := cX7_joined) (nL := 5) (ret := (some .long)) (by decide +kernel) rfl (Nat.le_of_ble_eq_true rfl) ?_
  intro F Z hl hR hD hcy hnw hnm
  subst hl hD hcy hnw
  have hRf : F.R.frames = 0 := by rw [hR]
  have hRc : F.R.cells = 0 := by rw [hR]
  have hRs : F.R.slots = 0 := by rw [hR]
  have hRl : F.R.locals = 0 := by rw [hR]
  have ct52 : Cond.constantLong RX7 52 (-1) ∈ wsX7_joined := by decide +kernel
  refine g_iload_n Z dX7_joined_0 rfl ?_
  refine g_if_ne Z 10 dX7_joined_1 (by decide) (fun h1 => ?_) (fun h1 => ?_)
  · refine g_iload_n Z dX7_joined_10 rfl ?_
    refine g_iconst (v := 1) Z dX7_joined_11 (by decide) ?_
    refine g_icmp_ne Z 21 dX7_joined_12 (by decide) (fun h12 => ?_) (fun h12 => ?_)
    · refine g_iload_n Z dX7_joined_21 rfl ?_
      refine g_iconst (v := 2) Z dX7_joined_22 (by decide) ?_
      refine g_icmp_ne Z 32 dX7_joined_23 (by decide) (fun h23 => ?_) (fun h23 => ?_)
      · refine g_lload_n Z dX7_joined_32 rfl ?_
        refine g_lload_n Z dX7_joined_33 rfl ?_
        refine g_ldc2 (v := -1) Z dX7_joined_34 ct52 ?_
        refine g_lxor Z dX7_joined_37 ?_
        refine g_land Z dX7_joined_38 ?_
        exact g_lret Z dX7_joined_39 (by omega) (by omega) (⟨rfl, by unfold mxW; first | rw [if_pos h1] | rw [if_neg h1, if_pos h12] | rw [if_neg h1, if_neg h12, if_pos h23] | rw [if_neg h1, if_neg h12, if_neg h23]⟩)
      · refine g_lload_n Z dX7_joined_26 rfl ?_
        refine g_lload_n Z dX7_joined_27 rfl ?_
        refine g_lxor Z dX7_joined_28 ?_
        refine g_goto Z 39 dX7_joined_29 (by decide) ?_
        exact g_lret Z dX7_joined_39 (by omega) (by omega) (⟨rfl, by unfold mxW; first | rw [if_pos h1] | rw [if_neg h1, if_pos h12] | rw [if_neg h1, if_neg h12, if_pos h23] | rw [if_neg h1, if_neg h12, if_neg h23]⟩)
    · refine g_lload_n Z dX7_joined_15 rfl ?_
      refine g_lload_n Z dX7_joined_16 rfl ?_
      refine g_lor Z dX7_joined_17 ?_
      refine g_goto Z 39 dX7_joined_18 (by decide) ?_
      exact g_lret Z dX7_joined_39 (by omega) (by omega) (⟨rfl, by unfold mxW; first | rw [if_pos h1] | rw [if_neg h1, if_pos h12] | rw [if_neg h1, if_neg h12, if_pos h23] | rw [if_neg h1, if_neg h12, if_neg h23]⟩)
  · refine g_lload_n Z dX7_joined_4 rfl ?_
    refine g_lload_n Z dX7_joined_5 rfl ?_
    refine g_land Z dX7_joined_6 ?_
    refine g_goto Z 39 dX7_joined_7 (by decide) ?_
    exact g_lret Z dX7_joined_39 (by omega) (by omega) (⟨rfl, by unfold mxW; first | rw [if_pos h1] | rw [if_neg h1, if_pos h12] | rw [if_neg h1, if_neg h12, if_pos h23] | rw [if_neg h1, if_neg h12, if_neg h23]⟩)

set_option maxRecDepth 100000 in
set_option maxHeartbeats 2000000 in
/-- a container is made of two -/
theorem f_X7_makeOne (l : Launch) (D : va_G) (cy : Nat → ClassId) (nw : Nat) (A : Nat → Nat) (x : Nat) (ho : mOk A x) (C : C5) (R : MR) (V : Sv) (hV : Ms C 16 V) (y : Int32) (key : Nat) (hkey : key < 65536) (hVk : VokP V key) (a b : Int32) (oa ob : Option Cn) (ha : Ao C a oa) (hb : Ao C b ob) : kI l yX7_makeOne wsX7_makeOne 2 48 D cy nw [.ref x, .int y, .int (nI key), .int a, .int b] (mP A x (C, R)) (fun r T => ∃ E, mP A x (E, R) = T ∧ Me 16 C E ∧ ((r = 0 ∧ V.1 = 6 ∧ 0 < tot (jW y oa ob)) ∨ (r = 1 ∧ ((¬ 0 < tot (jW y oa ob) ∧ Ms E 16 V) ∨ (0 < tot (jW y oa ob) ∧ V.1 < 6 ∧ ∃ k, jKd y oa ob k ∧ Ms E 16 (V.psh (key, k, (jW y oa ob)))))))) 0 0 := by
  refine enterI (cc := cX7_makeOne) (nL := 9) (ret := (some .boolean)) (by decide +kernel) rfl (Nat.le_of_ble_eq_true rfl) ?_
  intro F Z hl hR hD hcy hnw hnm
  subst hl hD hcy hnw
  have hRf : F.R.frames = 2 := by rw [hR]
  have hRc : F.R.cells = 0 := by rw [hR]
  have hRs : F.R.slots = 0 := by rw [hR]
  have hRl : F.R.locals = 48 := by rw [hR]
  have in6 : ∀ w ∈ u_ws RX7 TX7 16, w ∈ wsX7_makeOne := by decide +kernel
  have lk7 : Cond.fieldLink RX7 7 (TX7 0).1 (TX7 0).2.1 (TX7 0).2.2.1 ∈ wsX7_makeOne := by decide +kernel
  have lk16 : Cond.fieldLink RX7 16 (TX7 2).1 (TX7 2).2.1 (TX7 2).2.2.1 ∈ wsX7_makeOne := by decide +kernel
  have lk19 : Cond.fieldLink RX7 19 (TX7 3).1 (TX7 3).2.1 (TX7 3).2.2.1 ∈ wsX7_makeOne := by decide +kernel
  have lk23 : Cond.fieldLink RX7 23 (TX7 4).1 (TX7 4).2.1 (TX7 4).2.2.1 ∈ wsX7_makeOne := by decide +kernel
  have hV6 := hV.1
  have look : ∀ (n : Nat) (w : Nat), 1024 - w < n → (V.1 = 6 ∧ w ≤ 1024 ∧ ∀ j, j < w → (jW y oa ob) j = 0) → G F 9 (mP A x (C, R)) 0 0 (QI F (fun r T => ∃ E, mP A x (E, R) = T ∧ Me 16 C E ∧ ((r = 0 ∧ V.1 = 6 ∧ 0 < tot (jW y oa ob)) ∨ (r = 1 ∧ ((¬ 0 < tot (jW y oa ob) ∧ Ms E 16 V) ∨ (0 < tot (jW y oa ob) ∧ V.1 < 6 ∧ ∃ k, jKd y oa ob k ∧ Ms E 16 (V.psh (key, k, (jW y oa ob)))))))) 0 0) 15 [(0, .ref x), (1, .int y), (2, .int (nI key)), (3, .int a), (4, .int b), (5, .int (nI w))] [] := by
    intro n
    induction n with
    | zero => intros; omega
    | succ n ih =>
      intro w hn ⟨hv6, hw, hz⟩
      have j70 : ∀ (u v : Int64), w < 1024 → u = wo oa w → v = wo ob w → G F 9 (mP A x (C, R)) 0 0 (QI F (fun r T => ∃ E, mP A x (E, R) = T ∧ Me 16 C E ∧ ((r = 0 ∧ V.1 = 6 ∧ 0 < tot (jW y oa ob)) ∨ (r = 1 ∧ ((¬ 0 < tot (jW y oa ob) ∧ Ms E 16 V) ∨ (0 < tot (jW y oa ob) ∧ V.1 < 6 ∧ ∃ k, jKd y oa ob k ∧ Ms E 16 (V.psh (key, k, (jW y oa ob)))))))) 0 0) 70 [(0, .ref x), (1, .int y), (2, .int (nI key)), (3, .int a), (4, .int b), (5, .int (nI w))] [.long v, .long u, .int y] := by
        intro u v hlt eu ev
        refine g_csL Z (f_X7_joined F.l F.D F.cy F.nw _ y u v) 3 gX7_makeOne_X7_joined rfl (by decide +kernel) (by rw [hRf, hRl]; decide) rfl rfl (Nat.le_of_ble_eq_true rfl) dX7_makeOne_70 (by rw [hRc, hRs]; omega) (fun r T hp => ?_)
        obtain ⟨rfl, rfl⟩ := hp
        rw [eu, ev, show mxW y (wo oa w) (wo ob w) = (jW y oa ob) w from rfl]
        refine g_lconst (v := 0) Z dX7_makeOne_73 (by decide) ?_
        refine g_lcmp Z dX7_makeOne_74 ?_
        refine g_if_eq Z 80 dX7_makeOne_75 (by decide) (fun h75 => ?_) (fun h75 => ?_)
        · have he := lc_eq.mp h75
          refine g_iinc (c := 1) Z dX7_makeOne_80 rfl (by decide) (by decide) ?_
          rw [nI_1]
          refine g_goto Z 15 dX7_makeOne_83 (by decide) ?_
          exact g_lv (by (repeat (first | exact trivial | refine And.intro rfl ?_)); done) (ih (w + 1) (by omega) ⟨hv6, by omega, fun j hj => by
            by_cases e : j = w
            · subst e; exact he
            · exact hz j (by omega)⟩)
        · have hne : ¬ (jW y oa ob) w = 0 := fun q => h75 (lc_eq.mpr q)
          have hpos : 0 < tot (jW y oa ob) := Nat.lt_of_not_le (fun q => hne (tot_nz (by omega) w hlt))
          refine g_iconst (v := 0) Z dX7_makeOne_78 (by decide) ?_
          exact g_zret Z dX7_makeOne_79 (by rfl) (by omega) (by omega) (⟨C, rfl, Me.rf, Or.inl ⟨rfl, hv6, hpos⟩⟩)
      have j46 : ∀ (u : Int64), w < 1024 → u = wo oa w → G F 9 (mP A x (C, R)) 0 0 (QI F (fun r T => ∃ E, mP A x (E, R) = T ∧ Me 16 C E ∧ ((r = 0 ∧ V.1 = 6 ∧ 0 < tot (jW y oa ob)) ∨ (r = 1 ∧ ((¬ 0 < tot (jW y oa ob) ∧ Ms E 16 V) ∨ (0 < tot (jW y oa ob) ∧ V.1 < 6 ∧ ∃ k, jKd y oa ob k ∧ Ms E 16 (V.psh (key, k, (jW y oa ob)))))))) 0 0) 46 [(0, .ref x), (1, .int y), (2, .int (nI key)), (3, .int a), (4, .int b), (5, .int (nI w))] [.long u, .int y] := by
        intro u hlt eu
        refine g_iload Z dX7_makeOne_46 rfl ?_
        refine g_iconst (v := (-1)) Z dX7_makeOne_48 (by decide) ?_
        refine g_icmp_ne Z 56 dX7_makeOne_49 (by decide) (fun h49 => ?_) (fun h49 => ?_)
        · obtain ⟨c, v, hc, rfl, ho2, hmc⟩ := hb.nn h49
          refine g_aload_n Z dX7_makeOne_56 rfl ?_
          refine m_ref_wd Z in6 lk23 dX7_makeOne_57 ?_
          refine g_sipush (v := 1024) Z dX7_makeOne_60 (by decide) ?_
          refine g_iload Z dX7_makeOne_63 rfl ?_
          refine g_imul Z dX7_makeOne_65 ?_
          refine g_iload Z dX7_makeOne_66 rfl ?_
          refine g_iadd Z dX7_makeOne_68 ?_
          rw [ixw]
          refine m_ald_wd Z ho dX7_makeOne_69 (by exact vp_in_nI (by omega) (by decide)) ?_
          rw [nI_clamp (by omega), hmc.w hlt]
          first | exact g_lv (by (repeat (first | exact trivial | refine And.intro rfl ?_)); done) (j70 _ _ hlt eu (by rw [ho2]; rfl)) | exact g_lv (by (repeat (first | exact trivial | refine And.intro rfl ?_)); done) (j70 _ _ hlt eu (by rw [hob]; rfl))
        · have hob : ob = none := by rw [h49] at hb; exact hb.no
          refine g_lconst (v := 0) Z dX7_makeOne_52 (by decide) ?_
          refine g_goto Z 70 dX7_makeOne_53 (by decide) ?_
          first | exact g_lv (by (repeat (first | exact trivial | refine And.intro rfl ?_)); done) (j70 _ _ hlt eu (by rw [ho2]; rfl)) | exact g_lv (by (repeat (first | exact trivial | refine And.intro rfl ?_)); done) (j70 _ _ hlt eu (by rw [hob]; rfl))
      refine g_iload Z dX7_makeOne_15 rfl ?_
      refine g_sipush (v := 1024) Z dX7_makeOne_17 (by decide) ?_
      refine g_icmp_ge Z 86 dX7_makeOne_20 (by decide) (fun h20 => ?_) (fun h20 => ?_)
      · have he : w = 1024 := by have := ge_t (N := 1024) (by omega) (by decide) h20; omega
        subst he
        have ht0 : ¬ 0 < tot (jW y oa ob) := by rw [tot_n0 hz]; exact Nat.lt_irrefl _
        refine g_iconst (v := 1) Z dX7_makeOne_86 (by decide) ?_
        exact g_zret Z dX7_makeOne_87 (by rfl) (by omega) (by omega) (⟨C, rfl, Me.rf, Or.inr ⟨rfl, Or.inl ⟨ht0, hV⟩⟩⟩)
      · have hlt : w < 1024 := ge_f (by omega) (by decide) h20
        refine g_iload_n Z dX7_makeOne_23 rfl ?_
        refine g_iload_n Z dX7_makeOne_24 rfl ?_
        refine g_iconst (v := (-1)) Z dX7_makeOne_25 (by decide) ?_
        refine g_icmp_ne Z 33 dX7_makeOne_26 (by decide) (fun h26 => ?_) (fun h26 => ?_)
        · obtain ⟨c, v, hc, rfl, ho2, hmc⟩ := ha.nn h26
          refine g_aload_n Z dX7_makeOne_33 rfl ?_
          refine m_ref_wd Z in6 lk23 dX7_makeOne_34 ?_
          refine g_sipush (v := 1024) Z dX7_makeOne_37 (by decide) ?_
          refine g_iload_n Z dX7_makeOne_40 rfl ?_
          refine g_imul Z dX7_makeOne_41 ?_
          refine g_iload Z dX7_makeOne_42 rfl ?_
          refine g_iadd Z dX7_makeOne_44 ?_
          rw [ixw]
          refine m_ald_wd Z ho dX7_makeOne_45 (by exact vp_in_nI (by omega) (by decide)) ?_
          rw [nI_clamp (by omega), hmc.w hlt]
          first | exact g_lv (by (repeat (first | exact trivial | refine And.intro rfl ?_)); done) (j46 _ hlt (by rw [ho2]; rfl)) | exact g_lv (by (repeat (first | exact trivial | refine And.intro rfl ?_)); done) (j46 _ hlt (by rw [hoa]; rfl))
        · have hoa : oa = none := by rw [h26] at ha; exact ha.no
          refine g_lconst (v := 0) Z dX7_makeOne_29 (by decide) ?_
          refine g_goto Z 46 dX7_makeOne_30 (by decide) ?_
          first | exact g_lv (by (repeat (first | exact trivial | refine And.intro rfl ?_)); done) (j46 _ hlt (by rw [ho2]; rfl)) | exact g_lv (by (repeat (first | exact trivial | refine And.intro rfl ?_)); done) (j46 _ hlt (by rw [hoa]; rfl))
  have fin : ∀ (E : C5), V.1 < 6 → Me 16 C E → Ms E 16 (if 0 < tot (jW y oa ob) then V.psh (key, plK (nI (tot (jW y oa ob))), (jW y oa ob)) else V) → E.sz (6 * 16 + V.1) = nI (tot (jW y oa ob)) → G F 9 (mP A x (E, R)) 0 0 (QI F (fun r T => ∃ E, mP A x (E, R) = T ∧ Me 16 C E ∧ ((r = 0 ∧ V.1 = 6 ∧ 0 < tot (jW y oa ob)) ∨ (r = 1 ∧ ((¬ 0 < tot (jW y oa ob) ∧ Ms E 16 V) ∨ (0 < tot (jW y oa ob) ∧ V.1 < 6 ∧ ∃ k, jKd y oa ob k ∧ Ms E 16 (V.psh (key, k, (jW y oa ob)))))))) 0 0) 205 [(0, .ref x), (3, .int a), (4, .int b), (5, .int (nI (6 * 16 + V.1)))] [] := by
    intro E hj hS hE hsz
    have htl := tot_le (jW y oa ob)
    have ha2 := ha.mq hS.mq
    have hb2 := hb.mq hS.mq
    have j268 : ∀ (z : Int32), 0 < tot (jW y oa ob) → jKd y oa ob z → G F 9 (mP A x (E, R)) 0 0 (QI F (fun r T => ∃ E, mP A x (E, R) = T ∧ Me 16 C E ∧ ((r = 0 ∧ V.1 = 6 ∧ 0 < tot (jW y oa ob)) ∨ (r = 1 ∧ ((¬ 0 < tot (jW y oa ob) ∧ Ms E 16 V) ∨ (0 < tot (jW y oa ob) ∧ V.1 < 6 ∧ ∃ k, jKd y oa ob k ∧ Ms E 16 (V.psh (key, k, (jW y oa ob)))))))) 0 0) 268 [(0, .ref x)] [.int z, .int (nI (6 * 16 + V.1)), .ref (A 2)] := by
      intro z hpos hk
      rw [if_pos hpos] at hE
      have hmc := hE.mc (i := V.1) (Nat.lt_succ_self _)
      rw [psh_at] at hmc
      have hms := hE.put (i := V.1) (a := (key, z, (jW y oa ob))) (Nat.lt_succ_self _) (show Mb (6 * 16 + V.1) E (E.s_kd (upd E.kd (6 * 16 + V.1) z)) from ⟨rfl, fun d hd => ⟨rfl, pk_un hd, rfl, fun _ _ => rfl⟩⟩) ⟨hmc.1, pk_us, hmc.2.2.1, hmc.2.2.2⟩
      rw [psh_put] at hms
      refine m_ast_kd Z ho dX7_makeOne_268 (by exact vp_in_nI (by omega) (by decide)) ?_
      rw [nI_clamp (by omega)]
      refine g_iconst (v := 1) Z dX7_makeOne_269 (by decide) ?_
      exact g_zret Z dX7_makeOne_270 (by rfl) (by omega) (by omega) (⟨_, rfl, hS.tr (Mb.me (show Mb (6 * 16 + V.1) E (E.s_kd (upd E.kd (6 * 16 + V.1) z)) from ⟨rfl, fun d hd => ⟨rfl, pk_un hd, rfl, fun _ _ => rfl⟩⟩) hj), Or.inr ⟨rfl, Or.inr ⟨hpos, hj, z, hk, hms⟩⟩⟩)
    refine g_aload_n Z dX7_makeOne_205 rfl ?_
    refine m_ref_sz Z in6 lk19 dX7_makeOne_206 ?_
    refine g_iload Z dX7_makeOne_209 rfl ?_
    refine m_ald_sz Z ho dX7_makeOne_211 (by exact vp_in_nI (by omega) (by decide)) ?_
    rw [nI_clamp (by omega), hsz]
    refine g_if_le Z 269 dX7_makeOne_212 (by decide) (fun h212 => ?_) (fun h212 => ?_)
    · have hpos : ¬ 0 < tot (jW y oa ob) := by have := le_t (i := tot (jW y oa ob)) (N := 0) (by omega) (by decide) h212; omega
      rw [if_neg hpos] at hE
      refine g_iconst (v := 1) Z dX7_makeOne_269 (by decide) ?_
      exact g_zret Z dX7_makeOne_270 (by rfl) (by omega) (by omega) (⟨E, rfl, hS, Or.inr ⟨rfl, Or.inl ⟨hpos, hE⟩⟩⟩)
    · have hpos : 0 < tot (jW y oa ob) := by have := le_f (i := tot (jW y oa ob)) (N := 0) (by omega) (by decide) h212; omega
      have hE2 := hE
      rw [if_pos hpos] at hE2
      have hmc := hE2.mc (i := V.1) (Nat.lt_succ_self _)
      rw [psh_at] at hmc
      refine g_aload_n Z dX7_makeOne_215 rfl ?_
      refine m_ref_kd Z in6 lk16 dX7_makeOne_216 ?_
      refine g_iload Z dX7_makeOne_219 rfl ?_
      refine g_aload_n Z dX7_makeOne_221 rfl ?_
      refine g_iload_n Z dX7_makeOne_222 rfl ?_
      refine g_iload Z dX7_makeOne_223 rfl ?_
      refine g_cvI Z (f_X7_isLike F.l F.D F.cy F.nw A x ho _ _ a oa ha2 _ (by omega) _ hmc) 2 gX7_makeOne_X7_isLike rfl (by decide +kernel) (by rw [hRf, hRl]; decide) (by exact mP_x) (κ := 6) (by exact mP_Kx) rfl (by decide) rfl rfl (Nat.le_of_ble_eq_true rfl) dX7_makeOne_225 (by rw [hRc, hRs]; omega) (fun r T1 hp => ?_)
      obtain ⟨rfl, hr1⟩ := hp
      refine g_if_eq Z 240 dX7_makeOne_228 (by decide) (fun h228 => ?_) (fun h228 => ?_)
      · have hn1 : ¬ lk (jW y oa ob) oa := by
          rcases hr1 with ⟨e, -⟩ | ⟨-, e⟩
          · rw [e] at h228; exact absurd h228 (by decide)
          · exact e
        refine g_aload_n Z dX7_makeOne_240 rfl ?_
        refine g_iload Z dX7_makeOne_241 rfl ?_
        refine g_iload Z dX7_makeOne_243 rfl ?_
        refine g_cvI Z (f_X7_isLike F.l F.D F.cy F.nw A x ho _ _ b ob hb2 _ (by omega) _ hmc) 2 gX7_makeOne_X7_isLike rfl (by decide +kernel) (by rw [hRf, hRl]; decide) (by exact mP_x) (κ := 6) (by exact mP_Kx) rfl (by decide) rfl rfl (Nat.le_of_ble_eq_true rfl) dX7_makeOne_245 (by rw [hRc, hRs]; omega) (fun r T2 hp => ?_)
        obtain ⟨rfl, hr2⟩ := hp
        refine g_if_eq Z 261 dX7_makeOne_248 (by decide) (fun h248 => ?_) (fun h248 => ?_)
        · have hn2 : ¬ lk (jW y oa ob) ob := by
            rcases hr2 with ⟨e, -⟩ | ⟨-, e⟩
            · rw [e] at h248; exact absurd h248 (by decide)
            · exact e
          refine g_aload_n Z dX7_makeOne_261 rfl ?_
          refine m_ref_kd Z in6 lk16 dX7_makeOne_262 ?_
          refine g_iload Z dX7_makeOne_265 rfl ?_
          refine m_ald_kd Z ho dX7_makeOne_267 (by exact vp_in_nI (by omega) (by decide)) ?_
          rw [nI_clamp (by omega), hmc.2.1]
          first | exact g_lv (by (repeat (first | exact trivial | refine And.intro rfl ?_)); done) (j268 _ hpos (Or.inr ⟨hn1, Or.inr ⟨hn2, rfl⟩⟩)) | exact g_lv (by (repeat (first | exact trivial | refine And.intro rfl ?_)); done) (j268 _ hpos (Or.inr ⟨hn1, Or.inl ⟨_, ho2, heq, rfl⟩⟩)) | exact g_lv (by (repeat (first | exact trivial | refine And.intro rfl ?_)); done) (j268 _ hpos (Or.inl ⟨_, ho2, heq, rfl⟩))
        · obtain ⟨v, hv, heq⟩ : ∃ v, ob = some v ∧ ∀ j, j < 1024 → jW y oa ob j = v.2.2 j := by
            rcases hr2 with ⟨-, e⟩ | ⟨e, -⟩
            · exact e
            · exact absurd e h248
          obtain ⟨c, v2, hc, rfl, ho2, hm2⟩ : ∃ c v2, c < 96 ∧ b = nI c ∧ ob = some v2 ∧ Mc E c v2 := by
            rcases hb2 with ⟨-, e⟩ | e
            · rw [hv] at e; cases e
            · exact e
          have hvv : v2 = v := Option.some.inj (ho2.symm.trans hv)
          subst hvv
          refine g_aload_n Z dX7_makeOne_251 rfl ?_
          refine m_ref_kd Z in6 lk16 dX7_makeOne_252 ?_
          refine g_iload Z dX7_makeOne_255 rfl ?_
          refine m_ald_kd Z ho dX7_makeOne_257 (by exact vp_in_nI (by omega) (by decide)) ?_
          rw [nI_clamp (by omega), hm2.2.1]
          refine g_goto Z 268 dX7_makeOne_258 (by decide) ?_
          first | exact g_lv (by (repeat (first | exact trivial | refine And.intro rfl ?_)); done) (j268 _ hpos (Or.inr ⟨hn1, Or.inr ⟨hn2, rfl⟩⟩)) | exact g_lv (by (repeat (first | exact trivial | refine And.intro rfl ?_)); done) (j268 _ hpos (Or.inr ⟨hn1, Or.inl ⟨_, ho2, heq, rfl⟩⟩)) | exact g_lv (by (repeat (first | exact trivial | refine And.intro rfl ?_)); done) (j268 _ hpos (Or.inl ⟨_, ho2, heq, rfl⟩))
      · obtain ⟨v, hv, heq⟩ : ∃ v, oa = some v ∧ ∀ j, j < 1024 → jW y oa ob j = v.2.2 j := by
          rcases hr1 with ⟨-, e⟩ | ⟨e, -⟩
          · exact e
          · exact absurd e h228
        obtain ⟨c, v2, hc, rfl, ho2, hm2⟩ : ∃ c v2, c < 96 ∧ a = nI c ∧ oa = some v2 ∧ Mc E c v2 := by
          rcases ha2 with ⟨-, e⟩ | e
          · rw [hv] at e; cases e
          · exact e
        have hvv : v2 = v := Option.some.inj (ho2.symm.trans hv)
        subst hvv
        refine g_aload_n Z dX7_makeOne_231 rfl ?_
        refine m_ref_kd Z in6 lk16 dX7_makeOne_232 ?_
        refine g_iload_n Z dX7_makeOne_235 rfl ?_
        refine m_ald_kd Z ho dX7_makeOne_236 (by exact vp_in_nI (by omega) (by decide)) ?_
        rw [nI_clamp (by omega), hm2.2.1]
        refine g_goto Z 268 dX7_makeOne_237 (by decide) ?_
        first | exact g_lv (by (repeat (first | exact trivial | refine And.intro rfl ?_)); done) (j268 _ hpos (Or.inr ⟨hn1, Or.inr ⟨hn2, rfl⟩⟩)) | exact g_lv (by (repeat (first | exact trivial | refine And.intro rfl ?_)); done) (j268 _ hpos (Or.inr ⟨hn1, Or.inl ⟨_, ho2, heq, rfl⟩⟩)) | exact g_lv (by (repeat (first | exact trivial | refine And.intro rfl ?_)); done) (j268 _ hpos (Or.inl ⟨_, ho2, heq, rfl⟩))
  have fill : ∀ (n : Nat) (E : C5), V.1 < 6 → Me 16 C E → Ms E 16 (V.psh (key, 0, zW)) → ∀ (w : Nat) (D : C5), 1024 - w < n → (w ≤ 1024 ∧ Mb (6 * 16 + V.1) E D ∧ D.ky = E.ky ∧ D.kd = E.kd ∧ D.sz (6 * 16 + V.1) = nI (ct D.wd (6 * 16 + V.1) (64 * w)) ∧ ∀ j, j < w → D.wd (1024 * (6 * 16 + V.1) + j) = (jW y oa ob) j) → G F 9 (mP A x (D, R)) 0 0 (QI F (fun r T => ∃ E, mP A x (E, R) = T ∧ Me 16 C E ∧ ((r = 0 ∧ V.1 = 6 ∧ 0 < tot (jW y oa ob)) ∨ (r = 1 ∧ ((¬ 0 < tot (jW y oa ob) ∧ Ms E 16 V) ∨ (0 < tot (jW y oa ob) ∧ V.1 < 6 ∧ ∃ k, jKd y oa ob k ∧ Ms E 16 (V.psh (key, k, (jW y oa ob)))))))) 0 0) 100 [(0, .ref x), (1, .int y), (3, .int a), (4, .int b), (5, .int (nI (6 * 16 + V.1))), (6, .int (nI w))] [] := by
    intro n E hn6 hS hE
    induction n with
    | zero => intros; omega
    | succ n ih =>
      intro w D hn ⟨hw, hC, hky, hkd, hs, hwd⟩
      have hqD : ∀ c, c < 96 → Mq C c D c := fun c hc => (hS.mq c hc).tr (hC.2 c (by omega))
      have ha2 := ha.mq hqD
      have hb2 := hb.mq hqD
      have j155 : ∀ (u v : Int64), w < 1024 → u = wo oa w → v = wo ob w → G F 9 (mP A x (D, R)) 0 0 (QI F (fun r T => ∃ E, mP A x (E, R) = T ∧ Me 16 C E ∧ ((r = 0 ∧ V.1 = 6 ∧ 0 < tot (jW y oa ob)) ∨ (r = 1 ∧ ((¬ 0 < tot (jW y oa ob) ∧ Ms E 16 V) ∨ (0 < tot (jW y oa ob) ∧ V.1 < 6 ∧ ∃ k, jKd y oa ob k ∧ Ms E 16 (V.psh (key, k, (jW y oa ob)))))))) 0 0) 155 [(0, .ref x), (1, .int y), (3, .int a), (4, .int b), (5, .int (nI (6 * 16 + V.1))), (6, .int (nI w))] [.long v, .long u, .int y] := by
        intro u v hlt eu ev
        refine g_csL Z (f_X7_joined F.l F.D F.cy F.nw _ y u v) 3 gX7_makeOne_X7_joined rfl (by decide +kernel) (by rw [hRf, hRl]; decide) rfl rfl (Nat.le_of_ble_eq_true rfl) dX7_makeOne_155 (by rw [hRc, hRs]; omega) (fun r T1 hp => ?_)
        obtain ⟨rfl, rfl⟩ := hp
        rw [eu, ev, show mxW y (wo oa w) (wo ob w) = (jW y oa ob) w from rfl]
        obtain ⟨s1, s2⟩ := wd_stp (v := (jW y oa ob) w) hlt hC hs
        refine g_lstore Z dX7_makeOne_158 (by decide) ?_
        refine g_aload_n Z dX7_makeOne_160 rfl ?_
        refine m_ref_wd Z in6 lk23 dX7_makeOne_161 ?_
        refine g_sipush (v := 1024) Z dX7_makeOne_164 (by decide) ?_
        refine g_iload Z dX7_makeOne_167 rfl ?_
        refine g_imul Z dX7_makeOne_169 ?_
        refine g_iload Z dX7_makeOne_170 rfl ?_
        refine g_iadd Z dX7_makeOne_172 ?_
        rw [ixw]
        refine g_lload Z dX7_makeOne_173 rfl ?_
        refine m_ast_wd Z ho dX7_makeOne_175 (by exact vp_in_nI (by omega) (by decide)) ?_
        rw [nI_clamp (by omega)]
        refine g_aload_n Z dX7_makeOne_176 rfl ?_
        refine m_ref_sz Z in6 lk19 dX7_makeOne_177 ?_
        refine g_iload Z dX7_makeOne_180 rfl ?_
        refine g_dup2 Z dX7_makeOne_182 rfl rfl ?_
        refine m_ald_sz Z ho dX7_makeOne_183 (by exact vp_in_nI (by omega) (by decide)) ?_
        rw [nI_clamp (by omega)]
        refine g_lload Z dX7_makeOne_184 rfl ?_
        refine g_csI Z (c_X7_bitsOf F.l F.D F.cy F.nw _ _) 1 gX7_makeOne_X7_bitsOf rfl (by decide +kernel) (by rw [hRf, hRl]; decide) rfl rfl (Nat.le_of_ble_eq_true rfl) dX7_makeOne_186 (by rw [hRc, hRs]; omega) (fun r2 T2 hp => ?_)
        obtain ⟨rfl, rfl⟩ := hp
        refine g_iadd Z dX7_makeOne_189 ?_
        refine m_ast_sz Z ho dX7_makeOne_190 (by exact vp_in_nI (by omega) (by decide)) ?_
        rw [nI_clamp (by omega)]
        refine g_iinc (c := 1) Z dX7_makeOne_191 rfl (by decide) (by decide) ?_
        rw [nI_1]
        refine g_goto Z 100 dX7_makeOne_194 (by decide) ?_
        exact g_lv (by (repeat (first | exact trivial | refine And.intro rfl ?_)); done) (ih (w + 1) _ (by omega) ⟨by omega, s1, hky, hkd, s2, fun j hj => by
          by_cases e : j = w
          · subst e; exact pk_uLs
          · exact (pk_uLn (by omega)).trans (hwd j (by omega))⟩)
      have j131 : ∀ (u : Int64), w < 1024 → u = wo oa w → G F 9 (mP A x (D, R)) 0 0 (QI F (fun r T => ∃ E, mP A x (E, R) = T ∧ Me 16 C E ∧ ((r = 0 ∧ V.1 = 6 ∧ 0 < tot (jW y oa ob)) ∨ (r = 1 ∧ ((¬ 0 < tot (jW y oa ob) ∧ Ms E 16 V) ∨ (0 < tot (jW y oa ob) ∧ V.1 < 6 ∧ ∃ k, jKd y oa ob k ∧ Ms E 16 (V.psh (key, k, (jW y oa ob)))))))) 0 0) 131 [(0, .ref x), (1, .int y), (3, .int a), (4, .int b), (5, .int (nI (6 * 16 + V.1))), (6, .int (nI w))] [.long u, .int y] := by
        intro u hlt eu
        refine g_iload Z dX7_makeOne_131 rfl ?_
        refine g_iconst (v := (-1)) Z dX7_makeOne_133 (by decide) ?_
        refine g_icmp_ne Z 141 dX7_makeOne_134 (by decide) (fun h134 => ?_) (fun h134 => ?_)
        · obtain ⟨c, v, hc, rfl, ho2, hmc⟩ := hb2.nn h134
          refine g_aload_n Z dX7_makeOne_141 rfl ?_
          refine m_ref_wd Z in6 lk23 dX7_makeOne_142 ?_
          refine g_sipush (v := 1024) Z dX7_makeOne_145 (by decide) ?_
          refine g_iload Z dX7_makeOne_148 rfl ?_
          refine g_imul Z dX7_makeOne_150 ?_
          refine g_iload Z dX7_makeOne_151 rfl ?_
          refine g_iadd Z dX7_makeOne_153 ?_
          rw [ixw]
          refine m_ald_wd Z ho dX7_makeOne_154 (by exact vp_in_nI (by omega) (by decide)) ?_
          rw [nI_clamp (by omega), hmc.w hlt]
          first | exact g_lv (by (repeat (first | exact trivial | refine And.intro rfl ?_)); done) (j155 _ _ hlt eu (by rw [ho2]; rfl)) | exact g_lv (by (repeat (first | exact trivial | refine And.intro rfl ?_)); done) (j155 _ _ hlt eu (by rw [hob]; rfl))
        · have hob : ob = none := by rw [h134] at hb2; exact hb2.no
          refine g_lconst (v := 0) Z dX7_makeOne_137 (by decide) ?_
          refine g_goto Z 155 dX7_makeOne_138 (by decide) ?_
          first | exact g_lv (by (repeat (first | exact trivial | refine And.intro rfl ?_)); done) (j155 _ _ hlt eu (by rw [ho2]; rfl)) | exact g_lv (by (repeat (first | exact trivial | refine And.intro rfl ?_)); done) (j155 _ _ hlt eu (by rw [hob]; rfl))
      refine g_iload Z dX7_makeOne_100 rfl ?_
      refine g_sipush (v := 1024) Z dX7_makeOne_102 (by decide) ?_
      refine g_icmp_ge Z 197 dX7_makeOne_105 (by decide) (fun h105 => ?_) (fun h105 => ?_)
      · have he : w = 1024 := by have := ge_t (N := 1024) (by omega) (by decide) h105; omega
        subst he
        have hbits : ∀ l, l < 65536 → cb D.wd (6 * 16 + V.1) l = cb (jW y oa ob) 0 l := fun l hl => cb_w hwd hl
        have hszD : D.sz (6 * 16 + V.1) = nI (tot (jW y oa ob)) := by rw [hs, show 64 * 1024 = 65536 from rfl, cnt_tot hbits]
        have hm0 := hE.mc (i := V.1) (Nat.lt_succ_self _)
        rw [psh_at] at hm0
        have hmsD := hE.put (i := V.1) (a := (key, 0, (jW y oa ob))) (Nat.lt_succ_self _) hC ⟨by rw [hky]; exact hm0.1, by rw [hkd]; exact hm0.2.1, hszD, hbits⟩
        rw [psh_put] at hmsD
        refine g_aload_n Z dX7_makeOne_197 rfl ?_
        refine g_bipush (v := 16) Z dX7_makeOne_198 (by decide) ?_
        refine g_iload Z dX7_makeOne_200 rfl ?_
        refine g_cvV Z (f_X7_changed F.l F.D F.cy F.nw A x ho _ _ 16 (by decide) _ hmsD V.1 (Nat.lt_succ_self _)) 2 gX7_makeOne_X7_changed rfl (by decide +kernel) (by rw [hRf, hRl]; decide) (by exact mP_x) (κ := 6) (by exact mP_Kx) rfl (by decide) rfl rfl (Nat.le_of_ble_eq_true rfl) dX7_makeOne_202 (by rw [hRc, hRs]; omega) (fun T hp => ?_)
        obtain ⟨E3, rfl, k1, k2, k3⟩ := hp
        rw [psh_at, psh_put] at k2
        have hfin : Ms E3 16 (if 0 < tot (jW y oa ob) then V.psh (key, plK (nI (tot (jW y oa ob))), (jW y oa ob)) else V) := by
          by_cases e : 0 < tot (jW y oa ob)
          · rw [if_pos e] at k2 ⊢; exact k2
          · rw [if_neg e] at k2 ⊢; exact k2.pd
        exact g_lv (by (repeat (first | exact trivial | refine And.intro rfl ?_)); done) (fin E3 hn6 ((hS.tr (hC.me (by omega))).tr k1) hfin (by rw [k3 rfl]; exact hszD))
      · have hlt : w < 1024 := ge_f (by omega) (by decide) h105
        refine g_iload_n Z dX7_makeOne_108 rfl ?_
        refine g_iload_n Z dX7_makeOne_109 rfl ?_
        refine g_iconst (v := (-1)) Z dX7_makeOne_110 (by decide) ?_
        refine g_icmp_ne Z 118 dX7_makeOne_111 (by decide) (fun h111 => ?_) (fun h111 => ?_)
        · obtain ⟨c, v, hc, rfl, ho2, hmc⟩ := ha2.nn h111
          refine g_aload_n Z dX7_makeOne_118 rfl ?_
          refine m_ref_wd Z in6 lk23 dX7_makeOne_119 ?_
          refine g_sipush (v := 1024) Z dX7_makeOne_122 (by decide) ?_
          refine g_iload_n Z dX7_makeOne_125 rfl ?_
          refine g_imul Z dX7_makeOne_126 ?_
          refine g_iload Z dX7_makeOne_127 rfl ?_
          refine g_iadd Z dX7_makeOne_129 ?_
          rw [ixw]
          refine m_ald_wd Z ho dX7_makeOne_130 (by exact vp_in_nI (by omega) (by decide)) ?_
          rw [nI_clamp (by omega), hmc.w hlt]
          first | exact g_lv (by (repeat (first | exact trivial | refine And.intro rfl ?_)); done) (j131 _ hlt (by rw [ho2]; rfl)) | exact g_lv (by (repeat (first | exact trivial | refine And.intro rfl ?_)); done) (j131 _ hlt (by rw [hoa]; rfl))
        · have hoa : oa = none := by rw [h111] at ha2; exact ha2.no
          refine g_lconst (v := 0) Z dX7_makeOne_114 (by decide) ?_
          refine g_goto Z 131 dX7_makeOne_115 (by decide) ?_
          first | exact g_lv (by (repeat (first | exact trivial | refine And.intro rfl ?_)); done) (j131 _ hlt (by rw [ho2]; rfl)) | exact g_lv (by (repeat (first | exact trivial | refine And.intro rfl ?_)); done) (j131 _ hlt (by rw [hoa]; rfl))
  refine g_aload_n Z dX7_makeOne_0 rfl ?_
  refine m_ref_mn Z in6 lk7 dX7_makeOne_1 ?_
  refine g_bipush (v := 16) Z dX7_makeOne_4 (by decide) ?_
  refine m_ald_mn Z ho dX7_makeOne_6 (by exact vp_in_nI (n := 16) (by decide) (by decide)) ?_
  rw [show (16 : Int32).toNatClampNeg = 16 by decide, hV.2.1]
  refine g_bipush (v := 6) Z dX7_makeOne_7 (by decide) ?_
  refine g_icmp_ne Z 88 dX7_makeOne_9 (by decide) (fun h9 => ?_) (fun h9 => ?_)
  · have hn6 : ¬ V.1 = 6 := fun e => h9 (by rw [e]; rfl)
    refine g_aload_n Z dX7_makeOne_88 rfl ?_
    refine g_bipush (v := 16) Z dX7_makeOne_89 (by decide) ?_
    refine g_iload_n Z dX7_makeOne_91 rfl ?_
    refine g_cvI Z (f_X7_made F.l F.D F.cy F.nw A x ho _ _ 16 (by decide) V hV (fun i hi => (hVk.2 i hi).1) hVk.1 (by omega) key hkey (fun i hi => by have := (hVk.2 i hi).2.2.2; omega)) 2 gX7_makeOne_X7_made rfl (by decide +kernel) (by rw [hRf, hRl]; decide) (by exact mP_x) (κ := 6) (by exact mP_Kx) rfl (by decide) rfl rfl (Nat.le_of_ble_eq_true rfl) dX7_makeOne_92 (by rw [hRc, hRs]; omega) (fun r T hp => ?_)
    obtain ⟨E, j, rfl, rfl, hix, hS, hms⟩ := hp
    have hj : j = V.1 := by
      rcases Nat.lt_or_ge j V.1 with q | q
      · have h1 := hix.2.2 q
        have h2 := (hVk.2 j q).2.2.2
        omega
      · exact Nat.le_antisymm hix.1 q
    subst hj
    have hm1 := hms.ip
    have hm0 := hm1.mc (i := V.1) (Nat.lt_succ_self _)
    rw [psh_at] at hm0
    refine g_istore Z dX7_makeOne_95 (by decide) ?_
    refine g_iconst (v := 0) Z dX7_makeOne_97 (by decide) ?_
    refine g_istore Z dX7_makeOne_98 (by decide) ?_
    exact g_lv (by (repeat (first | exact trivial | refine And.intro rfl ?_)); done) (fill 1025 E (by omega) hS hm1 0 E (by omega) ⟨by omega, Mb.rf, rfl, rfl, by rw [hm0.2.2.1, tot_zW]; rfl, fun j hj => by omega⟩)
  · have hn6 : V.1 = 6 := (nI_eq (b := 6) (by omega) (by decide)).mp h9
    refine g_iconst (v := 0) Z dX7_makeOne_12 (by decide) ?_
    refine g_istore Z dX7_makeOne_13 (by decide) ?_
    exact g_lv (by (repeat (first | exact trivial | refine And.intro rfl ?_)); done) (look 1025 0 (by omega) ⟨hn6, by omega, fun j hj => by omega⟩)
