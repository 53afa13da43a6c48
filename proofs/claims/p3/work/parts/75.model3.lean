theorem nI_nm1 {n : Nat} (h : n < 2 ^ 31) : ¬ nI n = -1 := fun e => nI_pos h (by rw [e]; decide)
def InvC (C : C5) : Prop := Okc C ∧ ∀ s, s < 8 → Gd C s
theorem InvC.of {C E : C5} (h : InvC C) {s : Nat} (hS : Se s C E) (hO : Okc E) (hG : Gd E s) : InvC E := ⟨hO, fun t ht => by
  by_cases e : t = s
  · subst e; exact hG
  · exact hS.gd (by omega) e (h.2 t ht)⟩
theorem gc_turn {E : C5} {g : Nat → Int64} {c b : Nat} {v : Int32} (hT : Tn E.wd g c b) (hb : b < 65536) (hg : gc E c) (hv : (cb E.wd c b = 0 ∧ v = E.sz c + 1) ∨ (cb E.wd c b = 1 ∧ v = E.sz c + (-1))) :
    gc ((E.s_wd g).s_sz (upd E.sz c v)) c ∧ Ce c E ((E.s_wd g).s_sz (upd E.sz c v)) := by
  refine ⟨?_, rfl, fun d hd => ⟨rfl, pk_un hd, fun l hl => hT.2 d l hl (Or.inl hd)⟩⟩
  show upd E.sz c v c = nI (ct g c 65536)
  rw [pk_us]
  have h := tn_all hT hb
  unfold gc at hg
  rcases hv with ⟨e, rfl⟩ | ⟨e, rfl⟩
  · rw [e] at h
    rw [hg, nI_1, show ct g c 65536 = ct E.wd c 65536 + 1 by omega]
  · rw [e] at h
    have h2 : ct E.wd c 65536 = ct g c 65536 + 1 := by omega
    rw [hg, h2, pk_m1]
theorem all_gc {E D : C5} {s j n : Nat} (hC : Ce (6 * s + j) E D) (hj : gc D (6 * s + j)) (hg : ∀ i, i < n → gc E (6 * s + i)) : ∀ i, i < n → gc D (6 * s + i) := fun i hi => by
  by_cases e : i = j
  · subst e; exact hj
  · exact hC.gc (by omega) (hg i hi)
theorem Ce.okk {c : Nat} {C D : C5} (h : Ce c C D) (hk : D.ky = C.ky) (k : Okc C) : Okc D := ⟨fun s hs => by rw [h.1]; exact k.1 s hs, fun i hi => by rw [hk]; exact k.2 i hi⟩
theorem isub1 (y : Int32) : y - 1 = y + (-1) := by rw [Int32.sub_eq_add_neg]
theorem cb0 {f : Nat → Int64} {c l : Nat} (h : nI (cb f c l) = 0) : cb f c l = 0 := (nI_eq (by have := cb_le f c l; omega) (by decide)).mp h
theorem cb1 {f : Nat → Int64} {c l : Nat} (h : ¬ nI (cb f c l) = 0) : cb f c l = 1 := one_of (cb_le f c l) (fun e => h (by rw [e]; rfl))

set_option maxRecDepth 100000 in
set_option maxHeartbeats 2000000 in
/-- a number is put in -/
theorem c_X7_add (l : Launch) (D : va_G) (cy : Nat → ClassId) (nw : Nat) (A : Nat → Nat) (x : Nat) (ho : mOk A x) (C : C5) (R : MR) (hI : InvC C) (a v : Int32) : kI l yX7_add wsX7_add 2 48 D cy nw [.ref x, .int a, .int v] (mP A x (C, R)) (fun _ T => ∃ E, mP A x (E, R) = T ∧ InvC E) 0 0 := by
  refine enterI (cc := cX7_add) (nL := 4) (ret := (some .int)) (by decide +kernel) rfl (Nat.le_of_ble_eq_true rfl) ?_
  intro F Z hl hR hD hcy hnw hnm
  subst hl hD hcy hnw
  have hRf : F.R.frames = 2 := by rw [hR]
  have hRc : F.R.cells = 0 := by rw [hR]
  have hRs : F.R.slots = 0 := by rw [hR]
  have hRl : F.R.locals = 48 := by rw [hR]
  have in6 : ∀ w ∈ u_ws RX7 TX7 16, w ∈ wsX7_add := by decide +kernel
  have lk7 : Cond.fieldLink RX7 7 (TX7 0).1 (TX7 0).2.1 (TX7 0).2.2.1 ∈ wsX7_add := by decide +kernel
  have lk19 : Cond.fieldLink RX7 19 (TX7 3).1 (TX7 3).2.1 (TX7 3).2.2.1 ∈ wsX7_add := by decide +kernel
  have ct74 : Cond.constant RX7 74 (65535) ∈ wsX7_add := by decide +kernel
  obtain ⟨key, hkey, ekey⟩ := key16 v
  obtain ⟨b, hb, eb⟩ := low16 v
  have tail : ∀ (E : C5) (s n j : Nat), s < 8 → n ≤ 6 → E.mn s = nI n → j < n → Se s C E → Okc E → (∀ i, i < n → gc E (6 * s + i)) → cb E.wd (6 * s + j) b = 0 → G F 4 (mP A x (E, R)) 0 0 (QI F (fun _ T => ∃ E, mP A x (E, R) = T ∧ InvC E) 0 0) 76 [(0, .ref x), (1, .int (nI s)), (2, .int v)] [.int (nI (6 * s + j))] := by
    intro E s n j hs hn hm hj hS hE hg h0
    refine g_istore_n Z dX7_add_76 (by decide) ?_
    refine g_aload_n Z dX7_add_77 rfl ?_
    refine g_iload_n Z dX7_add_78 rfl ?_
    refine g_iload_n Z dX7_add_79 rfl ?_
    refine g_ldc (v := 65535) Z dX7_add_80 ct74 ?_
    refine g_iand Z dX7_add_82 ?_
    rw [eb]
    refine g_cvV Z (c_X7_turn F.l F.D F.cy F.nw A x ho _ _ _ _ (by omega) hb) 2 gX7_add_X7_turn rfl (by decide +kernel) (by rw [hRf, hRl]; decide) (by exact mP_x) (κ := 6) (by exact mP_Kx) rfl (by decide) rfl rfl (Nat.le_of_ble_eq_true rfl) dX7_add_83 (by rw [hRc, hRs]; omega) (fun T hp => ?_)
    obtain ⟨g, rfl, hT⟩ := hp
    obtain ⟨g1, g2⟩ := gc_turn hT hb (hg j hj) (Or.inl ⟨h0, rfl⟩)
    have hE2 := g2.okk rfl hE
    have hg2 := all_gc g2 g1 hg
    refine g_aload_n Z dX7_add_86 rfl ?_
    refine m_ref_sz Z in6 lk19 dX7_add_87 ?_
    refine g_iload_n Z dX7_add_90 rfl ?_
    refine g_dup2 Z dX7_add_91 rfl rfl ?_
    refine m_ald_sz Z ho dX7_add_92 (by exact vp_in_nI (by omega) (by decide)) ?_
    rw [nI_clamp (by omega)]
    refine g_iconst (v := 1) Z dX7_add_93 (by decide) ?_
    refine g_iadd Z dX7_add_94 ?_
    refine m_ast_sz Z ho dX7_add_95 (by exact vp_in_nI (by omega) (by decide)) ?_
    rw [nI_clamp (by omega)]
    refine g_aload_n Z dX7_add_96 rfl ?_
    refine g_iload_n Z dX7_add_97 rfl ?_
    refine g_iload_n Z dX7_add_98 rfl ?_
    refine g_cvV Z (c_X7_changed F.l F.D F.cy F.nw A x ho _ _ hE2 s (by omega) n hn hm hg2 j hj) 2 gX7_add_X7_changed rfl (by decide +kernel) (by rw [hRf, hRl]; decide) (by exact mP_x) (κ := 6) (by exact mP_Kx) rfl (by decide) rfl rfl (Nat.le_of_ble_eq_true rfl) dX7_add_99 (by rw [hRc, hRs]; omega) (fun T hp => ?_)
    obtain ⟨E3, rfl, k1, k2, k3⟩ := hp
    refine g_iconst (v := 1) Z dX7_add_102 (by decide) ?_
    exact g_iret Z dX7_add_103 (by omega) (by omega) (⟨E3, rfl, hI.of ((hS.tr (g2.se (by omega))).tr k1) k2 k3⟩)
  refine g_iload_n Z dX7_add_0 rfl ?_
  refine g_csI Z (c_X7_isSet F.l F.D F.cy F.nw _ _) 1 gX7_add_X7_isSet rfl (by decide +kernel) (by rw [hRf, hRl]; decide) rfl rfl (Nat.le_of_ble_eq_true rfl) dX7_add_1 (by rw [hRc, hRs]; omega) (fun r T hp => ?_)
  obtain ⟨rfl, his⟩ := hp
  refine g_if_ne Z 10 dX7_add_4 (by decide) (fun h4 => ?_) (fun h4 => ?_)
  · obtain ⟨s, hs, rfl⟩ := his.is h4
    obtain ⟨n, hn, en, hg⟩ := hI.2 s (by omega)
    refine g_aload_n Z dX7_add_10 rfl ?_
    refine g_iload_n Z dX7_add_11 rfl ?_
    refine g_iload_n Z dX7_add_12 rfl ?_
    refine g_bipush (v := 16) Z dX7_add_13 (by decide) ?_
    refine g_iushr Z dX7_add_15 ?_
    rw [ekey]
    refine g_cvI Z (c_X7_containerOf F.l F.D F.cy F.nw A x ho _ _ s (by omega) n hn en _) 2 gX7_add_X7_containerOf rfl (by decide +kernel) (by rw [hRf, hRl]; decide) (by exact mP_x) (κ := 6) (by exact mP_Kx) rfl (by decide) rfl rfl (Nat.le_of_ble_eq_true rfl) dX7_add_16 (by rw [hRc, hRs]; omega) (fun r T hp => ?_)
    obtain ⟨rfl, hr⟩ := hp
    rcases hr with rfl | ⟨j, hj, rfl⟩
    · refine g_istore_n Z dX7_add_19 (by decide) ?_
      refine g_iload_n Z dX7_add_20 rfl ?_
      refine g_iconst (v := (-1)) Z dX7_add_21 (by decide) ?_
      refine g_icmp_ne Z 39 dX7_add_22 (by decide) (fun h22 => absurd (rfl) h22) (fun h22 => ?_)
      refine g_aload_n Z dX7_add_25 rfl ?_
      refine m_ref_mn Z in6 lk7 dX7_add_26 ?_
      refine g_iload_n Z dX7_add_29 rfl ?_
      refine m_ald_mn Z ho dX7_add_30 (by exact vp_in_nI (by omega) (by decide)) ?_
      rw [nI_clamp (by omega), en]
      refine g_bipush (v := 6) Z dX7_add_31 (by decide) ?_
      refine g_icmp_ne Z 39 dX7_add_33 (by decide) (fun h33 => ?_) (fun h33 => ?_)
      · have hn6 : ¬ n = 6 := fun e => h33 (by rw [e]; rfl)
        refine g_iload_n Z dX7_add_39 rfl ?_
        refine g_iconst (v := (-1)) Z dX7_add_40 (by decide) ?_
        refine g_icmp_eq Z 58 dX7_add_41 (by decide) (fun h41 => ?_) (fun h41 => absurd (rfl) h41)
        refine g_iload_n Z dX7_add_58 rfl ?_
        refine g_iconst (v := (-1)) Z dX7_add_59 (by decide) ?_
        refine g_icmp_ne Z 75 dX7_add_60 (by decide) (fun h60 => absurd (rfl) h60) (fun h60 => ?_)
        refine g_aload_n Z dX7_add_63 rfl ?_
        refine g_iload_n Z dX7_add_64 rfl ?_
        refine g_iload_n Z dX7_add_65 rfl ?_
        refine g_bipush (v := 16) Z dX7_add_66 (by decide) ?_
        refine g_iushr Z dX7_add_68 ?_
        rw [ekey]
        refine g_cvI Z (c_X7_made F.l F.D F.cy F.nw A x ho _ _ hI.1 s (by omega) n (by omega) en hg key hkey) 2 gX7_add_X7_made rfl (by decide +kernel) (by rw [hRf, hRl]; decide) (by exact mP_x) (κ := 6) (by exact mP_Kx) rfl (by decide) rfl rfl (Nat.le_of_ble_eq_true rfl) dX7_add_69 (by rw [hRc, hRs]; omega) (fun r T hp => ?_)
        obtain ⟨E, j, rfl, rfl, e1, e2, e3, e4, e5, e6, e7⟩ := hp
        refine g_goto Z 76 dX7_add_72 (by decide) ?_
        exact g_lv (by (repeat (first | exact trivial | refine And.intro rfl ?_)); done) (tail E s (n + 1) j (by omega) (by omega) e2 (by omega) e3 e4 (fun i hi => e5 i (by omega)) (e7 b hb))
      · refine g_bipush (v := (-3)) Z dX7_add_36 (by decide) ?_
        exact g_iret Z dX7_add_38 (by omega) (by omega) (⟨C, rfl, hI⟩)
    · refine g_istore_n Z dX7_add_19 (by decide) ?_
      refine g_iload_n Z dX7_add_20 rfl ?_
      refine g_iconst (v := (-1)) Z dX7_add_21 (by decide) ?_
      refine g_icmp_ne Z 39 dX7_add_22 (by decide) (fun h22 => ?_) (fun h22 => absurd h22 (nI_nm1 (by omega)))
      refine g_iload_n Z dX7_add_39 rfl ?_
      refine g_iconst (v := (-1)) Z dX7_add_40 (by decide) ?_
      refine g_icmp_eq Z 58 dX7_add_41 (by decide) (fun h41 => absurd h41 (nI_nm1 (by omega))) (fun h41 => ?_)
      refine g_aload_n Z dX7_add_44 rfl ?_
      refine g_iload_n Z dX7_add_45 rfl ?_
      refine g_iload_n Z dX7_add_46 rfl ?_
      refine g_ldc (v := 65535) Z dX7_add_47 ct74 ?_
      refine g_iand Z dX7_add_49 ?_
      rw [eb]
      refine g_cvI Z (c_X7_hasLow F.l F.D F.cy F.nw A x ho _ _ _ _ (by omega) hb) 2 gX7_add_X7_hasLow rfl (by decide +kernel) (by rw [hRf, hRl]; decide) (by exact mP_x) (κ := 6) (by exact mP_Kx) rfl (by decide) rfl rfl (Nat.le_of_ble_eq_true rfl) dX7_add_50 (by rw [hRc, hRs]; omega) (fun r T hp => ?_)
      obtain ⟨rfl, rfl⟩ := hp
      refine g_if_eq Z 58 dX7_add_53 (by decide) (fun h53 => ?_) (fun h53 => ?_)
      · have h0 := cb0 h53
        refine g_iload_n Z dX7_add_58 rfl ?_
        refine g_iconst (v := (-1)) Z dX7_add_59 (by decide) ?_
        refine g_icmp_ne Z 75 dX7_add_60 (by decide) (fun h60 => ?_) (fun h60 => absurd h60 (nI_nm1 (by omega)))
        refine g_iload_n Z dX7_add_75 rfl ?_
        exact g_lv (by (repeat (first | exact trivial | refine And.intro rfl ?_)); done) (tail C s n j (by omega) hn en hj Se.rf hI.1 hg h0)
      · refine g_iconst (v := 0) Z dX7_add_56 (by decide) ?_
        exact g_iret Z dX7_add_57 (by omega) (by omega) (⟨C, rfl, hI⟩)
  · refine g_bipush (v := (-2)) Z dX7_add_7 (by decide) ?_
    exact g_iret Z dX7_add_9 (by omega) (by omega) (⟨C, rfl, hI⟩)

set_option maxRecDepth 100000 in
set_option maxHeartbeats 2000000 in
/-- a number is taken out -/
theorem c_X7_remove (l : Launch) (D : va_G) (cy : Nat → ClassId) (nw : Nat) (A : Nat → Nat) (x : Nat) (ho : mOk A x) (C : C5) (R : MR) (hI : InvC C) (a v : Int32) : kI l yX7_remove wsX7_remove 2 46 D cy nw [.ref x, .int a, .int v] (mP A x (C, R)) (fun _ T => ∃ E, mP A x (E, R) = T ∧ InvC E) 0 0 := by
  refine enterI (cc := cX7_remove) (nL := 4) (ret := (some .int)) (by decide +kernel) rfl (Nat.le_of_ble_eq_true rfl) ?_
  intro F Z hl hR hD hcy hnw hnm
  subst hl hD hcy hnw
  have hRf : F.R.frames = 2 := by rw [hR]
  have hRc : F.R.cells = 0 := by rw [hR]
  have hRs : F.R.slots = 0 := by rw [hR]
  have hRl : F.R.locals = 46 := by rw [hR]
  have in6 : ∀ w ∈ u_ws RX7 TX7 16, w ∈ wsX7_remove := by decide +kernel
  have lk19 : Cond.fieldLink RX7 19 (TX7 3).1 (TX7 3).2.1 (TX7 3).2.2.1 ∈ wsX7_remove := by decide +kernel
  have ct74 : Cond.constant RX7 74 (65535) ∈ wsX7_remove := by decide +kernel
  obtain ⟨key, hkey, ekey⟩ := key16 v
  obtain ⟨b, hb, eb⟩ := low16 v
  refine g_iload_n Z dX7_remove_0 rfl ?_
  refine g_csI Z (c_X7_isSet F.l F.D F.cy F.nw _ _) 1 gX7_remove_X7_isSet rfl (by decide +kernel) (by rw [hRf, hRl]; decide) rfl rfl (Nat.le_of_ble_eq_true rfl) dX7_remove_1 (by rw [hRc, hRs]; omega) (fun r T hp => ?_)
  obtain ⟨rfl, his⟩ := hp
  refine g_if_ne Z 10 dX7_remove_4 (by decide) (fun h4 => ?_) (fun h4 => ?_)
  · obtain ⟨s, hs, rfl⟩ := his.is h4
    obtain ⟨n, hn, en, hg⟩ := hI.2 s (by omega)
    refine g_aload_n Z dX7_remove_10 rfl ?_
    refine g_iload_n Z dX7_remove_11 rfl ?_
    refine g_iload_n Z dX7_remove_12 rfl ?_
    refine g_bipush (v := 16) Z dX7_remove_13 (by decide) ?_
    refine g_iushr Z dX7_remove_15 ?_
    rw [ekey]
    refine g_cvI Z (c_X7_containerOf F.l F.D F.cy F.nw A x ho _ _ s (by omega) n hn en _) 2 gX7_remove_X7_containerOf rfl (by decide +kernel) (by rw [hRf, hRl]; decide) (by exact mP_x) (κ := 6) (by exact mP_Kx) rfl (by decide) rfl rfl (Nat.le_of_ble_eq_true rfl) dX7_remove_16 (by rw [hRc, hRs]; omega) (fun r T hp => ?_)
    obtain ⟨rfl, hr⟩ := hp
    rcases hr with rfl | ⟨j, hj, rfl⟩
    · refine g_istore_n Z dX7_remove_19 (by decide) ?_
      refine g_iload_n Z dX7_remove_20 rfl ?_
      refine g_iconst (v := (-1)) Z dX7_remove_21 (by decide) ?_
      refine g_icmp_eq Z 37 dX7_remove_22 (by decide) (fun h22 => ?_) (fun h22 => absurd (rfl) h22)
      refine g_iconst (v := 0) Z dX7_remove_37 (by decide) ?_
      exact g_iret Z dX7_remove_38 (by omega) (by omega) (⟨C, rfl, hI⟩)
    · refine g_istore_n Z dX7_remove_19 (by decide) ?_
      refine g_iload_n Z dX7_remove_20 rfl ?_
      refine g_iconst (v := (-1)) Z dX7_remove_21 (by decide) ?_
      refine g_icmp_eq Z 37 dX7_remove_22 (by decide) (fun h22 => absurd h22 (nI_nm1 (by omega))) (fun h22 => ?_)
      refine g_aload_n Z dX7_remove_25 rfl ?_
      refine g_iload_n Z dX7_remove_26 rfl ?_
      refine g_iload_n Z dX7_remove_27 rfl ?_
      refine g_ldc (v := 65535) Z dX7_remove_28 ct74 ?_
      refine g_iand Z dX7_remove_30 ?_
      rw [eb]
      refine g_cvI Z (c_X7_hasLow F.l F.D F.cy F.nw A x ho _ _ _ _ (by omega) hb) 2 gX7_remove_X7_hasLow rfl (by decide +kernel) (by rw [hRf, hRl]; decide) (by exact mP_x) (κ := 6) (by exact mP_Kx) rfl (by decide) rfl rfl (Nat.le_of_ble_eq_true rfl) dX7_remove_31 (by rw [hRc, hRs]; omega) (fun r T hp => ?_)
      obtain ⟨rfl, rfl⟩ := hp
      refine g_if_ne Z 39 dX7_remove_34 (by decide) (fun h34 => ?_) (fun h34 => ?_)
      · have h0 := cb1 h34
        refine g_aload_n Z dX7_remove_39 rfl ?_
        refine g_iload_n Z dX7_remove_40 rfl ?_
        refine g_iload_n Z dX7_remove_41 rfl ?_
        refine g_ldc (v := 65535) Z dX7_remove_42 ct74 ?_
        refine g_iand Z dX7_remove_44 ?_
        rw [eb]
        refine g_cvV Z (c_X7_turn F.l F.D F.cy F.nw A x ho _ _ _ _ (by omega) hb) 2 gX7_remove_X7_turn rfl (by decide +kernel) (by rw [hRf, hRl]; decide) (by exact mP_x) (κ := 6) (by exact mP_Kx) rfl (by decide) rfl rfl (Nat.le_of_ble_eq_true rfl) dX7_remove_45 (by rw [hRc, hRs]; omega) (fun T hp => ?_)
        obtain ⟨g, rfl, hT⟩ := hp
        obtain ⟨g1, g2⟩ := gc_turn hT hb (hg j hj) (Or.inr ⟨h0, rfl⟩)
        have hE2 := g2.okk rfl hI.1
        have hg2 := all_gc g2 g1 hg
        refine g_aload_n Z dX7_remove_48 rfl ?_
        refine m_ref_sz Z in6 lk19 dX7_remove_49 ?_
        refine g_iload_n Z dX7_remove_52 rfl ?_
        refine g_dup2 Z dX7_remove_53 rfl rfl ?_
        refine m_ald_sz Z ho dX7_remove_54 (by exact vp_in_nI (by omega) (by decide)) ?_
        rw [nI_clamp (by omega)]
        refine g_iconst (v := 1) Z dX7_remove_55 (by decide) ?_
        refine g_isub Z dX7_remove_56 ?_
        rw [isub1]
        refine m_ast_sz Z ho dX7_remove_57 (by exact vp_in_nI (by omega) (by decide)) ?_
        rw [nI_clamp (by omega)]
        refine g_aload_n Z dX7_remove_58 rfl ?_
        refine g_iload_n Z dX7_remove_59 rfl ?_
        refine g_iload_n Z dX7_remove_60 rfl ?_
        refine g_cvV Z (c_X7_changed F.l F.D F.cy F.nw A x ho _ _ hE2 s (by omega) n hn en hg2 j hj) 2 gX7_remove_X7_changed rfl (by decide +kernel) (by rw [hRf, hRl]; decide) (by exact mP_x) (κ := 6) (by exact mP_Kx) rfl (by decide) rfl rfl (Nat.le_of_ble_eq_true rfl) dX7_remove_61 (by rw [hRc, hRs]; omega) (fun T hp => ?_)
        obtain ⟨E3, rfl, k1, k2, k3⟩ := hp
        refine g_iconst (v := 1) Z dX7_remove_64 (by decide) ?_
        exact g_iret Z dX7_remove_65 (by omega) (by omega) (⟨E3, rfl, hI.of ((g2.se (by omega)).tr k1) k2 k3⟩)
      · refine g_iconst (v := 0) Z dX7_remove_37 (by decide) ?_
        exact g_iret Z dX7_remove_38 (by omega) (by omega) (⟨C, rfl, hI⟩)
  · refine g_bipush (v := (-2)) Z dX7_remove_7 (by decide) ?_
    exact g_iret Z dX7_remove_9 (by omega) (by omega) (⟨C, rfl, hI⟩)

set_option maxRecDepth 100000 in
set_option maxHeartbeats 2000000 in
/-- numbers are put in, taken out, turned -/
theorem c_X7_sweep (l : Launch) (D : va_G) (cy : Nat → ClassId) (nw : Nat) (A : Nat → Nat) (x : Nat) (ho : mOk A x) (C : C5) (R : MR) (hI : InvC C) (s : Nat) (hs : s < 8) (key : Nat) (hkey : key < 65536) (f t q : Nat) (hf : f < 65536) (ht : t < 65536) (hq : 1 ≤ q) (hq2 : q < 65536) (h : Int32) : kI l yX7_sweep wsX7_sweep 2 48 D cy nw [.ref x, .int (nI s), .int (nI key), .int (nI f), .int (nI t), .int (nI q), .int h] (mP A x (C, R)) (fun _ T => ∃ E, mP A x (E, R) = T ∧ InvC E) 0 0 := by
  refine enterI (cc := cX7_sweep) (nL := 11) (ret := (some .int)) (by decide +kernel) rfl (Nat.le_of_ble_eq_true rfl) ?_
  intro F Z hl hR hD hcy hnw hnm
  subst hl hD hcy hnw
  have hRf : F.R.frames = 2 := by rw [hR]
  have hRc : F.R.cells = 0 := by rw [hR]
  have hRs : F.R.slots = 0 := by rw [hR]
  have hRl : F.R.locals = 48 := by rw [hR]
  have in6 : ∀ w ∈ u_ws RX7 TX7 16, w ∈ wsX7_sweep := by decide +kernel
  have lk7 : Cond.fieldLink RX7 7 (TX7 0).1 (TX7 0).2.1 (TX7 0).2.2.1 ∈ wsX7_sweep := by decide +kernel
  have lk19 : Cond.fieldLink RX7 19 (TX7 3).1 (TX7 3).2.1 (TX7 3).2.2.1 ∈ wsX7_sweep := by decide +kernel
  have loop : ∀ (n n1 j : Nat), n1 ≤ 6 → j < n1 → ∀ (b : Nat) (E : C5) (ch : Int32), 131072 - b < n → (b < 131072 ∧ Se s C E ∧ Okc E ∧ E.mn s = nI n1 ∧ ∀ i, i < n1 → gc E (6 * s + i)) → G F 11 (mP A x (E, R)) 0 0 (QI F (fun _ T => ∃ E, mP A x (E, R) = T ∧ InvC E) 0 0) 71 [(0, .ref x), (1, .int (nI s)), (4, .int (nI t)), (5, .int (nI q)), (6, .int h), (7, .int (nI (6 * s + j))), (8, .int ch), (9, .int (nI b))] [] := by
    intro n n1 j hn1 hj
    induction n with
    | zero => intros; omega
    | succ n ih =>
      intro b E ch hn ⟨hb, hS, hE, hm, hg⟩
      have next : ∀ (D : C5) (ch2 y : Int32), b ≤ t → Se s C D → Okc D → D.mn s = nI n1 → (∀ i, i < n1 → gc D (6 * s + i)) → G F 11 (mP A x (D, R)) 0 0 (QI F (fun _ T => ∃ E, mP A x (E, R) = T ∧ InvC E) 0 0) 141 [(0, .ref x), (1, .int (nI s)), (4, .int (nI t)), (5, .int (nI q)), (6, .int h), (7, .int (nI (6 * s + j))), (8, .int ch2), (9, .int (nI b)), (10, .int y)] [] := by
        intro D ch2 y hbt hS2 hE2 hm2 hg2
        refine g_iload Z dX7_sweep_141 rfl ?_
        refine g_iload Z dX7_sweep_143 rfl ?_
        refine g_iadd Z dX7_sweep_145 ?_
        rw [nI_add]
        refine g_istore Z dX7_sweep_146 (by decide) ?_
        refine g_goto Z 71 dX7_sweep_148 (by decide) ?_
        exact g_lv (by (repeat (first | exact trivial | refine And.intro rfl ?_)); done) (ih (b + q) D ch2 (by omega) ⟨by omega, hS2, hE2, hm2, hg2⟩)
      have flip : b ≤ t → G F 11 (mP A x (E, R)) 0 0 (QI F (fun _ T => ∃ E, mP A x (E, R) = T ∧ InvC E) 0 0) 110 [(0, .ref x), (1, .int (nI s)), (4, .int (nI t)), (5, .int (nI q)), (6, .int h), (7, .int (nI (6 * s + j))), (8, .int ch), (9, .int (nI b)), (10, .int (nI (cb E.wd (6 * s + j) b)))] [] := by
        intro hbt
        refine g_aload_n Z dX7_sweep_110 rfl ?_
        refine g_iload Z dX7_sweep_111 rfl ?_
        refine g_iload Z dX7_sweep_113 rfl ?_
        refine g_cvV Z (c_X7_turn F.l F.D F.cy F.nw A x ho _ _ _ _ (by omega) (by omega)) 2 gX7_sweep_X7_turn rfl (by decide +kernel) (by rw [hRf, hRl]; decide) (by exact mP_x) (κ := 6) (by exact mP_Kx) rfl (by decide) rfl rfl (Nat.le_of_ble_eq_true rfl) dX7_sweep_115 (by rw [hRc, hRs]; omega) (fun T hp => ?_)
        obtain ⟨g, rfl, hT⟩ := hp
        refine g_aload_n Z dX7_sweep_118 rfl ?_
        refine m_ref_sz Z in6 lk19 dX7_sweep_119 ?_
        refine g_iload Z dX7_sweep_122 rfl ?_
        refine g_dup2 Z dX7_sweep_124 rfl rfl ?_
        refine m_ald_sz Z ho dX7_sweep_125 (by exact vp_in_nI (by omega) (by decide)) ?_
        rw [nI_clamp (by omega)]
        refine g_iload Z dX7_sweep_126 rfl ?_
        refine g_if_eq Z 135 dX7_sweep_128 (by decide) (fun h128 => ?_) (fun h128 => ?_)
        · obtain ⟨g1, g2⟩ := gc_turn hT (by omega) (hg j hj) (Or.inl ⟨cb0 h128, rfl⟩)
          have hg2 := all_gc g2 g1 hg
          refine g_iconst (v := 1) Z dX7_sweep_135 (by decide) ?_
          refine g_iadd Z dX7_sweep_136 ?_
          refine m_ast_sz Z ho dX7_sweep_137 (by exact vp_in_nI (by omega) (by decide)) ?_
          rw [nI_clamp (by omega)]
          refine g_iconst (v := 1) Z dX7_sweep_138 (by decide) ?_
          refine g_istore Z dX7_sweep_139 (by decide) ?_
          exact g_lv (by (repeat (first | exact trivial | refine And.intro rfl ?_)); done) (next _ _ _ hbt (hS.tr (g2.se (by omega))) (g2.okk rfl hE) hm hg2)
        · obtain ⟨g1, g2⟩ := gc_turn hT (by omega) (hg j hj) (Or.inr ⟨cb1 h128, rfl⟩)
          have hg2 := all_gc g2 g1 hg
          refine g_iconst (v := (-1)) Z dX7_sweep_131 (by decide) ?_
          refine g_goto Z 136 dX7_sweep_132 (by decide) ?_
          refine g_iadd Z dX7_sweep_136 ?_
          refine m_ast_sz Z ho dX7_sweep_137 (by exact vp_in_nI (by omega) (by decide)) ?_
          rw [nI_clamp (by omega)]
          refine g_iconst (v := 1) Z dX7_sweep_138 (by decide) ?_
          refine g_istore Z dX7_sweep_139 (by decide) ?_
          exact g_lv (by (repeat (first | exact trivial | refine And.intro rfl ?_)); done) (next _ _ _ hbt (hS.tr (g2.se (by omega))) (g2.okk rfl hE) hm hg2)
      have done : ∀ (D : C5), Se s C D → Okc D → Gd D s → G F 11 (mP A x (D, R)) 0 0 (QI F (fun _ T => ∃ E, mP A x (E, R) = T ∧ InvC E) 0 0) 163 [(0, .ref x), (1, .int (nI s))] [] := by
        intro D hS2 hE2 hG2
        refine g_aload_n Z dX7_sweep_163 rfl ?_
        refine g_iload_n Z dX7_sweep_164 rfl ?_
        refine g_cvI Z (c_X7_all F.l F.D F.cy F.nw A x ho _ _ hE2 _ (by omega)) 1 gX7_sweep_X7_all rfl (by decide +kernel) (by rw [hRf, hRl]; decide) (by exact mP_x) (κ := 6) (by exact mP_Kx) rfl (by decide) rfl rfl (Nat.le_of_ble_eq_true rfl) dX7_sweep_165 (by rw [hRc, hRs]; omega) (fun r T hp => ?_)
        subst hp
        exact g_iret Z dX7_sweep_168 (by omega) (by omega) (⟨D, rfl, hI.of hS2 hE2 hG2⟩)
      refine g_iload Z dX7_sweep_71 rfl ?_
      refine g_iload Z dX7_sweep_73 rfl ?_
      refine g_icmp_gt Z 151 dX7_sweep_75 (by decide) (fun h75 => ?_) (fun h75 => ?_)
      · refine g_iload Z dX7_sweep_151 rfl ?_
        refine g_if_eq Z 163 dX7_sweep_153 (by decide) (fun h153 => ?_) (fun h153 => ?_)
        · first | exact g_lv (by (repeat (first | exact trivial | refine And.intro rfl ?_)); done) (done E hS hE ⟨n1, hn1, hm, hg⟩) | exact g_lv (by (repeat (first | exact trivial | refine And.intro rfl ?_)); done) (done E3 (hS.tr k1) k2 k3)
        · refine g_aload_n Z dX7_sweep_156 rfl ?_
          refine g_iload_n Z dX7_sweep_157 rfl ?_
          refine g_iload Z dX7_sweep_158 rfl ?_
          refine g_cvV Z (c_X7_changed F.l F.D F.cy F.nw A x ho _ _ hE s (by omega) n1 hn1 hm hg j hj) 2 gX7_sweep_X7_changed rfl (by decide +kernel) (by rw [hRf, hRl]; decide) (by exact mP_x) (κ := 6) (by exact mP_Kx) rfl (by decide) rfl rfl (Nat.le_of_ble_eq_true rfl) dX7_sweep_160 (by rw [hRc, hRs]; omega) (fun T hp => ?_)
          obtain ⟨E3, rfl, k1, k2, k3⟩ := hp
          first | exact g_lv (by (repeat (first | exact trivial | refine And.intro rfl ?_)); done) (done E hS hE ⟨n1, hn1, hm, hg⟩) | exact g_lv (by (repeat (first | exact trivial | refine And.intro rfl ?_)); done) (done E3 (hS.tr k1) k2 k3)
      · have hbt : b ≤ t := gt_f (by omega) (by omega) h75
        refine g_aload_n Z dX7_sweep_78 rfl ?_
        refine g_iload Z dX7_sweep_79 rfl ?_
        refine g_iload Z dX7_sweep_81 rfl ?_
        refine g_cvI Z (c_X7_hasLow F.l F.D F.cy F.nw A x ho _ _ _ _ (by omega) (by omega)) 2 gX7_sweep_X7_hasLow rfl (by decide +kernel) (by rw [hRf, hRl]; decide) (by exact mP_x) (κ := 6) (by exact mP_Kx) rfl (by decide) rfl rfl (Nat.le_of_ble_eq_true rfl) dX7_sweep_83 (by rw [hRc, hRs]; omega) (fun r T hp => ?_)
        obtain ⟨rfl, rfl⟩ := hp
        refine g_istore Z dX7_sweep_86 (by decide) ?_
        refine g_iload Z dX7_sweep_88 rfl ?_
        refine g_iconst (v := 2) Z dX7_sweep_90 (by decide) ?_
        refine g_icmp_eq Z 110 dX7_sweep_91 (by decide) (fun h91 => ?_) (fun h91 => ?_)
        · exact g_lv (by (repeat (first | exact trivial | refine And.intro rfl ?_)); done) (flip hbt)
        · refine g_iload Z dX7_sweep_94 rfl ?_
          refine g_iload Z dX7_sweep_96 rfl ?_
          refine g_iconst (v := 1) Z dX7_sweep_98 (by decide) ?_
          refine g_icmp_ne Z 106 dX7_sweep_99 (by decide) (fun h99 => ?_) (fun h99 => ?_)
          · refine g_iconst (v := 0) Z dX7_sweep_106 (by decide) ?_
            refine g_icmp_ne Z 141 dX7_sweep_107 (by decide) (fun h107 => ?_) (fun h107 => ?_)
            · exact g_lv (by (repeat (first | exact trivial | refine And.intro rfl ?_)); done) (next E _ _ hbt hS hE hm hg)
            · exact g_lv (by (repeat (first | exact trivial | refine And.intro rfl ?_)); done) (flip hbt)
          · refine g_iconst (v := 1) Z dX7_sweep_102 (by decide) ?_
            refine g_goto Z 107 dX7_sweep_103 (by decide) ?_
            refine g_icmp_ne Z 141 dX7_sweep_107 (by decide) (fun h107 => ?_) (fun h107 => ?_)
            · exact g_lv (by (repeat (first | exact trivial | refine And.intro rfl ?_)); done) (next E _ _ hbt hS hE hm hg)
            · exact g_lv (by (repeat (first | exact trivial | refine And.intro rfl ?_)); done) (flip hbt)
  obtain ⟨n0, hn0, en, hg0⟩ := hI.2 s hs
  refine g_aload_n Z dX7_sweep_0 rfl ?_
  refine g_iload_n Z dX7_sweep_1 rfl ?_
  refine g_iload_n Z dX7_sweep_2 rfl ?_
  refine g_cvI Z (c_X7_containerOf F.l F.D F.cy F.nw A x ho _ _ s (by omega) n0 hn0 en _) 2 gX7_sweep_X7_containerOf rfl (by decide +kernel) (by rw [hRf, hRl]; decide) (by exact mP_x) (κ := 6) (by exact mP_Kx) rfl (by decide) rfl rfl (Nat.le_of_ble_eq_true rfl) dX7_sweep_3 (by rw [hRc, hRs]; omega) (fun r T hp => ?_)
  obtain ⟨rfl, hr⟩ := hp
  rcases hr with rfl | ⟨j, hj, rfl⟩
  · refine g_istore Z dX7_sweep_6 (by decide) ?_
    refine g_iload Z dX7_sweep_8 rfl ?_
    refine g_iconst (v := (-1)) Z dX7_sweep_10 (by decide) ?_
    refine g_icmp_ne Z 26 dX7_sweep_11 (by decide) (fun h11 => absurd (rfl) h11) (fun h11 => ?_)
    refine g_iload Z dX7_sweep_14 rfl ?_
    refine g_iconst (v := 1) Z dX7_sweep_16 (by decide) ?_
    refine g_icmp_ne Z 26 dX7_sweep_17 (by decide) (fun h17 => ?_) (fun h17 => ?_)
    · refine g_iload Z dX7_sweep_26 rfl ?_
      refine g_iconst (v := (-1)) Z dX7_sweep_28 (by decide) ?_
      refine g_icmp_ne Z 46 dX7_sweep_29 (by decide) (fun h29 => absurd (rfl) h29) (fun h29 => ?_)
      refine g_aload_n Z dX7_sweep_32 rfl ?_
      refine m_ref_mn Z in6 lk7 dX7_sweep_33 ?_
      refine g_iload_n Z dX7_sweep_36 rfl ?_
      refine m_ald_mn Z ho dX7_sweep_37 (by exact vp_in_nI (by omega) (by decide)) ?_
      rw [nI_clamp (by omega), en]
      refine g_bipush (v := 6) Z dX7_sweep_38 (by decide) ?_
      refine g_icmp_ne Z 46 dX7_sweep_40 (by decide) (fun h40 => ?_) (fun h40 => ?_)
      · have hn6 : ¬ n0 = 6 := fun e => h40 (by rw [e]; rfl)
        refine g_iload Z dX7_sweep_46 rfl ?_
        refine g_iconst (v := (-1)) Z dX7_sweep_48 (by decide) ?_
        refine g_icmp_ne Z 61 dX7_sweep_49 (by decide) (fun h49 => absurd (rfl) h49) (fun h49 => ?_)
        refine g_aload_n Z dX7_sweep_52 rfl ?_
        refine g_iload_n Z dX7_sweep_53 rfl ?_
        refine g_iload_n Z dX7_sweep_54 rfl ?_
        refine g_cvI Z (c_X7_made F.l F.D F.cy F.nw A x ho _ _ hI.1 s (by omega) n0 (by omega) en hg0 key hkey) 2 gX7_sweep_X7_made rfl (by decide +kernel) (by rw [hRf, hRl]; decide) (by exact mP_x) (κ := 6) (by exact mP_Kx) rfl (by decide) rfl rfl (Nat.le_of_ble_eq_true rfl) dX7_sweep_55 (by rw [hRc, hRs]; omega) (fun r T hp => ?_)
        obtain ⟨E, j, rfl, rfl, e1, e2, e3, e4, e5, e6, e7⟩ := hp
        refine g_goto Z 63 dX7_sweep_58 (by decide) ?_
        refine g_istore Z dX7_sweep_63 (by decide) ?_
        refine g_iconst (v := 0) Z dX7_sweep_65 (by decide) ?_
        refine g_istore Z dX7_sweep_66 (by decide) ?_
        refine g_iload_n Z dX7_sweep_68 rfl ?_
        refine g_istore Z dX7_sweep_69 (by decide) ?_
        exact g_lv (by (repeat (first | exact trivial | refine And.intro rfl ?_)); done) (loop 131073 (n0 + 1) j (by omega) (by omega) f E _ (by omega) ⟨by omega, e3, e4, e2, fun i hi => e5 i (by omega)⟩)
      · refine g_bipush (v := (-3)) Z dX7_sweep_43 (by decide) ?_
        exact g_iret Z dX7_sweep_45 (by omega) (by omega) (⟨C, rfl, hI⟩)
    · refine g_aload_n Z dX7_sweep_20 rfl ?_
      refine g_iload_n Z dX7_sweep_21 rfl ?_
      refine g_cvI Z (c_X7_all F.l F.D F.cy F.nw A x ho _ _ hI.1 _ (by omega)) 1 gX7_sweep_X7_all rfl (by decide +kernel) (by rw [hRf, hRl]; decide) (by exact mP_x) (κ := 6) (by exact mP_Kx) rfl (by decide) rfl rfl (Nat.le_of_ble_eq_true rfl) dX7_sweep_22 (by rw [hRc, hRs]; omega) (fun r T hp => ?_)
      subst hp
      exact g_iret Z dX7_sweep_25 (by omega) (by omega) (⟨C, rfl, hI⟩)
  · refine g_istore Z dX7_sweep_6 (by decide) ?_
    refine g_iload Z dX7_sweep_8 rfl ?_
    refine g_iconst (v := (-1)) Z dX7_sweep_10 (by decide) ?_
    refine g_icmp_ne Z 26 dX7_sweep_11 (by decide) (fun h11 => ?_) (fun h11 => absurd h11 (nI_nm1 (by omega)))
    refine g_iload Z dX7_sweep_26 rfl ?_
    refine g_iconst (v := (-1)) Z dX7_sweep_28 (by decide) ?_
    refine g_icmp_ne Z 46 dX7_sweep_29 (by decide) (fun h29 => ?_) (fun h29 => absurd h29 (nI_nm1 (by omega)))
    refine g_iload Z dX7_sweep_46 rfl ?_
    refine g_iconst (v := (-1)) Z dX7_sweep_48 (by decide) ?_
    refine g_icmp_ne Z 61 dX7_sweep_49 (by decide) (fun h49 => ?_) (fun h49 => absurd h49 (nI_nm1 (by omega)))
    refine g_iload Z dX7_sweep_61 rfl ?_
    refine g_istore Z dX7_sweep_63 (by decide) ?_
    refine g_iconst (v := 0) Z dX7_sweep_65 (by decide) ?_
    refine g_istore Z dX7_sweep_66 (by decide) ?_
    refine g_iload_n Z dX7_sweep_68 rfl ?_
    refine g_istore Z dX7_sweep_69 (by decide) ?_
    exact g_lv (by (repeat (first | exact trivial | refine And.intro rfl ?_)); done) (loop 131073 n0 j hn0 hj f C _ (by omega) ⟨by omega, Se.rf, hI.1, en, hg0⟩)

set_option maxRecDepth 100000 in
set_option maxHeartbeats 2000000 in
/-- a range -/
theorem c_X7_range (l : Launch) (D : va_G) (cy : Nat → ClassId) (nw : Nat) (A : Nat → Nat) (x : Nat) (ho : mOk A x) (C : C5) (R : MR) (hI : InvC C) (a b c d e : Int32) : kI l yX7_range wsX7_range 3 78 D cy nw [.ref x, .int a, .int b, .int c, .int d, .int e] (mP A x (C, R)) (fun _ T => ∃ E, mP A x (E, R) = T ∧ InvC E) 0 0 := by
  refine enterI (cc := cX7_range) (nL := 6) (ret := (some .int)) (by decide +kernel) rfl (Nat.le_of_ble_eq_true rfl) ?_
  intro F Z hl hR hD hcy hnw hnm
  subst hl hD hcy hnw
  have hRf : F.R.frames = 3 := by rw [hR]
  have hRc : F.R.cells = 0 := by rw [hR]
  have hRs : F.R.slots = 0 := by rw [hR]
  have hRl : F.R.locals = 78 := by rw [hR]
  have in6 : ∀ w ∈ u_ws RX7 TX7 16, w ∈ wsX7_range := by decide +kernel
  have ct94 : Cond.constantLong RX7 94 (2) ∈ wsX7_range := by decide +kernel
  refine g_iload_n Z dX7_range_0 rfl ?_
  refine g_csI Z (c_X7_isSet F.l F.D F.cy F.nw _ _) 1 gX7_range_X7_isSet rfl (by decide +kernel) (by rw [hRf, hRl]; decide) rfl rfl (Nat.le_of_ble_eq_true rfl) dX7_range_1 (by rw [hRc, hRs]; omega) (fun r T hp => ?_)
  obtain ⟨rfl, his⟩ := hp
  refine g_if_eq Z 48 dX7_range_4 (by decide) (fun h4 => ?_) (fun h4 => ?_)
  · refine g_bipush (v := (-2)) Z dX7_range_48 (by decide) ?_
    exact g_iret Z dX7_range_50 (by omega) (by omega) (⟨C, rfl, hI⟩)
  · obtain ⟨s, hs, rfl⟩ := his.is h4
    refine g_iload_n Z dX7_range_7 rfl ?_
    refine g_csI Z (c_X7_isLow F.l F.D F.cy F.nw _ _) 1 gX7_range_X7_isLow rfl (by decide +kernel) (by rw [hRf, hRl]; decide) rfl rfl (Nat.le_of_ble_eq_true rfl) dX7_range_8 (by rw [hRc, hRs]; omega) (fun r T hp => ?_)
    obtain ⟨rfl, hik⟩ := hp
    refine g_if_eq Z 48 dX7_range_11 (by decide) (fun h11 => ?_) (fun h11 => ?_)
    · refine g_bipush (v := (-2)) Z dX7_range_48 (by decide) ?_
      exact g_iret Z dX7_range_50 (by omega) (by omega) (⟨C, rfl, hI⟩)
    · obtain ⟨key, hkey, rfl⟩ := hik.is h11
      refine g_iload_n Z dX7_range_14 rfl ?_
      refine g_csI Z (c_X7_isLow F.l F.D F.cy F.nw _ _) 1 gX7_range_X7_isLow rfl (by decide +kernel) (by rw [hRf, hRl]; decide) rfl rfl (Nat.le_of_ble_eq_true rfl) dX7_range_15 (by rw [hRc, hRs]; omega) (fun r T hp => ?_)
      obtain ⟨rfl, hif⟩ := hp
      refine g_if_eq Z 48 dX7_range_18 (by decide) (fun h18 => ?_) (fun h18 => ?_)
      · refine g_bipush (v := (-2)) Z dX7_range_48 (by decide) ?_
        exact g_iret Z dX7_range_50 (by omega) (by omega) (⟨C, rfl, hI⟩)
      · obtain ⟨f, hf, rfl⟩ := hif.is h18
        refine g_iload Z dX7_range_21 rfl ?_
        refine g_csI Z (c_X7_isLow F.l F.D F.cy F.nw _ _) 1 gX7_range_X7_isLow rfl (by decide +kernel) (by rw [hRf, hRl]; decide) rfl rfl (Nat.le_of_ble_eq_true rfl) dX7_range_23 (by rw [hRc, hRs]; omega) (fun r T hp => ?_)
        obtain ⟨rfl, hit⟩ := hp
        refine g_if_eq Z 48 dX7_range_26 (by decide) (fun h26 => ?_) (fun h26 => ?_)
        · refine g_bipush (v := (-2)) Z dX7_range_48 (by decide) ?_
          exact g_iret Z dX7_range_50 (by omega) (by omega) (⟨C, rfl, hI⟩)
        · obtain ⟨t, ht, rfl⟩ := hit.is h26
          refine g_iload_n Z dX7_range_29 rfl ?_
          refine g_iload Z dX7_range_30 rfl ?_
          refine g_icmp_gt Z 48 dX7_range_32 (by decide) (fun h32 => ?_) (fun h32 => ?_)
          · refine g_bipush (v := (-2)) Z dX7_range_48 (by decide) ?_
            exact g_iret Z dX7_range_50 (by omega) (by omega) (⟨C, rfl, hI⟩)
          · refine g_iload Z dX7_range_35 rfl ?_
            refine g_i2l Z dX7_range_37 ?_
            refine g_lconst (v := 0) Z dX7_range_38 (by decide) ?_
            refine g_ldc2 (v := 2) Z dX7_range_39 ct94 ?_
            refine g_csI Z (c_X7_in F.l F.D F.cy F.nw _ _ _ _) 3 gX7_range_X7_in rfl (by decide +kernel) (by rw [hRf, hRl]; decide) rfl rfl (Nat.le_of_ble_eq_true rfl) dX7_range_42 (by rw [hRc, hRs]; omega) (fun r T hp => ?_)
            obtain ⟨rfl, -⟩ := hp
            refine g_if_ne Z 51 dX7_range_45 (by decide) (fun h45 => ?_) (fun h45 => ?_)
            · refine g_aload_n Z dX7_range_51 rfl ?_
              refine g_iload_n Z dX7_range_52 rfl ?_
              refine g_iload_n Z dX7_range_53 rfl ?_
              refine g_iload_n Z dX7_range_54 rfl ?_
              refine g_iload Z dX7_range_55 rfl ?_
              refine g_iconst (v := 1) Z dX7_range_57 (by decide) ?_
              refine g_iload Z dX7_range_58 rfl ?_
              refine g_cvI Z (c_X7_sweep F.l F.D F.cy F.nw A x ho C R hI s (by omega) key (by omega) f t 1 (by omega) (by omega) (by omega) (by omega) _) 6 gX7_range_X7_sweep rfl (by decide +kernel) (by rw [hRf, hRl]; decide) (by exact mP_x) (κ := 6) (by exact mP_Kx) rfl (by decide) rfl rfl (Nat.le_of_ble_eq_true rfl) dX7_range_60 (by rw [hRc, hRs]; omega) (fun r T hp => ?_)
              obtain ⟨E, rfl, hE⟩ := hp
              exact g_iret Z dX7_range_63 (by omega) (by omega) (⟨E, rfl, hE⟩)
            · refine g_bipush (v := (-2)) Z dX7_range_48 (by decide) ?_
              exact g_iret Z dX7_range_50 (by omega) (by omega) (⟨C, rfl, hI⟩)

set_option maxRecDepth 100000 in
set_option maxHeartbeats 2000000 in
/-- numbers by steps -/
theorem c_X7_steps (l : Launch) (D : va_G) (cy : Nat → ClassId) (nw : Nat) (A : Nat → Nat) (x : Nat) (ho : mOk A x) (C : C5) (R : MR) (hI : InvC C) (a b c d : Int32) : kI l yX7_steps wsX7_steps 3 78 D cy nw [.ref x, .int a, .int b, .int c, .int d] (mP A x (C, R)) (fun _ T => ∃ E, mP A x (E, R) = T ∧ InvC E) 0 0 := by
  refine enterI (cc := cX7_steps) (nL := 5) (ret := (some .int)) (by decide +kernel) rfl (Nat.le_of_ble_eq_true rfl) ?_
  intro F Z hl hR hD hcy hnw hnm
  subst hl hD hcy hnw
  have hRf : F.R.frames = 3 := by rw [hR]
  have hRc : F.R.cells = 0 := by rw [hR]
  have hRs : F.R.slots = 0 := by rw [hR]
  have hRl : F.R.locals = 78 := by rw [hR]
  have in6 : ∀ w ∈ u_ws RX7 TX7 16, w ∈ wsX7_steps := by decide +kernel
  have ct50 : Cond.constantLong RX7 50 (65535) ∈ wsX7_steps := by decide +kernel
  have ct74 : Cond.constant RX7 74 (65535) ∈ wsX7_steps := by decide +kernel
  refine g_iload_n Z dX7_steps_0 rfl ?_
  refine g_csI Z (c_X7_isSet F.l F.D F.cy F.nw _ _) 1 gX7_steps_X7_isSet rfl (by decide +kernel) (by rw [hRf, hRl]; decide) rfl rfl (Nat.le_of_ble_eq_true rfl) dX7_steps_1 (by rw [hRc, hRs]; omega) (fun r T hp => ?_)
  obtain ⟨rfl, his⟩ := hp
  refine g_if_eq Z 34 dX7_steps_4 (by decide) (fun h4 => ?_) (fun h4 => ?_)
  · refine g_bipush (v := (-2)) Z dX7_steps_34 (by decide) ?_
    exact g_iret Z dX7_steps_36 (by omega) (by omega) (⟨C, rfl, hI⟩)
  · obtain ⟨s, hs, rfl⟩ := his.is h4
    refine g_iload_n Z dX7_steps_7 rfl ?_
    refine g_csI Z (c_X7_isLow F.l F.D F.cy F.nw _ _) 1 gX7_steps_X7_isLow rfl (by decide +kernel) (by rw [hRf, hRl]; decide) rfl rfl (Nat.le_of_ble_eq_true rfl) dX7_steps_8 (by rw [hRc, hRs]; omega) (fun r T hp => ?_)
    obtain ⟨rfl, hik⟩ := hp
    refine g_if_eq Z 34 dX7_steps_11 (by decide) (fun h11 => ?_) (fun h11 => ?_)
    · refine g_bipush (v := (-2)) Z dX7_steps_34 (by decide) ?_
      exact g_iret Z dX7_steps_36 (by omega) (by omega) (⟨C, rfl, hI⟩)
    · obtain ⟨key, hkey, rfl⟩ := hik.is h11
      refine g_iload_n Z dX7_steps_14 rfl ?_
      refine g_csI Z (c_X7_isLow F.l F.D F.cy F.nw _ _) 1 gX7_steps_X7_isLow rfl (by decide +kernel) (by rw [hRf, hRl]; decide) rfl rfl (Nat.le_of_ble_eq_true rfl) dX7_steps_15 (by rw [hRc, hRs]; omega) (fun r T hp => ?_)
      obtain ⟨rfl, hif⟩ := hp
      refine g_if_eq Z 34 dX7_steps_18 (by decide) (fun h18 => ?_) (fun h18 => ?_)
      · refine g_bipush (v := (-2)) Z dX7_steps_34 (by decide) ?_
        exact g_iret Z dX7_steps_36 (by omega) (by omega) (⟨C, rfl, hI⟩)
      · obtain ⟨f, hf, rfl⟩ := hif.is h18
        refine g_iload Z dX7_steps_21 rfl ?_
        refine g_i2l Z dX7_steps_23 ?_
        refine g_lconst (v := 1) Z dX7_steps_24 (by decide) ?_
        refine g_ldc2 (v := 65535) Z dX7_steps_25 ct50 ?_
        refine g_csI Z (c_X7_in F.l F.D F.cy F.nw _ _ _ _) 3 gX7_steps_X7_in rfl (by decide +kernel) (by rw [hRf, hRl]; decide) rfl rfl (Nat.le_of_ble_eq_true rfl) dX7_steps_28 (by rw [hRc, hRs]; omega) (fun r T hp => ?_)
        obtain ⟨rfl, hi0⟩ := hp
        have hiq := in_R (x := d) (a := 1) (b := 65535) (by decide) (by decide) hi0
        refine g_if_ne Z 37 dX7_steps_31 (by decide) (fun h31 => ?_) (fun h31 => ?_)
        · obtain ⟨q, hq1, hq2, rfl⟩ := hiq.t h31
          refine g_aload_n Z dX7_steps_37 rfl ?_
          refine g_iload_n Z dX7_steps_38 rfl ?_
          refine g_iload_n Z dX7_steps_39 rfl ?_
          refine g_iload_n Z dX7_steps_40 rfl ?_
          refine g_ldc (v := 65535) Z dX7_steps_41 ct74 ?_
          refine g_iload Z dX7_steps_43 rfl ?_
          refine g_iconst (v := 0) Z dX7_steps_45 (by decide) ?_
          refine g_cvI Z (c_X7_sweep F.l F.D F.cy F.nw A x ho C R hI s (by omega) key (by omega) f 65535 q (by omega) (by omega) (by omega) (by omega) _) 6 gX7_steps_X7_sweep rfl (by decide +kernel) (by rw [hRf, hRl]; decide) (by exact mP_x) (κ := 6) (by exact mP_Kx) rfl (by decide) rfl rfl (Nat.le_of_ble_eq_true rfl) dX7_steps_46 (by rw [hRc, hRs]; omega) (fun r T hp => ?_)
          obtain ⟨E, rfl, hE⟩ := hp
          exact g_iret Z dX7_steps_49 (by omega) (by omega) (⟨E, rfl, hE⟩)
        · refine g_bipush (v := (-2)) Z dX7_steps_34 (by decide) ?_
          exact g_iret Z dX7_steps_36 (by omega) (by omega) (⟨C, rfl, hI⟩)

set_option maxRecDepth 100000 in
set_option maxHeartbeats 2000000 in
/-- a set is emptied -/
theorem c_X7_clear (l : Launch) (D : va_G) (cy : Nat → ClassId) (nw : Nat) (A : Nat → Nat) (x : Nat) (ho : mOk A x) (C : C5) (R : MR) (hI : InvC C) (a : Int32) : kI l yX7_clear wsX7_clear 2 45 D cy nw [.ref x, .int a] (mP A x (C, R)) (fun _ T => ∃ E, mP A x (E, R) = T ∧ InvC E) 0 0 := by
  refine enterI (cc := cX7_clear) (nL := 3) (ret := (some .int)) (by decide +kernel) rfl (Nat.le_of_ble_eq_true rfl) ?_
  intro F Z hl hR hD hcy hnw hnm
  subst hl hD hcy hnw
  have hRf : F.R.frames = 2 := by rw [hR]
  have hRc : F.R.cells = 0 := by rw [hR]
  have hRs : F.R.slots = 0 := by rw [hR]
  have hRl : F.R.locals = 45 := by rw [hR]
  have in6 : ∀ w ∈ u_ws RX7 TX7 16, w ∈ wsX7_clear := by decide +kernel
  have lk7 : Cond.fieldLink RX7 7 (TX7 0).1 (TX7 0).2.1 (TX7 0).2.2.1 ∈ wsX7_clear := by decide +kernel
  refine g_iload_n Z dX7_clear_0 rfl ?_
  refine g_csI Z (c_X7_isSet F.l F.D F.cy F.nw _ _) 1 gX7_clear_X7_isSet rfl (by decide +kernel) (by rw [hRf, hRl]; decide) rfl rfl (Nat.le_of_ble_eq_true rfl) dX7_clear_1 (by rw [hRc, hRs]; omega) (fun r T hp => ?_)
  obtain ⟨rfl, his⟩ := hp
  refine g_if_ne Z 10 dX7_clear_4 (by decide) (fun h4 => ?_) (fun h4 => ?_)
  · obtain ⟨s, hs, rfl⟩ := his.is h4
    refine g_aload_n Z dX7_clear_10 rfl ?_
    refine g_iload_n Z dX7_clear_11 rfl ?_
    refine g_cvI Z (c_X7_all F.l F.D F.cy F.nw A x ho _ _ hI.1 _ (by omega)) 1 gX7_clear_X7_all rfl (by decide +kernel) (by rw [hRf, hRl]; decide) (by exact mP_x) (κ := 6) (by exact mP_Kx) rfl (by decide) rfl rfl (Nat.le_of_ble_eq_true rfl) dX7_clear_12 (by rw [hRc, hRs]; omega) (fun r T hp => ?_)
    subst hp
    refine g_istore_n Z dX7_clear_15 (by decide) ?_
    refine g_aload_n Z dX7_clear_16 rfl ?_
    refine m_ref_mn Z in6 lk7 dX7_clear_17 ?_
    refine g_iload_n Z dX7_clear_20 rfl ?_
    refine g_iconst (v := 0) Z dX7_clear_21 (by decide) ?_
    refine m_ast_mn Z ho dX7_clear_22 (by exact vp_in_nI (by omega) (by decide)) ?_
    rw [nI_clamp (by omega)]
    refine g_iload_n Z dX7_clear_23 rfl ?_
    exact g_iret Z dX7_clear_24 (by omega) (by omega) (⟨_, rfl, hI.of Ce.upd_mn (hI.1.s_mn (k := 0) (by omega)) ⟨0, by omega, pk_us, fun i hi => by omega⟩⟩)
  · refine g_bipush (v := (-2)) Z dX7_clear_7 (by decide) ?_
    exact g_iret Z dX7_clear_9 (by omega) (by omega) (⟨C, rfl, hI⟩)
