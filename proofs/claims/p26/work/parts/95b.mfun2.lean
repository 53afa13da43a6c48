/-- a low of a container is turned, and its size told anew -/
theorem mc_turn {E : C5} {g : Nat → Int64} {c b : Nat} {v : Int32} {a : Cn} {W : Nat → Int64} (hT : Tn E.wd g c b) (hb : b < 65536) (ha : Mc E c a) (hv : (cb E.wd c b = 0 ∧ v = E.sz c + 1) ∨ (cb E.wd c b = 1 ∧ v = E.sz c + (-1))) (hW : ∀ l, l < 65536 → cb W 0 l = if l = b then 1 - cb a.2.2 0 b else cb a.2.2 0 l) :
    Mc ((E.s_wd g).s_sz (upd E.sz c v)) c (a.1, a.2.1, W) ∧ Mb c E ((E.s_wd g).s_sz (upd E.sz c v)) := by
  have hbits : ∀ l, l < 65536 → cb g c l = cb W 0 l := by
    intro l hl
    rw [hW l hl]
    by_cases e : l = b
    · subst e; rw [if_pos rfl, hT.1, ha.2.2.2 l hl]
    · rw [if_neg e, hT.2 c l hl (Or.inr e), ha.2.2.2 l hl]
  refine ⟨⟨ha.1, ha.2.1, ?_, hbits⟩, rfl, fun d hd => ⟨rfl, rfl, pk_un hd, fun l hl => hT.2 d l hl (Or.inl hd)⟩⟩
  show upd E.sz c v c = nI (tot W)
  rw [pk_us]
  have h := tn_all hT hb
  have h1 : ct g c 65536 = tot W := by rw [tot_ct]; exact ct_congr 65536 hbits
  have h2 := cnt_tot ha.2.2.2
  have h3 := ha.2.2.1
  rw [h1, h2] at h
  rcases hv with ⟨e, rfl⟩ | ⟨e, rfl⟩
  · rw [e] at h
    rw [h3, nI_1, show tot W = tot a.2.2 + 1 by omega]
  · rw [e] at h
    rw [h3, show tot a.2.2 = tot W + 1 by omega, pk_m1]
theorem rg1_bit (h : Int32) {b : Nat} (hb : b < 65536) (W : Nat → Int64) (l : Nat) : cb (rg h b b W) 0 l = if l = b then bH h (cb W 0 b) else cb W 0 l := by
  rw [rg_bit h hb]
  by_cases e : l = b
  · subst e; rw [if_pos ⟨Nat.le_refl _, Nat.le_refl _⟩, if_pos rfl]
  · rw [if_neg (by omega), if_neg e]
theorem sv_ext {V W : Sv} (h1 : V.1 = W.1) (h2 : ∀ i, V.2 i = W.2 i) : V = W := Prod.ext h1 (funext h2)
theorem ins_put {V : Sv} {j : Nat} {a b : Cn} : (V.ins j a).put j b = V.ins j b := by
  refine sv_ext rfl (fun k => ?_)
  show (if k = j then b else if k < j then V.2 k else if k = j then a else V.2 (k - 1)) = (if k < j then V.2 k else if k = j then b else V.2 (k - 1))
  by_cases e : k = j
  · subst e; rw [if_pos rfl, if_neg (Nat.lt_irrefl _), if_pos rfl]
  · rw [if_neg e, if_neg e, if_neg e]
theorem put_del {V : Sv} {j : Nat} {a : Cn} : (V.put j a).del j = V.del j := by
  refine sv_ext rfl (fun k => ?_)
  show (if k < j then (if k = j then a else V.2 k) else (if k + 1 = j then a else V.2 (k + 1))) = (if k < j then V.2 k else V.2 (k + 1))
  by_cases e : k < j
  · rw [if_pos e, if_pos e, if_neg (by omega)]
  · rw [if_neg e, if_neg e, if_neg (by omega)]
theorem pt_at {V : Sv} {j : Nat} {a : Cn} : (V.put j a).2 j = a := if_pos rfl
theorem in_at {V : Sv} {j : Nat} {a : Cn} : (V.ins j a).2 j = a := (if_neg (Nat.lt_irrefl _)).trans (if_pos rfl)
theorem ix_ex (V : Sv) (hs : Srt V) (key : Nat) : ∃ i, IsIx V key i := by
  have : ∀ n, n ≤ V.1 → (∀ i, n ≤ i → i < V.1 → key ≤ (V.2 i).1) → ∃ i, IsIx V key i := by
    intro n
    induction n with
    | zero => intro h1 h2; exact ⟨0, h1, fun j hj => absurd hj (Nat.not_lt_zero _), fun h => h2 0 (Nat.le_refl _) h⟩
    | succ n ih =>
      intro h1 h2
      by_cases e : (V.2 n).1 < key
      · refine ⟨n + 1, h1, fun j hj => ?_, fun h => h2 (n + 1) (Nat.le_refl _) h⟩
        by_cases q : j = n
        · rw [q]; exact e
        · have := hs j n (by omega) (by omega); omega
      · refine ih (by omega) (fun i h3 h4 => ?_)
        by_cases q : i = n
        · rw [q]; omega
        · exact h2 i (by omega) h4
  exact this V.1 (Nat.le_refl _) (fun i h1 h2 => by omega)
/-- the reference's sets, all of those that calls name -/
def MV (C : C5) (V : Nat → Sv) : Prop := ∀ s, s < 8 → Ms C s (V s)
theorem MV.one {C E : C5} {V : Nat → Sv} (h : MV C V) {s : Nat} {W : Sv} (hS : Me s C E) (hW : Ms E s W) : MV E (va_up V s W) := by
  intro t ht
  by_cases e : t = s
  · subst e; rw [va_up_self]; exact hW
  · rw [va_up_ne _ _ e]; exact hS.ms (by omega) e (h t ht)
theorem MV.oth {C E : C5} {V : Nat → Sv} (h : MV C V) {s : Nat} (hs : 8 ≤ s) (hS : Me s C E) : MV E V := fun t ht => hS.ms (by omega) (by omega) (h t ht)
theorem rgr {h : Int32} {b : Nat} (hb : b < 65536) {W : Nat → Int64} (e : bH h (cb W 0 b) = cb W 0 b) : ∀ j, j < 1024 → rg h b b W j = W j := by
  refine row_ext (fun l _ => ?_)
  rw [rg1_bit h hb]
  by_cases q : l = b
  · rw [if_pos q, q]; exact e
  · rw [if_neg q]
theorem rg_ne {h : Int32} {b : Nat} (hb : b < 65536) {W : Nat → Int64} (e : bH h (cb W 0 b) ≠ cb W 0 b) : ∃ j, j < 1024 ∧ rg h b b W j ≠ W j := by
  refine ⟨b / 64, by omega, fun q => e ?_⟩
  have h1 := rg1_bit h hb W b
  rw [if_pos rfl] at h1
  rw [← h1, cbz, cbz, q]

theorem inR.f' {x r : Int32} (h : inR x 0 7 r) (h0 : r = 0) : ¬ isS x := fun ⟨j, h1, h2⟩ => h.f h0 ⟨j, by omega, by omega, h2⟩
theorem self_up {V : Nat → Sv} {s : Nat} : va_up V s (V s) = V := va_up_get V s

set_option maxRecDepth 100000 in
set_option maxHeartbeats 2000000 in
/-- a number is put in -/
theorem f_X7_add (l : Launch) (D : va_G) (cy : Nat → ClassId) (nw : Nat) (A : Nat → Nat) (x : Nat) (ho : mOk A x) (C : C5) (R : MR) (V : Nat → Sv) (hM : MV C V) (hV : ∀ s, s < 8 → Vok (V s)) (a v : Int32) : kI l yX7_add wsX7_add 2 48 D cy nw [.ref x, .int a, .int v] (mP A x (C, R)) (fun r T => (∃ j, j < 8 ∧ a = nI j ∧ ∃ W E, mP A x (E, R) = T ∧ Chg (V j) (kyI v) ((0 : Int32) = 1) (rg 0 (loI v) (loI v)) r W ∧ MV E (va_up V j W)) ∨ (¬ isS a ∧ r = -2 ∧ (mP A x (C, R)) = T)) 0 0 := by
  refine enterI (cc := cX7_add) (nL := 4) (ret := (some .int)) (by decide +kernel) rfl (Nat.le_of_ble_eq_true rfl) ?_
  intro F Z hl hR hD hcy hnw hnm
  subst hl hD hcy hnw
  have hRf : F.R.frames = 2 := by rw [hR]
  have hRc : F.R.cells = 0 := by rw [hR]
  have hRs : F.R.slots = 0 := by rw [hR]
  have hRl : F.R.locals = 48 := by rw [hR]
  have in6 : ∀ w ∈ u_ws RX7 TX7 16, w ∈ wsX7_add := by decide +kernel
  have lk7 : Cond.fieldLink RX7 7 (TX7 0).1 (TX7 0).2.1 (TX7 0).2.2.1 ∈ wsX7_add := by decide +kernel
  have lk19 : Cond.fieldLink RX7 19 (TX7 3).1 (TX7 3).2.1 (TX7 3).2.2.1 ∈ wsX7_add := by decide +kernel
  have ct74 : Cond.constant RX7 74 (65535) ∈ wsX7_add := by decide +kernel
  have hb := loI_lt v
  have tail : ∀ (E : C5) (s : Nat) (V1 : Sv) (j : Nat), s < 8 → a = nI s → Me s C E → Ms E s V1 → j < V1.1 → cb (V1.2 j).2.2 0 (loI v) = 0 → Chg (V s) (kyI v) ((0 : Int32) = 1) (rg 0 (loI v) (loI v)) 1 (V1.put j ((V1.2 j).1, plK (nI (tot (rg 0 (loI v) (loI v) (V1.2 j).2.2))), rg 0 (loI v) (loI v) (V1.2 j).2.2)) → G F 4 (mP A x (E, R)) 0 0 (QI F (fun r T => (∃ j, j < 8 ∧ a = nI j ∧ ∃ W E, mP A x (E, R) = T ∧ Chg (V j) (kyI v) ((0 : Int32) = 1) (rg 0 (loI v) (loI v)) r W ∧ MV E (va_up V j W)) ∨ (¬ isS a ∧ r = -2 ∧ (mP A x (C, R)) = T)) 0 0) 76 [(0, .ref x), (1, .int (nI s)), (2, .int v)] [.int (nI (6 * s + j))] := by
    intro E s V1 j hs ea hS hE hj h0 hch
    have hn6 := hE.1
    refine g_istore_n Z dX7_add_76 (by decide) ?_
    refine g_aload_n Z dX7_add_77 rfl ?_
    refine g_iload_n Z dX7_add_78 rfl ?_
    refine g_iload_n Z dX7_add_79 rfl ?_
    refine g_ldc (v := 65535) Z dX7_add_80 ct74 ?_
    refine g_iand Z dX7_add_82 ?_
    rw [loI_eq]
    refine g_cvV Z (c_X7_turn F.l F.D F.cy F.nw A x ho _ _ _ _ (by omega) hb) 2 gX7_add_X7_turn rfl (by decide +kernel) (by rw [hRf, hRl]; decide) (by exact mP_x) (κ := 6) (by exact mP_Kx) rfl (by decide) rfl rfl (Nat.le_of_ble_eq_true rfl) dX7_add_83 (by rw [hRc, hRs]; omega) (fun T hp => ?_)
    obtain ⟨g, rfl, hT⟩ := hp
    have hmc := hE.mc hj
    obtain ⟨g1, g2⟩ := mc_turn (W := rg 0 (loI v) (loI v) (V1.2 j).2.2) hT hb hmc (Or.inl ⟨(hmc.2.2.2 _ hb).trans h0, rfl⟩) (fun l hl => by rw [rg1_bit 0 hb, h0]; rfl)
    have hms := hE.put hj g2 g1
    have hpos : 0 < tot (rg 0 (loI v) (loI v) (V1.2 j).2.2) := tot_pos hb (by rw [rg1_bit 0 hb, if_pos rfl]; rfl)
    refine g_aload_n Z dX7_add_86 rfl ?_
    refine m_ref_sz Z in6 lk19 dX7_add_87 ?_
    refine g_iload_n Z dX7_add_90 rfl ?_
    refine g_dup2 Z dX7_add_91 rfl rfl ?_
    refine m_ald_sz Z ho dX7_add_92 (by exact vp_in_nI (by omega) (by decide)) ?_
    rw [nI_clamp (by omega)]
    refine g_iconst (v := 1) Z dX7_add_93 (by decide) ?_
    refine g_iadd Z dX7_add_94 ?_
    refine m_ast_sz Z ho dX7_add_95 (by exact vp_in_nI (by omega) (by decide)) ?_
    rw [nI_clamp (by omega)]
    refine g_aload_n Z dX7_add_96 rfl ?_
    refine g_iload_n Z dX7_add_97 rfl ?_
    refine g_iload_n Z dX7_add_98 rfl ?_
    refine g_cvV Z (f_X7_changed F.l F.D F.cy F.nw A x ho _ _ s (by omega) _ hms j hj) 2 gX7_add_X7_changed rfl (by decide +kernel) (by rw [hRf, hRl]; decide) (by exact mP_x) (κ := 6) (by exact mP_Kx) rfl (by decide) rfl rfl (Nat.le_of_ble_eq_true rfl) dX7_add_99 (by rw [hRc, hRs]; omega) (fun T hp => ?_)
    obtain ⟨E3, rfl, k1, k2, -⟩ := hp
    rw [pt_at] at k2
    rw [if_pos hpos, put_put] at k2
    refine g_iconst (v := 1) Z dX7_add_102 (by decide) ?_
    exact g_iret Z dX7_add_103 (by omega) (by omega) (Or.inl ⟨s, hs, ea, _, E3, rfl, hch, hM.one ((hS.tr (g2.me (by omega))).tr k1) k2⟩)
  refine g_iload_n Z dX7_add_0 rfl ?_
  refine g_csI Z (c_X7_isSet F.l F.D F.cy F.nw _ _) 1 gX7_add_X7_isSet rfl (by decide +kernel) (by rw [hRf, hRl]; decide) rfl rfl (Nat.le_of_ble_eq_true rfl) dX7_add_1 (by rw [hRc, hRs]; omega) (fun r T hp => ?_)
  obtain ⟨rfl, his⟩ := hp
  refine g_if_ne Z 10 dX7_add_4 (by decide) (fun h4 => ?_) (fun h4 => ?_)
  · obtain ⟨s, hs, rfl⟩ := his.is h4
    refine g_aload_n Z dX7_add_10 rfl ?_
    refine g_iload_n Z dX7_add_11 rfl ?_
    refine g_iload_n Z dX7_add_12 rfl ?_
    refine g_bipush (v := 16) Z dX7_add_13 (by decide) ?_
    refine g_iushr Z dX7_add_15 ?_
    rw [kyI_eq]
    refine g_cvI Z (f_X7_containerOf F.l F.D F.cy F.nw A x ho _ _ s (by omega) (V s) (hM s (by omega)) (fun i hi => ((hV s (by omega)).2.2 i hi).1) (kyI v) (kyI_lt v)) 2 gX7_add_X7_containerOf rfl (by decide +kernel) (by rw [hRf, hRl]; decide) (by exact mP_x) (κ := 6) (by exact mP_Kx) rfl (by decide) rfl rfl (Nat.le_of_ble_eq_true rfl) dX7_add_16 (by rw [hRc, hRs]; omega) (fun r T hp => ?_)
    obtain ⟨rfl, hr⟩ := hp
    rcases hr with ⟨rfl, hno⟩ | ⟨j, hj, hkj, rfl⟩
    · refine g_istore_n Z dX7_add_19 (by decide) ?_
      refine g_iload_n Z dX7_add_20 rfl ?_
      refine g_iconst (v := (-1)) Z dX7_add_21 (by decide) ?_
      refine g_icmp_ne Z 39 dX7_add_22 (by decide) (fun h22 => absurd (rfl) h22) (fun h22 => ?_)
      refine g_aload_n Z dX7_add_25 rfl ?_
      refine m_ref_mn Z in6 lk7 dX7_add_26 ?_
      refine g_iload_n Z dX7_add_29 rfl ?_
      refine m_ald_mn Z ho dX7_add_30 (by exact vp_in_nI (by omega) (by decide)) ?_
      rw [nI_clamp (by omega), (hM s (by omega)).2.1]
      refine g_bipush (v := 6) Z dX7_add_31 (by decide) ?_
      refine g_icmp_ne Z 39 dX7_add_33 (by decide) (fun h33 => ?_) (fun h33 => ?_)
      · have hn6 : ¬ (V s).1 = 6 := fun e => h33 (by rw [e]; rfl)
        have hn7 := (hM s (by omega)).1
        refine g_iload_n Z dX7_add_39 rfl ?_
        refine g_iconst (v := (-1)) Z dX7_add_40 (by decide) ?_
        refine g_icmp_eq Z 58 dX7_add_41 (by decide) (fun h41 => ?_) (fun h41 => absurd (rfl) h41)
        refine g_iload_n Z dX7_add_58 rfl ?_
        refine g_iconst (v := (-1)) Z dX7_add_59 (by decide) ?_
        refine g_icmp_ne Z 75 dX7_add_60 (by decide) (fun h60 => absurd (rfl) h60) (fun h60 => ?_)
        refine g_aload_n Z dX7_add_63 rfl ?_
        refine g_iload_n Z dX7_add_64 rfl ?_
        refine g_iload_n Z dX7_add_65 rfl ?_
        refine g_bipush (v := 16) Z dX7_add_66 (by decide) ?_
        refine g_iushr Z dX7_add_68 ?_
        rw [kyI_eq]
        refine g_cvI Z (f_X7_made F.l F.D F.cy F.nw A x ho _ _ s (by omega) (V s) (hM s (by omega)) (fun i hi => ((hV s (by omega)).2.2 i hi).1) (hV s (by omega)).2.1 (by omega) (kyI v) (kyI_lt v) hno) 2 gX7_add_X7_made rfl (by decide +kernel) (by rw [hRf, hRl]; decide) (by exact mP_x) (κ := 6) (by exact mP_Kx) rfl (by decide) rfl rfl (Nat.le_of_ble_eq_true rfl) dX7_add_69 (by rw [hRc, hRs]; omega) (fun r T hp => ?_)
        obtain ⟨E, j, rfl, rfl, hix, hS, hms⟩ := hp
        have hj2 : j < ((V s).ins j (kyI v, 0, zW)).1 := by have := hix.1; show j < (V s).1 + 1; omega
        have hpos : 0 < tot (rg 0 (loI v) (loI v) zW) := tot_pos hb (by rw [rg1_bit 0 hb, if_pos rfl]; rfl)
        refine g_goto Z 76 dX7_add_72 (by decide) ?_
        exact g_lv (by (repeat (first | exact trivial | refine And.intro rfl ?_)); done) (tail E s _ j (by omega) rfl hS hms hj2 (by rw [in_at]; exact zW_bit _) (by rw [in_at, ins_put]; exact Or.inr ⟨j, hix, fun hi => hno j hi, Or.inr (Or.inr ⟨by decide, by omega, rfl, hpos, rfl⟩)⟩))
      · have hn6 : (V s).1 = 6 := (nI_eq (b := 6) (by have := (hM s (by omega)).1; omega) (by decide)).mp h33
        obtain ⟨i, hix⟩ := ix_ex (V s) (hV s (by omega)).2.1 (kyI v)
        refine g_bipush (v := (-3)) Z dX7_add_36 (by decide) ?_
        exact g_iret Z dX7_add_38 (by omega) (by omega) (Or.inl ⟨s, by omega, rfl, V s, C, rfl, Or.inr ⟨i, hix, fun hi => hno i hi, Or.inr (Or.inl ⟨by decide, by omega, rfl, rfl⟩)⟩, by rw [self_up]; exact hM⟩)
    · refine g_istore_n Z dX7_add_19 (by decide) ?_
      refine g_iload_n Z dX7_add_20 rfl ?_
      refine g_iconst (v := (-1)) Z dX7_add_21 (by decide) ?_
      refine g_icmp_ne Z 39 dX7_add_22 (by decide) (fun h22 => ?_) (fun h22 => absurd h22 (nI_nm1 (by have := (hM s (by omega)).1; omega)))
      refine g_iload_n Z dX7_add_39 rfl ?_
      refine g_iconst (v := (-1)) Z dX7_add_40 (by decide) ?_
      refine g_icmp_eq Z 58 dX7_add_41 (by decide) (fun h41 => absurd h41 (nI_nm1 (by have := (hM s (by omega)).1; omega))) (fun h41 => ?_)
      refine g_aload_n Z dX7_add_44 rfl ?_
      refine g_iload_n Z dX7_add_45 rfl ?_
      refine g_iload_n Z dX7_add_46 rfl ?_
      refine g_ldc (v := 65535) Z dX7_add_47 ct74 ?_
      refine g_iand Z dX7_add_49 ?_
      rw [loI_eq]
      refine g_cvI Z (c_X7_hasLow F.l F.D F.cy F.nw A x ho _ _ _ _ (by have := (hM s (by omega)).1; omega) hb) 2 gX7_add_X7_hasLow rfl (by decide +kernel) (by rw [hRf, hRl]; decide) (by exact mP_x) (κ := 6) (by exact mP_Kx) rfl (by decide) rfl rfl (Nat.le_of_ble_eq_true rfl) dX7_add_50 (by rw [hRc, hRs]; omega) (fun r T hp => ?_)
      obtain ⟨rfl, rfl⟩ := hp
      have hmc := (hM s (by omega)).mc hj
      have hbt := hmc.2.2.2 _ hb
      refine g_if_eq Z 58 dX7_add_53 (by decide) (fun h53 => ?_) (fun h53 => ?_)
      · have h0 := hbt.symm.trans (cb0 h53)
        have hpos : 0 < tot (rg 0 (loI v) (loI v) ((V s).2 j).2.2) := tot_pos hb (by rw [rg1_bit 0 hb, if_pos rfl]; rfl)
        refine g_iload_n Z dX7_add_58 rfl ?_
        refine g_iconst (v := (-1)) Z dX7_add_59 (by decide) ?_
        refine g_icmp_ne Z 75 dX7_add_60 (by decide) (fun h60 => ?_) (fun h60 => absurd h60 (nI_nm1 (by have := (hM s (by omega)).1; omega)))
        refine g_iload_n Z dX7_add_75 rfl ?_
        exact g_lv (by (repeat (first | exact trivial | refine And.intro rfl ?_)); done) (tail C s (V s) j (by omega) rfl Me.rf (hM s (by omega)) hj h0 (Or.inl ⟨j, hj, hkj, Or.inr ⟨rfl, rg_ne hb (by rw [h0]; decide), Or.inr ⟨hpos, by rw [hkj]⟩⟩⟩))
      · have h1 := hbt.symm.trans (cb1 h53)
        refine g_iconst (v := 0) Z dX7_add_56 (by decide) ?_
        exact g_iret Z dX7_add_57 (by omega) (by omega) (Or.inl ⟨s, by omega, rfl, V s, C, rfl, Or.inl ⟨j, hj, hkj, Or.inl ⟨rfl, rfl, rgr hb (by rw [h1]; rfl)⟩⟩, by rw [self_up]; exact hM⟩)
  · refine g_bipush (v := (-2)) Z dX7_add_7 (by decide) ?_
    exact g_iret Z dX7_add_9 (by omega) (by omega) (Or.inr ⟨his.f' h4, rfl, rfl⟩)

theorem chg_if {V : Sv} {j key : Nat} {W : Nat → Int64} (hk : (V.2 j).1 = key) : (tot W = 0 ∧ (if 0 < tot W then V.put j ((V.2 j).1, plK (nI (tot W)), W) else V.del j) = V.del j) ∨ (0 < tot W ∧ (if 0 < tot W then V.put j ((V.2 j).1, plK (nI (tot W)), W) else V.del j) = V.put j (key, plK (nI (tot W)), W)) := by
  by_cases e : 0 < tot W
  · exact Or.inr ⟨e, by rw [if_pos e, hk]⟩
  · exact Or.inl ⟨by omega, if_neg e⟩

set_option maxRecDepth 100000 in
set_option maxHeartbeats 2000000 in
/-- a number is taken out -/
theorem f_X7_remove (l : Launch) (D : va_G) (cy : Nat → ClassId) (nw : Nat) (A : Nat → Nat) (x : Nat) (ho : mOk A x) (C : C5) (R : MR) (V : Nat → Sv) (hM : MV C V) (hV : ∀ s, s < 8 → Vok (V s)) (a v : Int32) : kI l yX7_remove wsX7_remove 2 46 D cy nw [.ref x, .int a, .int v] (mP A x (C, R)) (fun r T => (∃ j, j < 8 ∧ a = nI j ∧ ∃ W E, mP A x (E, R) = T ∧ Chg (V j) (kyI v) ((1 : Int32) = 1) (rg 1 (loI v) (loI v)) r W ∧ MV E (va_up V j W)) ∨ (¬ isS a ∧ r = -2 ∧ (mP A x (C, R)) = T)) 0 0 := by
  refine enterI (cc := cX7_remove) (nL := 4) (ret := (some .int)) (by decide +kernel) rfl (Nat.le_of_ble_eq_true rfl) ?_
  intro F Z hl hR hD hcy hnw hnm
  subst hl hD hcy hnw
  have hRf : F.R.frames = 2 := by rw [hR]
  have hRc : F.R.cells = 0 := by rw [hR]
  have hRs : F.R.slots = 0 := by rw [hR]
  have hRl : F.R.locals = 46 := by rw [hR]
  have in6 : ∀ w ∈ u_ws RX7 TX7 16, w ∈ wsX7_remove := by decide +kernel
  have lk19 : Cond.fieldLink RX7 19 (TX7 3).1 (TX7 3).2.1 (TX7 3).2.2.1 ∈ wsX7_remove := by decide +kernel
  have ct74 : Cond.constant RX7 74 (65535) ∈ wsX7_remove := by decide +kernel
  have hb := loI_lt v
  refine g_iload_n Z dX7_remove_0 rfl ?_
  refine g_csI Z (c_X7_isSet F.l F.D F.cy F.nw _ _) 1 gX7_remove_X7_isSet rfl (by decide +kernel) (by rw [hRf, hRl]; decide) rfl rfl (Nat.le_of_ble_eq_true rfl) dX7_remove_1 (by rw [hRc, hRs]; omega) (fun r T hp => ?_)
  obtain ⟨rfl, his⟩ := hp
  refine g_if_ne Z 10 dX7_remove_4 (by decide) (fun h4 => ?_) (fun h4 => ?_)
  · obtain ⟨s, hs, rfl⟩ := his.is h4
    refine g_aload_n Z dX7_remove_10 rfl ?_
    refine g_iload_n Z dX7_remove_11 rfl ?_
    refine g_iload_n Z dX7_remove_12 rfl ?_
    refine g_bipush (v := 16) Z dX7_remove_13 (by decide) ?_
    refine g_iushr Z dX7_remove_15 ?_
    rw [kyI_eq]
    refine g_cvI Z (f_X7_containerOf F.l F.D F.cy F.nw A x ho _ _ s (by omega) (V s) (hM s (by omega)) (fun i hi => ((hV s (by omega)).2.2 i hi).1) (kyI v) (kyI_lt v)) 2 gX7_remove_X7_containerOf rfl (by decide +kernel) (by rw [hRf, hRl]; decide) (by exact mP_x) (κ := 6) (by exact mP_Kx) rfl (by decide) rfl rfl (Nat.le_of_ble_eq_true rfl) dX7_remove_16 (by rw [hRc, hRs]; omega) (fun r T hp => ?_)
    obtain ⟨rfl, hr⟩ := hp
    rcases hr with ⟨rfl, hno⟩ | ⟨j, hj, hkj, rfl⟩
    · obtain ⟨i, hix⟩ := ix_ex (V s) (hV s (by omega)).2.1 (kyI v)
      refine g_istore_n Z dX7_remove_19 (by decide) ?_
      refine g_iload_n Z dX7_remove_20 rfl ?_
      refine g_iconst (v := (-1)) Z dX7_remove_21 (by decide) ?_
      refine g_icmp_eq Z 37 dX7_remove_22 (by decide) (fun h22 => ?_) (fun h22 => absurd (rfl) h22)
      refine g_iconst (v := 0) Z dX7_remove_37 (by decide) ?_
      exact g_iret Z dX7_remove_38 (by omega) (by omega) (Or.inl ⟨s, by omega, rfl, V s, C, rfl, Or.inr ⟨i, hix, fun hi => hno i hi, Or.inl ⟨rfl, rfl, rfl⟩⟩, by rw [self_up]; exact hM⟩)
    · refine g_istore_n Z dX7_remove_19 (by decide) ?_
      refine g_iload_n Z dX7_remove_20 rfl ?_
      refine g_iconst (v := (-1)) Z dX7_remove_21 (by decide) ?_
      refine g_icmp_eq Z 37 dX7_remove_22 (by decide) (fun h22 => absurd h22 (nI_nm1 (by have := (hM s (by omega)).1; omega))) (fun h22 => ?_)
      refine g_aload_n Z dX7_remove_25 rfl ?_
      refine g_iload_n Z dX7_remove_26 rfl ?_
      refine g_iload_n Z dX7_remove_27 rfl ?_
      refine g_ldc (v := 65535) Z dX7_remove_28 ct74 ?_
      refine g_iand Z dX7_remove_30 ?_
      rw [loI_eq]
      refine g_cvI Z (c_X7_hasLow F.l F.D F.cy F.nw A x ho _ _ _ _ (by have := (hM s (by omega)).1; omega) hb) 2 gX7_remove_X7_hasLow rfl (by decide +kernel) (by rw [hRf, hRl]; decide) (by exact mP_x) (κ := 6) (by exact mP_Kx) rfl (by decide) rfl rfl (Nat.le_of_ble_eq_true rfl) dX7_remove_31 (by rw [hRc, hRs]; omega) (fun r T hp => ?_)
      obtain ⟨rfl, rfl⟩ := hp
      have hmc := (hM s (by omega)).mc hj
      have hbt := hmc.2.2.2 _ hb
      have hn6 := (hM s (by omega)).1
      refine g_if_ne Z 39 dX7_remove_34 (by decide) (fun h34 => ?_) (fun h34 => ?_)
      · have h1 := hbt.symm.trans (cb1 h34)
        refine g_aload_n Z dX7_remove_39 rfl ?_
        refine g_iload_n Z dX7_remove_40 rfl ?_
        refine g_iload_n Z dX7_remove_41 rfl ?_
        refine g_ldc (v := 65535) Z dX7_remove_42 ct74 ?_
        refine g_iand Z dX7_remove_44 ?_
        rw [loI_eq]
        refine g_cvV Z (c_X7_turn F.l F.D F.cy F.nw A x ho _ _ _ _ (by omega) hb) 2 gX7_remove_X7_turn rfl (by decide +kernel) (by rw [hRf, hRl]; decide) (by exact mP_x) (κ := 6) (by exact mP_Kx) rfl (by decide) rfl rfl (Nat.le_of_ble_eq_true rfl) dX7_remove_45 (by rw [hRc, hRs]; omega) (fun T hp => ?_)
        obtain ⟨g, rfl, hT⟩ := hp
        obtain ⟨g1, g2⟩ := mc_turn (W := rg 1 (loI v) (loI v) ((V s).2 j).2.2) hT hb hmc (Or.inr ⟨hbt.trans h1, rfl⟩) (fun l hl => by rw [rg1_bit 1 hb, h1]; rfl)
        have hms := (hM s (by omega)).put hj g2 g1
        refine g_aload_n Z dX7_remove_48 rfl ?_
        refine m_ref_sz Z in6 lk19 dX7_remove_49 ?_
        refine g_iload_n Z dX7_remove_52 rfl ?_
        refine g_dup2 Z dX7_remove_53 rfl rfl ?_
        refine m_ald_sz Z ho dX7_remove_54 (by exact vp_in_nI (by omega) (by decide)) ?_
        rw [nI_clamp (by omega)]
        refine g_iconst (v := 1) Z dX7_remove_55 (by decide) ?_
        refine g_isub Z dX7_remove_56 ?_
        rw [isub1]
        refine m_ast_sz Z ho dX7_remove_57 (by exact vp_in_nI (by omega) (by decide)) ?_
        rw [nI_clamp (by omega)]
        refine g_aload_n Z dX7_remove_58 rfl ?_
        refine g_iload_n Z dX7_remove_59 rfl ?_
        refine g_iload_n Z dX7_remove_60 rfl ?_
        refine g_cvV Z (f_X7_changed F.l F.D F.cy F.nw A x ho _ _ s (by omega) _ hms j hj) 2 gX7_remove_X7_changed rfl (by decide +kernel) (by rw [hRf, hRl]; decide) (by exact mP_x) (κ := 6) (by exact mP_Kx) rfl (by decide) rfl rfl (Nat.le_of_ble_eq_true rfl) dX7_remove_61 (by rw [hRc, hRs]; omega) (fun T hp => ?_)
        obtain ⟨E3, rfl, k1, k2, -⟩ := hp
        rw [pt_at, put_put, put_del] at k2
        have hne := rg_ne (h := 1) hb (W := ((V s).2 j).2.2) (by rw [h1]; decide)
        refine g_iconst (v := 1) Z dX7_remove_64 (by decide) ?_
        exact g_iret Z dX7_remove_65 (by omega) (by omega) (Or.inl ⟨s, by omega, rfl, _, E3, rfl, Or.inl ⟨j, hj, hkj, Or.inr ⟨rfl, hne, chg_if hkj⟩⟩, hM.one ((g2.me (by omega)).tr k1) k2⟩)
      · have h0 := hbt.symm.trans (cb0 h34)
        refine g_iconst (v := 0) Z dX7_remove_37 (by decide) ?_
        exact g_iret Z dX7_remove_38 (by omega) (by omega) (Or.inl ⟨s, by omega, rfl, V s, C, rfl, Or.inl ⟨j, hj, hkj, Or.inl ⟨rfl, rfl, rgr hb (by rw [h0]; rfl)⟩⟩, by rw [self_up]; exact hM⟩)
  · refine g_bipush (v := (-2)) Z dX7_remove_7 (by decide) ?_
    exact g_iret Z dX7_remove_9 (by omega) (by omega) (Or.inr ⟨his.f' h4, rfl, rfl⟩)
