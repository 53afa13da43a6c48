/-! ALL SETS: 0 to 7 the index's own, 8 the spare one, 9 to 16 the pile's -/
def GX (S : PS) (nw : Nat) (O so be it : Nat → Nat) (C : Nat → Nat → Nat) (V : Nat → Sv) : Prop :=
  (∀ i, i < 17 → SV S nw O (be i) (so i) (it i) (C i) (V i) ∧ O (so i) = 17 ∧ be i < 17) ∧ (∀ i j, i < 17 → j < 17 → so i = so j → i = j) ∧ ∀ i j, i < 17 → j < 17 → be i = be j → i = j
def GV (S : PS) (nw : Nat) (so O : Nat → Nat) (V : Nat → Sv) : Prop := ∃ be it C, GX S nw O so be it C V
/-- only sets and what is theirs may have changed -/
def GE (S T : PS) (so O : Nat → Nat) : Prop := Kp (fun a => O a < 17 ∨ ∃ i, i < 17 ∧ a = so i) S T
theorem GE.rf {S : PS} {so O : Nat → Nat} : GE S S so O := Kp.rf
theorem GE.tr {S T U : PS} {so O O2 : Nat → Nat} (hO : ∀ a ∈ S.L, O2 a = O a) (h : GE S T so O) (k : GE T U so O2) : GE S U so O :=
  ⟨fun a ha => k.1 a (h.1 a ha), fun a ha hn => (h.2 a ha hn).tr (k.2 a (h.1 a ha) (fun q => hn (q.imp (fun e => by rw [← hO a ha]; exact e) id)))⟩
theorem GX.after {S T : PS} {nw : Nat} {O so be it : Nat → Nat} {C : Nat → Nat → Nat} {V : Nat → Sv} {i : Nat} {W : Sv} (h : GX S nw O so be it C V) (hi : i < 17) (hn : nw ∉ T.L) (ha : After S T nw O (be i) (so i) (it i) W) : ∃ O2, (∀ a ∈ S.L, O2 a = O a) ∧ GV T nw so O2 (va_up V i W) ∧ GE S T so O := by
  obtain ⟨O2, C2, h1, h2, h3⟩ := ha
  obtain ⟨g1, g2, g3⟩ := h
  refine ⟨O2, h1, ⟨be, it, va_up C i C2, fun j hj => ?_, g2, g3⟩, h2.mono (fun a _ q => q.elim (fun e => Or.inl (by rw [e]; exact (g1 i hi).2.2)) (fun e => Or.inr ⟨i, hi, e⟩))⟩
  obtain ⟨k1, k2, k3⟩ := g1 j hj
  refine ⟨?_, (h1 _ k1.1).trans k2, k3⟩
  by_cases e : j = i
  · subst e
    rw [va_up_self, va_up_self]
    exact h3
  · rw [va_up_ne _ _ e, va_up_ne _ _ e]
    exact SV.other h1 h2 hn (fun q => e (g3 j i hj hi q)) (by rw [(g1 i hi).2.1]; omega) (by rw [k2]; have := (g1 i hi).2.2; omega) (fun q => e (g2 j i hj hi q)) k1
def swp {α : Type} (f : Nat → α) (i j : Nat) : Nat → α := va_up (va_up f i (f j)) j (f i)
theorem swp_i {α : Type} (f : Nat → α) {i j : Nat} (h : i ≠ j) : swp f i j i = f j := by unfold swp; rw [va_up_ne _ _ h, va_up_self]
theorem swp_j {α : Type} (f : Nat → α) (i j : Nat) : swp f i j j = f i := va_up_self _ _ _
theorem swp_o {α : Type} (f : Nat → α) {i j k : Nat} (h1 : k ≠ i) (h2 : k ≠ j) : swp f i j k = f k := by unfold swp; rw [va_up_ne _ _ h2, va_up_ne _ _ h1]
theorem GX.xch {S T : PS} {nw : Nat} {O so be it : Nat → Nat} {C : Nat → Nat → Nat} {V : Nat → Sv} {i j : Nat} (h : GX S nw O so be it C V) (hi : i < 17) (hj : j < 17) (hij : i ≠ j) (hn : nw ∉ T.L) (h1 : SV T nw O (be j) (so i) (it j) (C j) (V j)) (h2 : SV T nw O (be i) (so j) (it i) (C i) (V i)) (h3 : Kp (fun q => q = so i ∨ q = so j) S T) : GV T nw so O (swp V i j) ∧ GE S T so O := by
  obtain ⟨g1, g2, g3⟩ := h
  have sw : ∀ k, k < 17 → ∃ k2, k2 < 17 ∧ swp be i j k = be k2 ∧ swp it i j k = it k2 ∧ swp C i j k = C k2 ∧ swp V i j k = V k2 ∧ ((k = i ∧ k2 = j) ∨ (k = j ∧ k2 = i) ∨ (k2 = k ∧ k ≠ i ∧ k ≠ j)) := by
    intro k hk
    by_cases e : k = i
    · subst e; exact ⟨j, hj, swp_i _ hij, swp_i _ hij, swp_i _ hij, swp_i _ hij, Or.inl ⟨rfl, rfl⟩⟩
    · by_cases e2 : k = j
      · subst e2; exact ⟨i, hi, swp_j _ _ _, swp_j _ _ _, swp_j _ _ _, swp_j _ _ _, Or.inr (Or.inl ⟨rfl, rfl⟩)⟩
      · exact ⟨k, hk, swp_o _ e e2, swp_o _ e e2, swp_o _ e e2, swp_o _ e e2, Or.inr (Or.inr ⟨rfl, e, e2⟩)⟩
  refine ⟨⟨swp be i j, swp it i j, swp C i j, fun k hk => ?_, g2, fun k l hk hl e => ?_⟩, h3.mono (fun a _ q => Or.inr (q.elim (fun e => ⟨i, hi, e⟩) (fun e => ⟨j, hj, e⟩)))⟩
  · obtain ⟨k2, hk2, e1, e2, e3, e4, hc⟩ := sw k hk
    rw [e1, e2, e3, e4]
    refine ⟨?_, (g1 k hk).2.1, (g1 k2 hk2).2.2⟩
    rcases hc with ⟨rfl, rfl⟩ | ⟨rfl, rfl⟩ | ⟨rfl, n1, n2⟩
    · exact h1
    · exact h2
    · obtain ⟨k1, k3, k4⟩ := g1 k2 hk
      refine SV.keep h3.1 (fun _ _ => rfl) (h3.2 _ k1.1 (fun q => q.elim (fun e => n1 (g2 _ _ hk hi e)) (fun e => n2 (g2 _ _ hk hj e)))) (fun a ha e => h3.2 a ha (fun q => ?_)) hn k1
      rcases q with q | q
      · rw [q, (g1 i hi).2.1] at e; omega
      · rw [q, (g1 j hj).2.1] at e; omega
  · obtain ⟨k2, hk2, e1, -, -, -, hc⟩ := sw k hk
    obtain ⟨l2, hl2, f1, -, -, -, hd⟩ := sw l hl
    rw [e1, f1] at e
    have := g3 _ _ hk2 hl2 e
    omega
/-- what stands between two sets -/
theorem GX.ne {S : PS} {nw : Nat} {O so be it : Nat → Nat} {C : Nat → Nat → Nat} {V : Nat → Sv} {i j : Nat} (h : GX S nw O so be it C V) (hi : i < 17) (hj : j < 17) (hij : j ≠ i) : be j ≠ be i ∧ O (so i) ≠ be j ∧ O (so j) ≠ be i ∧ so j ≠ so i := by
  obtain ⟨g1, g2, g3⟩ := h
  have a := (g1 i hi).2.2
  have b := (g1 j hj).2.2
  exact ⟨fun e => hij (g3 _ _ hj hi e), by rw [(g1 i hi).2.1]; omega, by rw [(g1 j hj).2.1]; omega, fun e => hij (g2 _ _ hj hi e)⟩
/-- a cell that is none of the sets' -/
theorem GE.keep {S T : PS} {so O : Nat → Nat} {a : Nat} (h : GE S T so O) (ha : a ∈ S.L) (hO : O a = 17) (hn : ∀ i, i < 17 → a ≠ so i) : a ∈ T.L ∧ Ag S T a := ⟨h.1 a ha, h.2 a ha (fun q => q.elim (fun e => by omega) (fun ⟨i, hi, e⟩ => hn i hi e))⟩
theorem GV.kne {S : PS} {nw : Nat} {so O : Nat → Nat} {V : Nat → Sv} (h : GV S nw so O V) {a : Nat} (hk : S.K a ≠ 2) : ∀ i, i < 17 → a ≠ so i := by
  obtain ⟨be, it, C, g1, -, -⟩ := h
  intro i hi e
  exact hk (by rw [e]; exact (g1 i hi).1.2.1)
/-! ALL NUMBERS FROM 0 TO 65535 -/
def mW : Nat → Int64 := fun _ => -1
def aV : Sv := (1, fun _ => (0, 1, mW))
theorem ct_ones {f : Nat → Int64} : ∀ n, (∀ l, l < n → cb f 0 l = 1) → ct f 0 n = n
  | 0, _ => rfl
  | n + 1, h => by
    show ct f 0 n + cb f 0 n = n + 1
    rw [ct_ones n (fun l hl => h l (by omega)), h n (by omega)]
theorem mW_bit (l : Nat) : cb mW 0 l = 1 := by
  rw [cbz]
  exact m1_bit (Nat.mod_lt _ (by decide))
theorem tot_mW : tot mW = 65536 := (tot_ct mW).trans (ct_ones 65536 (fun l _ => mW_bit l))
theorem rg_all : ∀ j, j < 1024 → rg 0 0 65535 zW j = mW j := by
  refine row_ext (fun l hl => ?_)
  rw [rg_bit 0 (by decide), mW_bit, if_pos (by omega)]
  rfl

set_option maxRecDepth 100000 in
set_option maxHeartbeats 2000000 in
/-- each number from 0 to 65535 -/
theorem f_X2_becomeAll (l : Launch) (D : va_G) (cy : Nat → ClassId) (nw : Nat) (S : PS) (O : Nat → Nat) (b s it : Nat) (C : Nat → Nat) (V : Sv) (hv : SV S nw O b s it C V)  : kV l yX2_becomeAll wsX2_becomeAll 4 94 D cy nw [.ref s] S (fun T => After S T nw O b s it aV) 1 1024 := by
  refine enterV (cc := cX2_becomeAll) (nL := 1) (ret := none) (by decide +kernel) rfl (Nat.le_of_ble_eq_true rfl) ?_
  intro F Z hl hR hD hcy hnw hnm
  subst hl hD hcy hnw
  have hRf : F.R.frames = 4 := by rw [hR]
  have hRc : F.R.cells = 1 := by rw [hR]
  have hRs : F.R.slots = 1024 := by rw [hR]
  have hRl : F.R.locals = 94 := by rw [hR]
  have in2 : ∀ w ∈ u_ws RX2 TX2 2, w ∈ wsX2_becomeAll := by decide +kernel
  have lk18 : Cond.fieldLink RX2 18 (TX2 1).1 (TX2 1).2.1 (TX2 1).2.2.1 ∈ wsX2_becomeAll := by decide +kernel
  have ct73 : Cond.constant RX2 73 (65535) ∈ wsX2_becomeAll := by decide +kernel
  have hs := hv.at
  obtain ⟨hsL, hsK, hsit, hitL, hitK, hitl, hsu, hu7, hsw, hsr⟩ := id hs
  obtain ⟨e1, e2⟩ := SP.used (m := 0) (j := 0) (f := eS.2) ⟨hv.1, hv.2.1, hv.2.2.1, hv.2.2.2.1, hv.2.2.2.2.2.1, fun i hi => absurd hi (Nat.not_lt_zero _)⟩ (by omega)
  have e3 : SV (S.setI s 1 (nI 0)) F.nw O b s it C eS := SP.sv (by omega) e1 rfl (fun i hi => rfl)
  refine g_aload_n Z dX2_becomeAll_0 rfl ?_
  refine g_iconst (v := 0) Z dX2_becomeAll_1 (by decide) ?_
  refine g_puti Z 2 1 rfl (by decide) tyX2 tyX2_ok nmX2 rfl in2 lk18 dX2_becomeAll_2 rfl rfl (by assumption) (by assumption) ?_
  refine g_aload_n Z dX2_becomeAll_5 rfl ?_
  refine g_iconst (v := 0) Z dX2_becomeAll_6 (by decide) ?_
  refine g_iconst (v := 0) Z dX2_becomeAll_7 (by decide) ?_
  refine g_ldc (v := 65535) Z dX2_becomeAll_8 ct73 ?_
  refine g_iconst (v := 0) Z dX2_becomeAll_10 (by decide) ?_
  refine g_cvI Z (f_X2_changeSpan F.l F.D F.cy F.nw (S.setI s 1 (nI 0)) O b s it C eS e3 (fun i j _ hj => absurd hj (Nat.not_lt_zero _)) 0 0 65535 (by decide) (by decide) (by decide) (by decide) 0) 4 gX2_becomeAll_X2_changeSpan rfl (by decide +kernel) (by rw [hRf, hRl]; decide) (by assumption) (κ := 2) (by assumption) rfl (by decide) rfl rfl (Nat.le_of_ble_eq_true rfl) dX2_becomeAll_11 (by rw [hRc, hRs]; omega) (fun r U hp => ?_)
  obtain ⟨V2, hch, O2, C2, h1, h2, h3⟩ := hp
  have hV2 : V2 = eS.ins 0 (0, plK (nI (tot (rg 0 0 65535 zW))), rg 0 0 65535 zW) := by
    rcases hch with ⟨i, hi, -⟩ | ⟨i, hix, -, ⟨hg, -⟩ | ⟨-, h6, -⟩ | ⟨-, -, -, -, e⟩⟩
    · exact absurd hi (Nat.not_lt_zero _)
    · exact absurd hg (by decide)
    · exact absurd h6 (by decide)
    · have : i = 0 := by have := hix.1; exact Nat.le_zero.mp this
      rw [this] at e; exact e
  have hfin : After S U F.nw O b s it aV := ⟨O2, C2, h1, (e2.mono (fun a _ h => Or.inr h)).tr h2, SV.congr (V := V2) (by rw [hV2]; rfl) (fun i hi => by
    rw [hV2] at hi ⊢
    have hi0 : i = 0 := by have : i < 0 + 1 := hi; omega
    subst hi0
    rw [sv_ins_at]
    exact ⟨rfl, by show plK (nI (tot (rg 0 0 65535 zW))) = 1; rw [tot_congr rg_all, tot_mW]; decide, rg_all⟩) h3⟩
  refine g_pop Z dX2_becomeAll_14 rfl ?_
  exact g_vret Z dX2_becomeAll_15 (by omega) (by omega) (hfin)
