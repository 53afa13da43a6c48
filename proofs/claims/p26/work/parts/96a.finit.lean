/-! A NEW OBJECT: its cells, apart from each other -/
theorem Nx.ag {X : Nat → Prop} {S U : PS} (h : Nx X S U) {a : Nat} (ha : a ∈ S.L) (hX : ¬ X a) : Ag S U a := by
  obtain ⟨-, h2, h3, h4⟩ := h a ha
  obtain ⟨e1, e2, e3, e4, e5⟩ := h4 hX
  exact ⟨h2, e1, e2, h3, e3, e4, e5⟩
/-- a set just made, all of whose cells are new -/
def SN (S U : PS) (nw s it : Nat) (C : Nat → Nat) : Prop := s ∈ U.L ∧ U.K s = 2 ∧ U.fr s 0 = some it ∧ U.fi s 1 = 0 ∧ it ∉ S.L ∧ it ∈ U.L ∧ U.K it = 10 ∧ U.ln it = 7 ∧ (∀ i, i < 7 → U.rr it i = some (C i) ∧ C i ∉ S.L ∧ Cw U nw (C i) ∧ U.fr (C i) 3 = some nw) ∧ ∀ i j, i < 7 → j < 7 → C i = C j → i = j
theorem SN.sv {S U : PS} {nw s it : Nat} {C : Nat → Nat} (h : SN S U nw s it C) (O : Nat → Nat) (b : Nat) (hn : nw ∉ U.L) : SV U nw (fun a => if a ∈ S.L then O a else b) b s it C eS := by
  obtain ⟨h1, h2, h3, h4, h5, h6, h7, h8, h9, h10⟩ := h
  refine ⟨h1, h2, h3, h4, by decide, ⟨h6, h7, h8, if_neg h5, fun i hi => ⟨(h9 i hi).1, (h9 i hi).2.2.1, if_neg (h9 i hi).2.1, fun w hw hwL => ?_⟩, h10, fun i j w hi hj hwL hw _ => ?_⟩, fun i hi => absurd hi (Nat.not_lt_zero _)⟩
  · rw [(h9 i hi).2.2.2] at hw; cases hw; exact absurd hwL hn
  · rw [(h9 i hi).2.2.2] at hw; cases hw; exact absurd hwL hn
theorem ini_stf {nw s it j q : Nat} {S U : PS} {C : Nat → Nat} (hq : q ∉ U.L) (hN : Nx (fun a => a = s) S U) (hiS : it ∉ S.L) (hi : it ∈ U.L) (hrw : ∀ i, i < j → U.rr it i = some (C i) ∧ C i ∉ S.L ∧ Cw U nw (C i) ∧ U.fr (C i) 3 = some nw) (hin : ∀ i k, i < j → k < j → C i = C k → i = k) :
    (∀ i, i < j + 1 → (((U.newO q 1).setR q 3 (some nw)).rowR it (va_up (((U.newO q 1).setR q 3 (some nw)).rr it) j (some q))).rr it i = some (va_up C j q i) ∧ va_up C j q i ∉ S.L ∧ Cw (((U.newO q 1).setR q 3 (some nw)).rowR it (va_up (((U.newO q 1).setR q 3 (some nw)).rr it) j (some q))) nw (va_up C j q i) ∧ (((U.newO q 1).setR q 3 (some nw)).rowR it (va_up (((U.newO q 1).setR q 3 (some nw)).rr it) j (some q))).fr (va_up C j q i) 3 = some nw) ∧ ∀ i k, i < j + 1 → k < j + 1 → va_up C j q i = va_up C j q k → i = k := by
  have hqS : q ∉ S.L := fun h => hq (hN q h).1
  have e3 : ∀ c, c ∈ U.L → (((U.newO q 1).setR q 3 (some nw)).rowR it (va_up (((U.newO q 1).setR q 3 (some nw)).rr it) j (some q))).fr c 3 = U.fr c 3 := fun c hc => (up2_ne _ _ (Or.inl (ne_mem hq hc))).trans (congrFun (va_up_ne _ _ (ne_mem hq hc)) 3)
  have hcw : ∀ c, Cw U nw c → Cw (((U.newO q 1).setR q 3 (some nw)).rowR it (va_up (((U.newO q 1).setR q 3 (some nw)).rr it) j (some q))) nw c := by
    intro c ⟨c1, c2, ⟨k, c3, c4⟩, c5⟩
    have hne : c ≠ q := ne_mem hq c1
    refine ⟨List.mem_append_left _ c1, (va_up_ne _ _ hne).trans c2, ⟨k, c3, by show va_up U.fi q (fun _ => 0) c 0 = nI k; rw [va_up_ne _ _ hne]; exact c4⟩, ?_⟩
    rcases c5 with c5 | ⟨w, c5, c6, c7, c8⟩
    · exact Or.inl ((e3 c c1).trans c5)
    · exact Or.inr ⟨w, (e3 c c1).trans c5, List.mem_append_left _ c6, (va_up_ne _ _ (ne_mem hq c6)).trans c7, c8⟩
  refine ⟨fun i hij => ?_, fun i k h1 h2 e => ?_⟩
  · show va_up U.rr it (va_up (U.rr it) j (some q)) it i = _ ∧ _
    rw [va_up_self]
    by_cases e : i = j
    · subst e
      rw [va_up_self, va_up_self]
      exact ⟨rfl, hqS, ⟨in_new (κ := 1), K_new, ⟨0, by decide, by show va_up U.fi q (fun _ => 0) q 0 = nI 0; rw [va_up_self]; rfl⟩, Or.inl (up2_self _ _ _ _)⟩, up2_self _ _ _ _⟩
    · rw [va_up_ne _ _ e, va_up_ne _ _ e]
      obtain ⟨c1, c2, c3, c4⟩ := hrw i (by omega)
      exact ⟨c1, c2, hcw _ c3, (e3 _ c3.1).trans c4⟩
  · by_cases e1 : i = j
    · by_cases e2 : k = j
      · omega
      · rw [e1, va_up_self, va_up_ne _ _ e2] at e
        exact absurd (hrw k (by omega)).2.2.1.1 (by rw [← e]; exact hq)
    · by_cases e2 : k = j
      · rw [e2, va_up_self, va_up_ne _ _ e1] at e
        exact absurd (hrw i (by omega)).2.2.1.1 (by rw [e]; exact hq)
      · rw [va_up_ne _ _ e1, va_up_ne _ _ e2] at e
        exact hin i k (by omega) (by omega) e
/-- sets made one after another, with their labels -/
def FS (U : PS) (nw n base : Nat) (so it : Nat → Nat) (C : Nat → Nat → Nat) (O : Nat → Nat) : Prop := (∀ i, i < n → SV U nw O (base + i) (so i) (it i) (C i) eS ∧ O (so i) = 17) ∧ ∀ i j, i < n → j < n → so i = so j → i = j
theorem FS.rl {P : Nat → Prop} {U X : PS} {nw n base : Nat} {so it : Nat → Nat} {C : Nat → Nat → Nat} {O O2 : Nat → Nat} (h : FS U nw n base so it C O) (hR : Rl P U X) (p1 : ¬ P 1) (p2 : ¬ P 2) (p9 : ¬ P 9) (p10 : ¬ P 10) (hO : ∀ a ∈ U.L, O2 a = O a) (hn : nw ∉ X.L) : FS X nw n base so it C O2 := by
  refine ⟨fun i hi => ?_, h.2⟩
  obtain ⟨k1, k2⟩ := h.1 i hi
  refine ⟨SV.keepK (fun a ha => (hR a ha).1) (fun a ha _ => hO a ha) (hR.ag k1.1 (by rw [k1.2.1]; exact p2)) (fun a ha hk => hR.ag ha (by rcases hk with e | e | e <;> rw [e]; exact p1; exact p9; exact p10)) hn k1, (hO _ k1.1).trans k2⟩
/-- one more set -/
theorem FS.step {U U2 : PS} {nw j base la q itq : Nat} {so it : Nat → Nat} {C : Nat → Nat → Nat} {Cq : Nat → Nat} {O : Nat → Nat} (h : FS U nw j base so it C O) (hb : base + j < 17) (hq : q ∉ U.L) (hN : Nx (fun a => a = q) (U.newO q 2) U2) (hs : SN (U.newO q 2) U2 nw q itq Cq) (hl : la ∈ U.L) (hlK : U.K la = 11) (hlO : O la = 17) (hn : nw ∉ U2.L) :
    FS (U2.rowR la (va_up (U2.rr la) j (some q))) nw (j + 1) base (va_up so j q) (va_up it j itq) (va_up C j Cq) (fun a => if a ∈ (U.newO q 2).L then va_up O q 17 a else base + j) ∧ (∀ a ∈ U.L, (fun a => if a ∈ (U.newO q 2).L then va_up O q 17 a else base + j) a = O a) ∧ Nx (fun a => a = la) U (U2.rowR la (va_up (U2.rr la) j (some q))) ∧ (U2.rowR la (va_up (U2.rr la) j (some q))).rr la = va_up (U.rr la) j (some q) := by
  have hql : la ≠ q := ne_mem hq hl
  have hO : ∀ a ∈ U.L, (if a ∈ (U.newO q 2).L then va_up O q 17 a else base + j) = O a := fun a ha => (if_pos (List.mem_append_left _ ha)).trans (va_up_ne _ _ (ne_mem hq ha))
  have hOq : (if q ∈ (U.newO q 2).L then va_up O q 17 q else base + j) = 17 := (if_pos (in_new (κ := 2))).trans (va_up_self _ _ _)
  have hN0 : Nx (fun a => a = la) U U2 := (Nx.rf.newO hq).sub hN (fun a e => Or.inr (by rw [e]; exact hq))
  have hN1 : Nx (fun a => a = la) U (U2.rowR la (va_up (U2.rr la) j (some q))) := hN0.rowR (Or.inl rfl)
  obtain ⟨b1, b2, b3, b4⟩ := hN la (List.mem_append_left _ hl)
  have erow : U2.rr la = U.rr la := (b4 hql).2.2.2.2
  have hl2 : U2.K la = 11 := b2.trans ((va_up_ne _ _ hql).trans hlK)
  have a2 : ∀ a, a ≠ la → Ag U2 (U2.rowR la (va_up (U2.rr la) j (some q))) a := fun a ha => ⟨rfl, rfl, rfl, rfl, rfl, rfl, va_up_ne _ _ ha⟩
  have hnew := hs.sv (va_up O q 17) (base + j) hn
  refine ⟨⟨fun i hi => ?_, fun i k h1 h2 e => ?_⟩, hO, hN1, ?_⟩
  · by_cases e : i = j
    · subst e
      rw [va_up_self, va_up_self, va_up_self]
      refine ⟨SV.keep (S := U2) (fun _ h => h) (fun _ _ => rfl) (a2 q (Ne.symm hql)) (fun a _ e => a2 a (fun z => ?_)) hn hnew, hOq⟩
      rw [z] at e
      have : O la = base + i := (hO la hl).symm.trans e
      omega
    · rw [va_up_ne _ _ e, va_up_ne _ _ e, va_up_ne _ _ e]
      obtain ⟨k1, k2⟩ := h.1 i (by omega)
      have hne : so i ≠ la := fun z => by have := k1.2.1; rw [z, hlK] at this; exact absurd this (by decide)
      exact ⟨SV.keep (fun a ha => (hN1 a ha).1) hO (hN1.ag k1.1 hne) (fun a ha e2 => hN1.ag ha (fun z => by rw [z, hlO] at e2; omega)) hn k1, (hO _ k1.1).trans k2⟩
  · by_cases e1 : i = j
    · by_cases e2 : k = j
      · omega
      · rw [e1, va_up_self, va_up_ne _ _ e2] at e
        exact absurd (h.1 k (by omega)).1.1 (by rw [← e]; exact hq)
    · by_cases e2 : k = j
      · rw [e2, va_up_self, va_up_ne _ _ e1] at e
        exact absurd (h.1 i (by omega)).1.1 (by rw [e]; exact hq)
      · rw [va_up_ne _ _ e1, va_up_ne _ _ e2] at e
        exact h.2 i k (by omega) (by omega) e
  · show va_up U2.rr la (va_up (U2.rr la) j (some q)) la = _
    rw [va_up_self, erow]

set_option maxRecDepth 100000 in
set_option maxHeartbeats 2000000 in
/-- a new set -/
theorem f_X2_init (l : Launch) (D : va_G) (cy : Nat → ClassId) (nw : Nat) (S : PS) (s : Nat) (hsL : s ∈ S.L) (hsK : S.K s = 2) (hsu0 : S.fi s 1 = 0) : kV l yX2_init wsX2_init 2 40 D cy nw [.ref s] S (fun T => Nx (fun a => a = s) S T ∧ ∃ it C, SN S T nw s it C) 8 35 := by
  refine enterV (cc := cX2_init) (nL := 2) (ret := none) (by decide +kernel) rfl (Nat.le_of_ble_eq_true rfl) ?_
  intro F Z hl hR hD hcy hnw hnm
  subst hl hD hcy hnw
  have hRf : F.R.frames = 2 := by rw [hR]
  have hRc : F.R.cells = 8 := by rw [hR]
  have hRs : F.R.slots = 35 := by rw [hR]
  have hRl : F.R.locals = 40 := by rw [hR]
  have in1 : ∀ w ∈ u_ws RX1 TX1 4, w ∈ wsX2_init := by decide +kernel
  have in2 : ∀ w ∈ u_ws RX2 TX2 2, w ∈ wsX2_init := by decide +kernel
  have lk11 : Cond.fieldLink RX2 11 (TX2 0).1 (TX2 0).2.1 (TX2 0).2.2.1 ∈ wsX2_init := by decide +kernel
  have loop : ∀ (m j it : Nat) (C : Nat → Nat) (T : PS), 8 - j < m → (Nx (fun a => a = s) S T ∧ it ∉ S.L ∧ it ∈ T.L ∧ T.K it = 10 ∧ T.ln it = 7 ∧ T.fr s 0 = some it ∧ T.fi s 1 = 0 ∧ j ≤ 7 ∧ (∀ i, i < j → T.rr it i = some (C i) ∧ C i ∉ S.L ∧ Cw T F.nw (C i) ∧ T.fr (C i) 3 = some F.nw) ∧ ∀ i k, i < j → k < j → C i = C k → i = k) → G F 2 T (1 + j) (7 + 4 * j) (QV F (fun T => Nx (fun a => a = s) S T ∧ ∃ it C, SN S T F.nw s it C) 8 35) 15 [(0, .ref s), (1, .int (nI j))] [] := by
    intro m
    induction m with
    | zero => intros; omega
    | succ m ih =>
      intro j it C T hm ⟨hN, hiS, hiL, hiK, hil, hsi, hsu, hj7, hrw, hin⟩
      have hsL2 := (hN s hsL).1
      have hsK2 := (hN s hsL).2.1.trans hsK
      refine g_iload_n Z dX2_init_15 rfl ?_
      refine g_aload_n Z dX2_init_16 rfl ?_
      refine g_getr Z 2 0 rfl (by decide) in2 lk11 dX2_init_17 (by assumption) (by assumption) (by assumption) ?_
      refine g_alen10 Z dX2_init_20 (by assumption) (by assumption) ?_
      rw [hil]
      refine g_icmp_ge Z 43 dX2_init_21 (by decide) (fun h21 => ?_) (fun h21 => ?_)
      · have he : j = 7 := by have := ge_t (i := j) (N := 7) (by omega) (by decide) h21; omega
        subst he
        exact g_vret Z dX2_init_43 (by omega) (by omega) (⟨hN, it, C, hsL2, hsK2, hsi, hsu, hiS, hiL, hiK, hil, hrw, hin⟩)
      · have hlt : j < 7 := ge_f (by omega) (by decide) h21
        have hcj : (nI j).toNatClampNeg = j := nI_clamp (by omega)
        refine g_aload_n Z dX2_init_24 rfl ?_
        refine g_getr Z 2 0 rfl (by decide) in2 lk11 dX2_init_25 (by assumption) (by assumption) (by assumption) ?_
        refine g_iload_n Z dX2_init_28 rfl ?_
        refine g_new Z 1 rfl (by decide) tyX1 tyX1_ok in1 fs1 (by decide +kernel) (by decide +kernel) (by decide +kernel) dX2_init_29 (by rw [hRc]; omega) (by rw [hRs]; omega) (fun q hq => ?_)
        obtain ⟨hN2, hiL2, hiK2, hil2, -⟩ := ini_step (nw := F.nw) (j := j) hq hN hiS hiL hiK hil (fun i hi => ⟨C i, (hrw i hi).1, (hrw i hi).2.2.1⟩)
        obtain ⟨hrw2, hin2⟩ := ini_stf (nw := F.nw) hq hN hiS hiL hrw hin
        have hiq : it ≠ q := ne_mem hq hiL
        have hsq : s ≠ q := ne_mem hq hsL2
        refine g_dup Z dX2_init_32 rfl ?_
        refine g_ciN Z (c_X1_init F.l F.D F.cy F.nw _ q in_new K_new) 0 gX2_init_X1_init_n17 rfl (by decide +kernel) Z.2.2.2.2.2.2.2.2.2.1.1.2.1 (by decide +kernel) rfl (by decide +kernel) (by rw [hRf, hRl]; decide) rfl rfl (Nat.le_of_ble_eq_true rfl) dX2_init_33 (by rw [hRc, hRs]; omega) (fun T2 hp => ?_)
        subst hp
        refine g_aast10 Z dX2_init_36 (by exact List.mem_append_left _ hiL) (by exact (va_up_ne _ _ hiq).trans hiK) (by exact vin_of hil hlt (by decide)) (by exact in_new (κ := 1)) (by exact K_new) ?_
        rw [hcj]
        refine g_iinc (c := 1) Z dX2_init_37 rfl (by decide) (by decide) ?_
        rw [nI_1]
        refine g_goto Z 15 dX2_init_40 (by decide) ?_
        exact g_widen (by omega) (by omega) (g_lv (by (repeat (first | exact trivial | refine And.intro rfl ?_)); done) (ih (j + 1) it (va_up C j q) _ (by omega) ⟨hN2, hiS, hiL2, hiK2, hil2, (up2_ne _ _ (Or.inl hsq)).trans ((congrFun (va_up_ne _ _ hsq) 0).trans hsi), (congrFun (va_up_ne _ _ hsq) 1).trans hsu, by omega, hrw2, hin2⟩))
  refine g_aload_n Z dX2_init_0 rfl ?_
  refine g_objinit Z (by decide +kernel) (by decide +kernel) (by decide +kernel) dX2_init_1 (by rw [hRf]; decide) (by rw [hRl]; decide) (by decide) ?_
  refine g_aload_n Z dX2_init_4 rfl ?_
  refine g_bipush (v := 7) Z dX2_init_5 (by decide) ?_
  refine g_newq10 Z 7 dX2_init_7 (by decide +kernel) (by decide) (by decide) (by decide) (by rw [hRc]; decide) (by rw [hRs]; decide) (fun q hq => ?_)
  refine g_putr Z 2 0 rfl (by decide) tyX2 tyX2_ok nmX2 rfl in2 lk11 dX2_init_10 rfl rfl (by exact List.mem_append_left _ hsL) (by exact (va_up_ne _ _ (ne_mem hq hsL)).trans hsK) ?_
  refine g_iconst (v := 0) Z dX2_init_13 (by decide) ?_
  refine g_istore_n Z dX2_init_14 (by decide) ?_
  exact g_widen (by omega) (by omega) (g_lv (by (repeat (first | exact trivial | refine And.intro rfl ?_)); done) (loop 9 0 q (fun _ => 0) _ (by omega) ⟨(Nx.rf.newA hq).setR (Or.inl rfl), hq, in_newA (κ := 10) (n := 7), K_newA (n := 7), va_up_self _ _ _, up2_self _ _ _ _, hsu0, by omega, fun i hi => by omega, fun i k hi => by omega⟩))

set_option maxRecDepth 100000 in
set_option maxHeartbeats 2000000 in
/-- a new pile -/
theorem f_X3_init (l : Launch) (D : va_G) (cy : Nat → ClassId) (nw : Nat) (S : PS) (p : Nat) (hpL : p ∈ S.L) (hpK : S.K p = 3) (hpu0 : S.fi p 1 = 0) (O0 : Nat → Nat) : kV l yX3_init wsX3_init 3 61 D cy nw [.ref p] S (fun T => Nx (fun a => a = p) S T ∧ ∃ la so it C O, (∀ a ∈ S.L, O a = O0 a) ∧ la ∉ S.L ∧ la ∈ T.L ∧ T.K la = 11 ∧ T.ln la = 8 ∧ O la = 17 ∧ T.fr p 0 = some la ∧ T.fi p 1 = 0 ∧ (∀ i, i < 8 → T.rr la i = some (so i)) ∧ FS T nw 8 9 so it C O) 81 304 := by
  refine enterV (cc := cX3_init) (nL := 2) (ret := none) (by decide +kernel) rfl (Nat.le_of_ble_eq_true rfl) ?_
  intro F Z hl hR hD hcy hnw hnm
  subst hl hD hcy hnw
  have hRf : F.R.frames = 3 := by rw [hR]
  have hRc : F.R.cells = 81 := by rw [hR]
  have hRs : F.R.slots = 304 := by rw [hR]
  have hRl : F.R.locals = 61 := by rw [hR]
  have in2 : ∀ w ∈ u_ws RX2 TX2 2, w ∈ wsX3_init := by decide +kernel
  have in3 : ∀ w ∈ u_ws RX3 TX3 2, w ∈ wsX3_init := by decide +kernel
  have lk11 : Cond.fieldLink RX3 11 (TX3 0).1 (TX3 0).2.1 (TX3 0).2.2.1 ∈ wsX3_init := by decide +kernel
  have loop : ∀ (m j la : Nat) (so it : Nat → Nat) (C : Nat → Nat → Nat) (O : Nat → Nat) (T : PS), 9 - j < m → (Nx (fun a => a = p) S T ∧ (∀ a ∈ S.L, O a = O0 a) ∧ la ∉ S.L ∧ la ∈ T.L ∧ T.K la = 11 ∧ T.ln la = 8 ∧ O la = 17 ∧ T.fr p 0 = some la ∧ T.fi p 1 = 0 ∧ j ≤ 8 ∧ (∀ i, i < j → T.rr la i = some (so i)) ∧ FS T F.nw j 9 so it C O) → G F 2 T (1 + 9 * j) (8 + 37 * j) (QV F (fun T => Nx (fun a => a = p) S T ∧ ∃ la so it C O, (∀ a ∈ S.L, O a = O0 a) ∧ la ∉ S.L ∧ la ∈ T.L ∧ T.K la = 11 ∧ T.ln la = 8 ∧ O la = 17 ∧ T.fr p 0 = some la ∧ T.fi p 1 = 0 ∧ (∀ i, i < 8 → T.rr la i = some (so i)) ∧ FS T F.nw 8 9 so it C O) 81 304) 15 [(0, .ref p), (1, .int (nI j))] [] := by
    intro m
    induction m with
    | zero => intros; omega
    | succ m ih =>
      intro j la so it C O T hm ⟨hN, hO, hlS, hlL, hlK, hll, hlO, hpl, hpd, hj8, hrw, hFS⟩
      have hpL2 := (hN p hpL).1
      have hpK2 := (hN p hpL).2.1.trans hpK
      refine g_iload_n Z dX3_init_15 rfl ?_
      refine g_aload_n Z dX3_init_16 rfl ?_
      refine g_getr Z 3 0 rfl (by decide) in3 lk11 dX3_init_17 (by assumption) (by assumption) (by assumption) ?_
      refine g_alen11 Z dX3_init_20 (by assumption) (by assumption) ?_
      rw [hll]
      refine g_icmp_ge Z 43 dX3_init_21 (by decide) (fun h21 => ?_) (fun h21 => ?_)
      · have he : j = 8 := by have := ge_t (i := j) (N := 8) (by omega) (by decide) h21; omega
        subst he
        exact g_vret Z dX3_init_43 (by omega) (by omega) (⟨hN, la, so, it, C, O, hO, hlS, hlL, hlK, hll, hlO, hpl, hpd, hrw, hFS⟩)
      · have hlt : j < 8 := ge_f (by omega) (by decide) h21
        have hcj : (nI j).toNatClampNeg = j := nI_clamp (by omega)
        refine g_aload_n Z dX3_init_24 rfl ?_
        refine g_getr Z 3 0 rfl (by decide) in3 lk11 dX3_init_25 (by assumption) (by assumption) (by assumption) ?_
        refine g_iload_n Z dX3_init_28 rfl ?_
        refine g_new Z 2 rfl (by decide) tyX2 tyX2_ok in2 fs2 (by decide +kernel) (by decide +kernel) (by decide +kernel) dX3_init_29 (by rw [hRc]; omega) (by rw [hRs]; omega) (fun q hq => ?_)
        refine g_dup Z dX3_init_32 rfl ?_
        refine g_ci Z (f_X2_init F.l F.D F.cy F.nw _ q (in_new (κ := 2)) K_new (congrFun (va_up_self _ _ _) 1)) 0 gX3_init_X2_init rfl (by decide +kernel) (by decide +kernel) (by decide +kernel) rfl (by decide +kernel) (by rw [hRf, hRl]; decide) rfl rfl (Nat.le_of_ble_eq_true rfl) dX3_init_33 (by rw [hRc, hRs]; omega) (fun T2 hp => ?_)
        obtain ⟨hN1, itq, Cq, hset⟩ := hp
        refine g_nw Z (fun hnT => ?_)
        obtain ⟨hFS2, hO2, hN2, hrr⟩ := hFS.step (by omega) hq hN1 hset hlL hlK hlO hnT
        obtain ⟨n1, n2, n3, -⟩ := hN2 la hlL
        have hpa : p ≠ la := ne_mem hlS hpL
        obtain ⟨b1, b2, b3, -⟩ := hN1 la (List.mem_append_left _ hlL)
        have hlKa : T2.K la = 11 := b2.trans ((va_up_ne _ _ (ne_mem hq hlL)).trans hlK)
        refine g_aast11 Z dX3_init_36 (by exact b1) (by exact hlKa) (by exact vin_of (b3.trans hll) hlt (by decide)) (by exact hset.1) (by exact hset.2.1) ?_
        rw [hcj]
        refine g_iinc (c := 1) Z dX3_init_37 rfl (by decide) (by decide) ?_
        rw [nI_1]
        refine g_goto Z 15 dX3_init_40 (by decide) ?_
        exact g_widen (by omega) (by omega) (g_lv (by (repeat (first | exact trivial | refine And.intro rfl ?_)); done) (ih (j + 1) la _ _ _ _ _ (by omega) ⟨hN.sub hN2 (fun a e => Or.inr (by rw [e]; exact hlS)), fun a ha => (hO2 a (hN a ha).1).trans (hO a ha), hlS, n1, n2.trans hlK, n3.trans hll, (hO2 la hlL).trans hlO, (congrFun ((hN2 p hpL2).2.2.2 hpa).2.1 0).trans hpl, (congrFun ((hN2 p hpL2).2.2.2 hpa).1 1).trans hpd, by omega, fun i hi => by
          rw [hrr]
          by_cases e : i = j
          · subst e; rw [va_up_self, va_up_self]
          · rw [va_up_ne _ _ e, va_up_ne _ _ e]; exact hrw i (by omega), hFS2⟩))
  refine g_aload_n Z dX3_init_0 rfl ?_
  refine g_objinit Z (by decide +kernel) (by decide +kernel) (by decide +kernel) dX3_init_1 (by rw [hRf]; decide) (by rw [hRl]; decide) (by decide) ?_
  refine g_aload_n Z dX3_init_4 rfl ?_
  refine g_bipush (v := 8) Z dX3_init_5 (by decide) ?_
  refine g_newq11 Z 8 dX3_init_7 (by decide +kernel) (by decide) (by decide) (by decide) (by rw [hRc]; decide) (by rw [hRs]; decide) (fun q hq => ?_)
  refine g_putFr Z 3 0 rfl (by decide) tyX3 tyX3_ok nmX3 rfl in3 lk11 dX3_init_10 hnm rfl rfl rfl (by exact List.mem_append_left _ hpL) (by exact (va_up_ne _ _ (ne_mem hq hpL)).trans hpK) ?_
  refine g_iconst (v := 0) Z dX3_init_13 (by decide) ?_
  refine g_istore_n Z dX3_init_14 (by decide) ?_
  exact g_widen (by omega) (by omega) (g_lv (by (repeat (first | exact trivial | refine And.intro rfl ?_)); done) (loop 10 0 q (fun _ => 0) (fun _ => 0) (fun _ _ => 0) (va_up O0 q 17) _ (by omega) ⟨(Nx.rf.newA hq).setR (Or.inl rfl), fun a ha => va_up_ne _ _ (ne_mem hq ha), hq, in_newA (κ := 11) (n := 8), K_newA (n := 8), va_up_self _ _ _, va_up_self _ _ _, up2_self _ _ _ _, hpu0, by omega, fun i hi => by omega, fun i hi => absurd hi (Nat.not_lt_zero _), fun i k hi => absurd hi (Nat.not_lt_zero _)⟩))

/-- what the object holds while it is made -/
def FI (U : PS) (nw x sa pl la br h rd rk rt j : Nat) (so1 it1 so2 it2 so3 it3 : Nat → Nat) (C1 C2 C3 : Nat → Nat → Nat) (O : Nat → Nat) : Prop :=
  (x ∈ U.L ∧ U.K x = 5 ∧ O x = 17 ∧ U.fr x 0 = some sa ∧ U.fr x 1 = some (so2 0) ∧ U.fr x 2 = some pl ∧ U.fr x 3 = some br ∧ U.fr x 4 = some rd ∧ U.fi x 5 = nI 300) ∧
  (sa ∈ U.L ∧ U.K sa = 11 ∧ U.ln sa = 8 ∧ O sa = 17 ∧ ∀ i, i < j → U.rr sa i = some (so1 i)) ∧
  (pl ∈ U.L ∧ U.K pl = 3 ∧ U.fr pl 0 = some la ∧ la ∈ U.L ∧ U.K la = 11 ∧ U.ln la = 8 ∧ (∀ i, i < 8 → U.rr la i = some (so3 i)) ∧ U.fi pl 1 = nI 0 ∧ O pl = 17 ∧ O la = 17) ∧
  (BytesAt U br h 1024 0 ∧ O br = 17 ∧ O h = 17) ∧ (RdC U rd rk rt ∧ O rd = 17 ∧ O rk = 17 ∧ O rt = 17 ∧ U.fi rd 0 = nI 0) ∧ la ≠ sa ∧
  FS U nw j 0 so1 it1 C1 O ∧ FS U nw 1 8 so2 it2 C2 O ∧ FS U nw 8 9 so3 it3 C3 O
theorem FI.step {U U2 : PS} {nw x sa pl la br h rd rk rt j q itq : Nat} {so1 it1 so2 it2 so3 it3 : Nat → Nat} {C1 C2 C3 : Nat → Nat → Nat} {Cq O : Nat → Nat} (k : FI U nw x sa pl la br h rd rk rt j so1 it1 so2 it2 so3 it3 C1 C2 C3 O) (hj : j < 8) (hq : q ∉ U.L) (hN : Nx (fun a => a = q) (U.newO q 2) U2) (hs : SN (U.newO q 2) U2 nw q itq Cq) (hn : nw ∉ U2.L) :
    ∃ O2, FI (U2.rowR sa (va_up (U2.rr sa) j (some q))) nw x sa pl la br h rd rk rt (j + 1) (va_up so1 j q) (va_up it1 j itq) so2 it2 so3 it3 (va_up C1 j Cq) C2 C3 O2 := by
  obtain ⟨⟨a1, a2, a3, a4, a5, a6, a7, a8, a9⟩, ⟨b1, b2, b3, b4, b5⟩, ⟨c1, c2, c3, c4, c5, c6, c7, c8, c9, c10⟩, ⟨d1, d2, d3⟩, ⟨e1, e2, e3, e4, e5⟩, f1, f2, f3, f4⟩ := k
  obtain ⟨g1, hO, hN1, hrr⟩ := f2.step (by omega) hq hN hs b1 b2 b4 hn
  have hR : Rl (fun κ => κ = 11) U (U2.rowR sa (va_up (U2.rr sa) j (some q))) := hN1.rl (fun a _ e => by rw [e]; exact b2)
  have ag : ∀ a ∈ U.L, a ≠ sa → Ag U (U2.rowR sa (va_up (U2.rr sa) j (some q))) a := fun a ha h => hN1.ag ha h
  have hL : ∀ a ∈ U.L, a ∈ (U2.rowR sa (va_up (U2.rr sa) j (some q))).L := fun a ha => (hN1 a ha).1
  have nk : ∀ {a κ : Nat}, U.K a = κ → κ ≠ 11 → a ≠ sa := fun h1 h2 e => h2 (by rw [← h1, e]; exact b2)
  have hx := ag x a1 (nk a2 (by decide))
  have hp := ag pl c1 (nk c2 (by decide))
  have hl := ag la c4 f1
  refine ⟨_, ⟨hL _ a1, hx.1.trans a2, (hO _ a1).trans a3, by rw [hx.2.2.1]; exact a4, by rw [hx.2.2.1]; exact a5, by rw [hx.2.2.1]; exact a6, by rw [hx.2.2.1]; exact a7, by rw [hx.2.2.1]; exact a8, by rw [hx.2.1]; exact a9⟩, ⟨hL _ b1, (hN1 _ b1).2.1.trans b2, (hN1 _ b1).2.2.1.trans b3, (hO _ b1).trans b4, fun i hi => ?_⟩, ⟨hL _ c1, hp.1.trans c2, by rw [hp.2.2.1]; exact c3, hL _ c4, hl.1.trans c5, hl.2.2.2.1.trans c6, fun i hi => by rw [hl.2.2.2.2.2.2]; exact c7 i hi, by rw [hp.2.1]; exact c8, (hO _ c1).trans c9, (hO _ c4).trans c10⟩, ⟨hR.bytes (by decide) (by decide) d1, (hO _ d1.1).trans d2, (hO _ d1.2.2.2.1).trans d3⟩, ⟨e1.ag hL (ag rd e1.1 (nk e1.2.1 (by decide))) (ag rk e1.2.2.2.1 (nk e1.2.2.2.2.1 (by decide))) (ag rt e1.2.2.2.2.2.2.2.1 (nk e1.2.2.2.2.2.2.2.2.1 (by decide))), (hO _ e1.1).trans e2, (hO _ e1.2.2.2.1).trans e3, (hO _ e1.2.2.2.2.2.2.2.1).trans e4, by rw [(ag rd e1.1 (nk e1.2.1 (by decide))).2.1]; exact e5⟩, f1, g1, f3.rl hR (by decide) (by decide) (by decide) (by decide) hO hn, f4.rl hR (by decide) (by decide) (by decide) (by decide) hO hn⟩
  rw [hrr]
  by_cases e : i = j
  · subst e; rw [va_up_self, va_up_self]
  · rw [va_up_ne _ _ e, va_up_ne _ _ e]; exact b5 i (by omega)
theorem FI.fx {U : PS} {nw x sa pl la br h rd rk rt : Nat} {so1 it1 so2 it2 so3 it3 : Nat → Nat} {C1 C2 C3 : Nat → Nat → Nat} {O : Nat → Nat} (k : FI U nw x sa pl la br h rd rk rt 8 so1 it1 so2 it2 so3 it3 C1 C2 C3 O) : ∃ so O, FX U nw x sa pl la br h 1024 0 rd rk rt 300 0 so O (fun _ => eS) (fun _ => 0) := by
  obtain ⟨⟨a1, a2, a3, a4, a5, a6, a7, a8, a9⟩, ⟨b1, b2, b3, b4, b5⟩, ⟨c1, c2, c3, c4, c5, c6, c7, c8, c9, c10⟩, ⟨d1, d2, d3⟩, ⟨e1, e2, e3, e4, e5⟩, f1, f2, f3, f4⟩ := k
  let so : Nat → Nat := fun i => if i < 8 then so1 i else if i = 8 then so2 0 else so3 (i - 9)
  let it : Nat → Nat := fun i => if i < 8 then it1 i else if i = 8 then it2 0 else it3 (i - 9)
  let C : Nat → Nat → Nat := fun i => if i < 8 then C1 i else if i = 8 then C2 0 else C3 (i - 9)
  have hso : ∀ i, i < 17 → SV U nw O i (so i) (it i) (C i) eS ∧ O (so i) = 17 := by
    intro i hi
    show SV U nw O i (if i < 8 then so1 i else if i = 8 then so2 0 else so3 (i - 9)) (if i < 8 then it1 i else if i = 8 then it2 0 else it3 (i - 9)) (if i < 8 then C1 i else if i = 8 then C2 0 else C3 (i - 9)) eS ∧ O (if i < 8 then so1 i else if i = 8 then so2 0 else so3 (i - 9)) = 17
    by_cases h1 : i < 8
    · rw [if_pos h1, if_pos h1, if_pos h1]
      have := f2.1 i h1
      rw [Nat.zero_add] at this
      exact this
    · rw [if_neg h1, if_neg h1, if_neg h1]
      by_cases h2 : i = 8
      · subst h2; rw [if_pos rfl, if_pos rfl, if_pos rfl]; exact f3.1 0 (by omega)
      · rw [if_neg h2, if_neg h2, if_neg h2]
        have := f4.1 (i - 9) (by omega)
        rw [show 9 + (i - 9) = i by omega] at this
        exact this
  refine ⟨so, O, ⟨⟨a1, a2, a3, a4, ?_, a6, a7, a8, a9, by decide⟩, ⟨b1, b2, b3, fun i hi => ?_, b4⟩, ⟨0, c1, c2, c3, c4, c5, c6, fun i hi => ?_, c8, c9, c10⟩, ⟨⟨d1, fun i hi => absurd hi (Nat.not_lt_zero _)⟩, d2, d3⟩, e1, e2, e3, e4, e5⟩, ⟨id, it, C, fun i hi => ⟨(hso i hi).1, (hso i hi).2, hi⟩, fun i j hi hj e => ?_, fun i j _ _ e => e⟩, fun i _ => Vok.eS⟩
  · show U.fr x 1 = some (if 8 < 8 then so1 8 else if 8 = 8 then so2 0 else so3 (8 - 9))
    rw [if_neg (by decide), if_pos rfl]
    exact a5
  · show U.rr sa i = some (if i < 8 then so1 i else _)
    rw [if_pos hi]; exact b5 i hi
  · show U.rr la i = some (if 9 + i < 8 then so1 (9 + i) else if 9 + i = 8 then so2 0 else so3 (9 + i - 9))
    rw [if_neg (by omega), if_neg (by omega), show 9 + i - 9 = i by omega]; exact c7 i hi
  · have h1 := (hso i hi).1
    have h2 := (hso j hj).1
    have hi1 : U.fr (so i) 0 = some (it i) := h1.2.2.1
    have hj1 : U.fr (so j) 0 = some (it j) := h2.2.2.1
    rw [e, hj1] at hi1
    have e2 : it j = it i := Option.some.inj hi1
    have o1 : O (it i) = i := h1.2.2.2.2.2.1.2.2.2.1
    have o2 : O (it j) = j := h2.2.2.2.2.2.1.2.2.2.1
    rw [e2, o1] at o2
    exact o2
theorem Rl5.rdc {rd rk rt : Nat} {S U : PS} (h : Rl (fun κ => κ = 5) S U) (k : RdC S rd rk rt) : RdC U rd rk rt := k.ag (fun a ha => (h a ha).1) (h.ag k.1 (by rw [k.2.1]; decide)) (h.ag k.2.2.2.1 (by rw [k.2.2.2.2.1]; decide)) (h.ag k.2.2.2.2.2.2.2.1 (by rw [k.2.2.2.2.2.2.2.2.1]; decide))
def PN (U : PS) (pl la : Nat) (so : Nat → Nat) : Prop := pl ∈ U.L ∧ U.K pl = 3 ∧ U.fr pl 0 = some la ∧ la ∈ U.L ∧ U.K la = 11 ∧ U.ln la = 8 ∧ (∀ i, i < 8 → U.rr la i = some (so i)) ∧ U.fi pl 1 = 0
theorem Rl5.pn {pl la : Nat} {so : Nat → Nat} {S U : PS} (h : Rl (fun κ => κ = 5) S U) (k : PN S pl la so) : PN U pl la so := by
  obtain ⟨k1, k2, k3, k4, k5, k6, k7, k8⟩ := k
  have a := h.ag k1 (by rw [k2]; decide)
  have b := h.ag k4 (by rw [k5]; decide)
  exact ⟨(h pl k1).1, a.1.trans k2, by rw [a.2.2.1]; exact k3, (h la k4).1, b.1.trans k5, b.2.2.2.1.trans k6, fun i hi => by rw [b.2.2.2.2.2.2]; exact k7 i hi, by rw [a.2.1]; exact k8⟩
theorem FS1 {U : PS} {nw s it : Nat} {C : Nat → Nat} {O : Nat → Nat} (h : SV U nw O 8 s it C eS) (ho : O s = 17) : FS U nw 1 8 (fun _ => s) (fun _ => it) (fun _ => C) O := ⟨fun i hi => by
  have : i = 0 := by omega
  subst this
  exact ⟨h, ho⟩, fun i j hi hj _ => by omega⟩

set_option maxRecDepth 100000 in
set_option maxHeartbeats 2000000 in
/-- a new index -/
theorem f_X6_init (l : Launch) (D : va_G) (cy : Nat → ClassId) (nw : Nat) (S : PS) (x : Nat) (hxL : x ∈ S.L) (hxK : S.K x = 5) : kV l yX6_init wsX6_init 4 82 D cy nw [.ref x] S (fun T => ∃ sa pl la br h rd rk rt so O, FX T nw x sa pl la br h 1024 0 rd rk rt 300 0 so O (fun _ => eS) (fun _ => 0)) 170 1727 := by
  refine enterV (cc := cX6_init) (nL := 2) (ret := none) (by decide +kernel) rfl (Nat.le_of_ble_eq_true rfl) ?_
  intro F Z hl hR hD hcy hnw hnm
  subst hl hD hcy hnw
  have hRf : F.R.frames = 4 := by rw [hR]
  have hRc : F.R.cells = 170 := by rw [hR]
  have hRs : F.R.slots = 1727 := by rw [hR]
  have hRl : F.R.locals = 82 := by rw [hR]
  have in0 : ∀ w ∈ u_ws RX0 TX0 2, w ∈ wsX6_init := by decide +kernel
  have in2 : ∀ w ∈ u_ws RX2 TX2 2, w ∈ wsX6_init := by decide +kernel
  have in3 : ∀ w ∈ u_ws RX3 TX3 2, w ∈ wsX6_init := by decide +kernel
  have in4 : ∀ w ∈ u_ws RX4 TX4 10, w ∈ wsX6_init := by decide +kernel
  have in5 : ∀ w ∈ u_ws RX6 TX6 6, w ∈ wsX6_init := by decide +kernel
  have lk11 : Cond.fieldLink RX6 11 (TX6 0).1 (TX6 0).2.1 (TX6 0).2.2.1 ∈ wsX6_init := by decide +kernel
  have lk16 : Cond.fieldLink RX6 16 (TX6 1).1 (TX6 1).2.1 (TX6 1).2.2.1 ∈ wsX6_init := by decide +kernel
  have lk23 : Cond.fieldLink RX6 23 (TX6 2).1 (TX6 2).2.1 (TX6 2).2.2.1 ∈ wsX6_init := by decide +kernel
  have lk30 : Cond.fieldLink RX6 30 (TX6 3).1 (TX6 3).2.1 (TX6 3).2.2.1 ∈ wsX6_init := by decide +kernel
  have lk37 : Cond.fieldLink RX6 37 (TX6 4).1 (TX6 4).2.1 (TX6 4).2.2.1 ∈ wsX6_init := by decide +kernel
  have lk41 : Cond.fieldLink RX6 41 (TX6 5).1 (TX6 5).2.1 (TX6 5).2.2.1 ∈ wsX6_init := by decide +kernel
  have loop : ∀ (m j sa pl la br h rd rk rt : Nat) (so1 it1 so2 it2 so3 it3 : Nat → Nat) (C1 C2 C3 : Nat → Nat → Nat) (O : Nat → Nat) (T : PS), 9 - j < m → (FI T F.nw x sa pl la br h rd rk rt j so1 it1 so2 it2 so3 it3 C1 C2 C3 O ∧ j ≤ 8) → G F 2 T (98 + 9 * j) (1431 + 37 * j) (QV F (fun T => ∃ sa pl la br h rd rk rt so O, FX T F.nw x sa pl la br h 1024 0 rd rk rt 300 0 so O (fun _ => eS) (fun _ => 0)) 170 1727) 66 [(0, .ref x), (1, .int (nI j))] [] := by
    intro m
    induction m with
    | zero => intros; omega
    | succ m ih =>
      intro j sa pl la br h rd rk rt so1 it1 so2 it2 so3 it3 C1 C2 C3 O T hm ⟨hFI, hj8⟩
      obtain ⟨⟨xL, xK, -, x0, -⟩, ⟨hlL, hlK, hll, -⟩, -⟩ := id hFI
      refine g_iload_n Z dX6_init_66 rfl ?_
      refine g_bipush (v := 8) Z dX6_init_67 (by decide) ?_
      refine g_icmp_ge Z 91 dX6_init_69 (by decide) (fun h69 => ?_) (fun h69 => ?_)
      · have he : j = 8 := by have := ge_t (i := j) (N := 8) (by omega) (by decide) h69; omega
        subst he
        obtain ⟨so, O9, hFX⟩ := hFI.fx
        exact g_vret Z dX6_init_91 (by omega) (by omega) (⟨sa, pl, la, br, h, rd, rk, rt, so, O9, hFX⟩)
      · have hlt : j < 8 := ge_f (N := 8) (by omega) (by decide) h69
        have hcj : (nI j).toNatClampNeg = j := nI_clamp (by omega)
        refine g_aload_n Z dX6_init_72 rfl ?_
        refine g_getr Z 5 0 rfl (by decide) in5 lk11 dX6_init_73 (by assumption) (by assumption) (by assumption) ?_
        refine g_iload_n Z dX6_init_76 rfl ?_
        refine g_new Z 2 rfl (by decide) tyX2 tyX2_ok in2 fs2 (by decide +kernel) (by decide +kernel) (by decide +kernel) dX6_init_77 (by rw [hRc]; omega) (by rw [hRs]; omega) (fun q hq => ?_)
        refine g_dup Z dX6_init_80 rfl ?_
        refine g_ci Z (f_X2_init F.l F.D F.cy F.nw _ q (in_new (κ := 2)) K_new (congrFun (va_up_self _ _ _) 1)) 0 gX6_init_X2_init rfl (by decide +kernel) (by decide +kernel) (by decide +kernel) rfl (by decide +kernel) (by rw [hRf, hRl]; decide) rfl rfl (Nat.le_of_ble_eq_true rfl) dX6_init_81 (by rw [hRc, hRs]; omega) (fun T2 hp => ?_)
        obtain ⟨hN1, itq, Cq, hset⟩ := hp
        refine g_nw Z (fun hnT => ?_)
        obtain ⟨O2, hFI2⟩ := hFI.step hlt hq hN1 hset hnT
        obtain ⟨b1, b2, b3, -⟩ := hN1 sa (List.mem_append_left _ hlL)
        have hlKa : T2.K sa = 11 := b2.trans ((va_up_ne _ _ (ne_mem hq hlL)).trans hlK)
        refine g_aast11 Z dX6_init_84 (by exact b1) (by exact hlKa) (by exact vin_of (b3.trans hll) hlt (by decide)) (by exact hset.1) (by exact hset.2.1) ?_
        rw [hcj]
        refine g_iinc (c := 1) Z dX6_init_85 rfl (by decide) (by decide) ?_
        rw [nI_1]
        refine g_goto Z 66 dX6_init_88 (by decide) ?_
        exact g_widen (by omega) (by omega) (g_lv (by (repeat (first | exact trivial | refine And.intro rfl ?_)); done) (ih (j + 1) _ _ _ _ _ _ _ _ _ _ _ _ _ _ _ _ _ _ _ (by omega) ⟨hFI2, by omega⟩))
  refine g_aload_n Z dX6_init_0 rfl ?_
  refine g_objinit Z (by decide +kernel) (by decide +kernel) (by decide +kernel) dX6_init_1 (by rw [hRf]; decide) (by rw [hRl]; decide) (by decide) ?_
  refine g_aload_n Z dX6_init_4 rfl ?_
  refine g_bipush (v := 8) Z dX6_init_5 (by decide) ?_
  refine g_newq11 Z 8 dX6_init_7 (by decide +kernel) (by decide) (by decide) (by decide) (by rw [hRc]; decide) (by rw [hRs]; decide) (fun sa hsa => ?_)
  refine g_putFr Z 5 0 rfl (by decide) tyX6 tyX6_ok nmX6 rfl in5 lk11 dX6_init_10 hnm rfl rfl rfl (by exact List.mem_append_left _ hxL) (by exact (va_up_ne _ _ (ne_mem hsa hxL)).trans hxK) ?_
  obtain ⟨T1, hT1⟩ : ∃ T1, T1 = (S.newA sa 11 8).setR x 0 (some sa) := ⟨_, rfl⟩
  have a1 : x ∈ T1.L := by rw [hT1]; exact List.mem_append_left _ hxL
  have a2 : T1.K x = 5 := by rw [hT1]; exact (va_up_ne _ _ (ne_mem hsa hxL)).trans hxK
  have a3 : T1.fr x 0 = some sa := by rw [hT1]; exact up2_self _ _ _ _
  have a4 : sa ∈ T1.L := by rw [hT1]; exact in_newA (κ := 11) (n := 8)
  have a5 : T1.K sa = 11 := by rw [hT1]; exact K_newA (n := 8)
  have a6 : T1.ln sa = 8 := by rw [hT1]; exact va_up_self _ _ _
  rw [← hT1]
  refine g_aload_n Z dX6_init_13 rfl ?_
  refine g_new Z 2 rfl (by decide) tyX2 tyX2_ok in2 fs2 (by decide +kernel) (by decide +kernel) (by decide +kernel) dX6_init_14 (by rw [hRc]; omega) (by rw [hRs]; omega) (fun sp hsp => ?_)
  refine g_dup Z dX6_init_17 rfl ?_
  refine g_ci Z (f_X2_init F.l F.D F.cy F.nw _ sp (in_new (κ := 2)) K_new (congrFun (va_up_self _ _ _) 1)) 0 gX6_init_X2_init rfl (by decide +kernel) (by decide +kernel) (by decide +kernel) rfl (by decide +kernel) (by rw [hRf, hRl]; decide) rfl rfl (Nat.le_of_ble_eq_true rfl) dX6_init_18 (by rw [hRc, hRs]; omega) (fun T2 hp => ?_)
  obtain ⟨hN1, its, Cs, hset⟩ := hp
  refine g_nw Z (fun hn2 => ?_)
  obtain ⟨b1, b2, b3, b4, b5, b6, b7, b8, b9⟩ := ini_obj (i := 1) (v := some sp) hsp a1 a2 hN1
  have s2 := hset.sv (fun _ => 17) 8 hn2
  have o3 : ∀ a ∈ T1.L, (fun a => if a ∈ (T1.newO sp 2).L then (17 : Nat) else 8) a = 17 := fun a ha => if_pos (List.mem_append_left _ ha)
  have hFSa : FS T2 F.nw 1 8 (fun _ => sp) (fun _ => its) (fun _ => Cs) (fun a => if a ∈ (T1.newO sp 2).L then (17 : Nat) else 8) := FS1 s2 (if_pos (in_new (κ := 2)))
  obtain ⟨bl1, bl2, bl3, -⟩ := b1 sa a4
  refine g_putFr Z 5 1 rfl (by decide) tyX6 tyX6_ok nmX6 rfl in5 lk16 dX6_init_21 hnm rfl rfl rfl (by exact b8) (by exact b9) ?_
  obtain ⟨T3, hT3⟩ : ∃ T3, T3 = T2.setR x 1 (some sp) := ⟨_, rfl⟩
  have hn3 : F.nw ∉ T3.L := by rw [hT3]; exact hn2
  rw [← hT3] at b1 b2 b3 b4 b5 b6 b7 bl1 bl2 bl3
  have hFSb := hFSa.rl b2 (by decide) (by decide) (by decide) (by decide) (fun _ _ => rfl) hn3
  rw [← hT3]
  refine g_aload_n Z dX6_init_24 rfl ?_
  refine g_new Z 3 rfl (by decide) tyX3 tyX3_ok in3 fs3 (by decide +kernel) (by decide +kernel) (by decide +kernel) dX6_init_25 (by rw [hRc]; omega) (by rw [hRs]; omega) (fun pl hpl => ?_)
  refine g_dup Z dX6_init_28 rfl ?_
  refine g_ci Z (f_X3_init F.l F.D F.cy F.nw _ pl (in_new (κ := 3)) K_new (congrFun (va_up_self _ _ _) 1) (va_up (fun a => if a ∈ (T1.newO sp 2).L then (17 : Nat) else 8) pl 17)) 0 gX6_init_X3_init rfl (by decide +kernel) (by decide +kernel) (by decide +kernel) rfl (by decide +kernel) (by rw [hRf, hRl]; decide) rfl rfl (Nat.le_of_ble_eq_true rfl) dX6_init_29 (by rw [hRc, hRs]; omega) (fun T4 hp => ?_)
  obtain ⟨hN2, la, so3, it3, C3, O4, hO4, hlaS, la1, la2, la3, la4, la5, la6, la7, hFSc⟩ := hp
  refine g_nw Z (fun hn4 => ?_)
  obtain ⟨c1, c2, c3, c4, c5, c6, c7, c8, c9⟩ := ini_obj (i := 2) (v := some pl) hpl b6 b7 hN2
  obtain ⟨np1, np2, -, -⟩ := hN2 pl (in_new (κ := 3))
  have cp0 : PN T4 pl la so3 := ⟨np1, np2.trans K_new, la5, la1, la2, la3, la7, la6⟩
  have cp := Rl5.pn c2 cp0
  obtain ⟨cl1, cl2, cl3, -⟩ := c1 sa bl1
  have hla : la ≠ sa := fun e => hlaS (by rw [e]; exact List.mem_append_left _ bl1)
  have hO4b : ∀ a ∈ T3.L, O4 a = (fun a => if a ∈ (T1.newO sp 2).L then (17 : Nat) else 8) a := fun a ha => (hO4 a (List.mem_append_left _ ha)).trans (va_up_ne _ _ (ne_mem hpl ha))
  have hO4p : O4 pl = 17 := (hO4 pl (in_new (κ := 3))).trans (va_up_self _ _ _)
  refine g_putFr Z 5 2 rfl (by decide) tyX6 tyX6_ok nmX6 rfl in5 lk23 dX6_init_32 hnm rfl rfl rfl (by exact c8) (by exact c9) ?_
  obtain ⟨T5, hT5⟩ : ∃ T5, T5 = T4.setR x 2 (some pl) := ⟨_, rfl⟩
  have hn5 : F.nw ∉ T5.L := by rw [hT5]; exact hn4
  rw [← hT5] at c1 c2 c3 c4 c5 c6 c7 cp cl1 cl2 cl3
  have hFSd := hFSb.rl c1 (by decide) (by decide) (by decide) (by decide) hO4b hn5
  have hFSe := hFSc.rl c2 (by decide) (by decide) (by decide) (by decide) (fun _ _ => rfl) hn5
  have o5x : O4 x = 17 := (hO4b x b6).trans (o3 x a1)
  have o5s : O4 sa = 17 := (hO4b sa bl1).trans (o3 sa a4)
  rw [← hT5]
  refine g_aload_n Z dX6_init_35 rfl ?_
  refine g_new Z 0 rfl (by decide) tyX0 tyX0_ok in0 fs0 (by decide +kernel) (by decide +kernel) (by decide +kernel) dX6_init_36 (by rw [hRc]; omega) (by rw [hRs]; omega) (fun br hbr => ?_)
  refine g_dup Z dX6_init_39 rfl ?_
  refine g_ciN Z (c_X0_init F.l F.D F.cy F.nw _ br (in_new (κ := 0)) K_new) 0 gX6_init_X0_init_n29 rfl (by decide +kernel) Z.2.2.2.2.2.2.2.2.2.1.1.2.2.1 (by decide +kernel) rfl (by decide +kernel) (by rw [hRf, hRl]; decide) rfl rfl (Nat.le_of_ble_eq_true rfl) dX6_init_40 (by rw [hRc, hRs]; omega) (fun T6 hp => ?_)
  obtain ⟨h, hh, hT6⟩ := hp
  refine g_nw Z (fun hn6 => ?_)
  have hN3 : Nx (fun a => a = br) (T5.newO br 0) T6 := by rw [hT6]; exact (Nx.rf.newA hh).setR (Or.inl rfl)
  obtain ⟨e1, e2, e3, e4, e5, e6, e7, e8, e9⟩ := ini_obj (i := 3) (v := some br) hbr c6 c7 hN3
  have hb0 : BytesAt T6 br h 1024 0 := by rw [hT6]; exact by_new hh
  have eb := e2.bytes (by decide) (by decide) hb0
  obtain ⟨el1, el2, el3, -⟩ := e1 sa cl1
  have ep := Rl5.pn e1 cp
  have hbh : br ≠ h := ne_mem hh (in_new (κ := 0))
  have hO7 : ∀ a ∈ T5.L, va_up (va_up O4 br 17) h 17 a = O4 a := fun a ha => (va_up_ne _ _ (ne_mem hh (List.mem_append_left _ ha))).trans (va_up_ne _ _ (ne_mem hbr ha))
  refine g_putFr Z 5 3 rfl (by decide) tyX6 tyX6_ok nmX6 rfl in5 lk30 dX6_init_43 hnm rfl rfl rfl (by exact e8) (by exact e9) ?_
  obtain ⟨T7, hT7⟩ : ∃ T7, T7 = T6.setR x 3 (some br) := ⟨_, rfl⟩
  have hn7 : F.nw ∉ T7.L := by rw [hT7]; exact hn6
  rw [← hT7] at e1 e2 e3 e4 e5 e6 e7 eb ep el1 el2 el3
  have hFSf := hFSd.rl e1 (by decide) (by decide) (by decide) (by decide) hO7 hn7
  have hFSg := hFSe.rl e1 (by decide) (by decide) (by decide) (by decide) hO7 hn7
  rw [← hT7]
  refine g_aload_n Z dX6_init_46 rfl ?_
  refine g_new Z 4 rfl (by decide) tyX4 tyX4_ok in4 fs4 (by decide +kernel) (by decide +kernel) (by decide +kernel) dX6_init_47 (by rw [hRc]; omega) (by rw [hRs]; omega) (fun rd hrd => ?_)
  refine g_dup Z dX6_init_50 rfl ?_
  refine g_ciN Z (c_X4_init F.l F.D F.cy F.nw _ rd (in_new (κ := 4)) K_new) 0 gX6_init_X4_init_n36 rfl (by decide +kernel) Z.2.2.2.2.2.2.2.2.2.1.1.2.2.2.1 (by decide +kernel) rfl (by decide +kernel) (by rw [hRf, hRl]; decide) rfl rfl (Nat.le_of_ble_eq_true rfl) dX6_init_51 (by rw [hRc, hRs]; omega) (fun T8 hp => ?_)
  obtain ⟨rk, rt, hk, ht, hT8⟩ := hp
  refine g_nw Z (fun hn8 => ?_)
  have hN4 : Nx (fun a => a = rd) (T7.newO rd 4) T8 := by rw [hT8]; exact (((Nx.rf (X := fun a => a = rd).newA hk).setR (X := fun a => a = rd) (Or.inl rfl)).newA ht).setR (Or.inl rfl)
  obtain ⟨f1, f2, f3, f4, f5, f6, f7, f8, f9⟩ := ini_obj (i := 4) (v := some rd) hrd e6 e7 hN4
  have hr0 : RdC T8 rd rk rt := by rw [hT8]; obtain ⟨r1, r2, r3, r4, r5, r6, r7, r8, r9, r10, r11, -⟩ := rd_new hk ht; exact ⟨r1, r2, r3, r4, r5, r6, r7, r8, r9, r10, r11⟩
  have hrf : T8.fi rd 0 = nI 0 := by rw [hT8]; show va_up T7.fi rd (fun _ => 0) rd 0 = nI 0; rw [va_up_self]; rfl
  have fr := Rl5.rdc f2 hr0
  have frf := (congrFun (f2.ag hr0.1 (by rw [hr0.2.1]; decide)).2.1 0).trans hrf
  obtain ⟨fl1, fl2, fl3, -⟩ := f1 sa el1
  have fp := Rl5.pn f1 ep
  have fb := f1.bytes (by decide) (by decide) eb
  have hrk : rd ≠ rk := ne_mem hk (in_new (κ := 4))
  have hrt : rd ≠ rt := ne_mem ht (List.mem_append_left _ (in_new (κ := 4)))
  have hkt := hr0.2.2.2.2.2.2.2.2.2.2
  have hO9 : ∀ a ∈ T7.L, va_up (va_up (va_up (va_up (va_up O4 br 17) h 17) rd 17) rk 17) rt 17 a = va_up (va_up O4 br 17) h 17 a := fun a ha => (va_up_ne _ _ (ne_mem ht (List.mem_append_left _ (List.mem_append_left _ ha)))).trans ((va_up_ne _ _ (ne_mem hk (List.mem_append_left _ ha))).trans (va_up_ne _ _ (ne_mem hrd ha)))
  refine g_putFr Z 5 4 rfl (by decide) tyX6 tyX6_ok nmX6 rfl in5 lk37 dX6_init_54 hnm rfl rfl rfl (by exact f8) (by exact f9) ?_
  obtain ⟨T9, hT9⟩ : ∃ T9, T9 = T8.setR x 4 (some rd) := ⟨_, rfl⟩
  have hn9 : F.nw ∉ T9.L := by rw [hT9]; exact hn8
  rw [← hT9] at f1 f2 f3 f4 f5 f6 f7 fr frf fp fb fl1 fl2 fl3
  have hFSh := hFSf.rl f1 (by decide) (by decide) (by decide) (by decide) hO9 hn9
  have hFSi := hFSg.rl f1 (by decide) (by decide) (by decide) (by decide) hO9 hn9
  rw [← hT9]
  refine g_aload_n Z dX6_init_57 rfl ?_
  refine g_sipush (v := 300) Z dX6_init_58 (by decide) ?_
  refine g_puti Z 5 5 rfl (by decide) tyX6 tyX6_ok nmX6 rfl in5 lk41 dX6_init_61 rfl rfl (by exact f6) (by exact f7) ?_
  have gR : Rl (fun κ => κ = 5) T9 (T9.setI x 5 300) := Rl.rf.setI f7
  have hn10 : F.nw ∉ (T9.setI x 5 300).L := hn9
  have hFSj := hFSh.rl gR (by decide) (by decide) (by decide) (by decide) (fun _ _ => rfl) hn10
  have hFSk := hFSi.rl gR (by decide) (by decide) (by decide) (by decide) (fun _ _ => rfl) hn10
  obtain ⟨gp1, gp2, gp3, gp4, gp5, gp6, gp7, gp8⟩ := Rl5.pn gR fp
  have gb := gR.bytes (by decide) (by decide) fb
  have gr := Rl5.rdc gR fr
  have grf := (congrFun (gR.ag fr.1 (by rw [fr.2.1]; decide)).2.1 0).trans frf
  have o9 : ∀ a ∈ T5.L, O4 a = 17 → va_up (va_up (va_up (va_up (va_up O4 br 17) h 17) rd 17) rk 17) rt 17 a = 17 := fun a ha e => (hO9 a (e1 a ha).1).trans ((hO7 a ha).trans e)
  have obr : va_up (va_up (va_up (va_up (va_up O4 br 17) h 17) rd 17) rk 17) rt 17 br = 17 := (hO9 br eb.1).trans ((va_up_ne _ _ hbh).trans (va_up_self _ _ _))
  have oh : va_up (va_up (va_up (va_up (va_up O4 br 17) h 17) rd 17) rk 17) rt 17 h = 17 := (hO9 h eb.2.2.2.1).trans (va_up_self _ _ _)
  have ord : va_up (va_up (va_up (va_up (va_up O4 br 17) h 17) rd 17) rk 17) rt 17 rd = 17 := (va_up_ne _ _ hrt).trans ((va_up_ne _ _ hrk).trans (va_up_self _ _ _))
  have ork : va_up (va_up (va_up (va_up (va_up O4 br 17) h 17) rd 17) rk 17) rt 17 rk = 17 := (va_up_ne _ _ hkt).trans (va_up_self _ _ _)
  have hFI0 : FI (T9.setI x 5 300) F.nw x sa pl la br h rd rk rt 0 (fun _ => 0) (fun _ => 0) (fun _ => sp) (fun _ => its) so3 it3 (fun _ _ => 0) (fun _ => Cs) C3 (va_up (va_up (va_up (va_up (va_up O4 br 17) h 17) rd 17) rk 17) rt 17) := ⟨⟨f6, f7, o9 x c6 o5x, (f3 0 (by decide)).trans ((e3 0 (by decide)).trans ((c3 0 (by decide)).trans ((b3 0 (by decide)).trans a3))), (f3 1 (by decide)).trans ((e3 1 (by decide)).trans ((c3 1 (by decide)).trans b4)), (f3 2 (by decide)).trans ((e3 2 (by decide)).trans c4), (f3 3 (by decide)).trans e4, f4, up2_self _ _ _ _⟩, ⟨fl1, fl2.trans (el2.trans (cl2.trans (bl2.trans a5))), fl3.trans (el3.trans (cl3.trans (bl3.trans a6))), o9 sa cl1 o5s, fun i hi => absurd hi (Nat.not_lt_zero _)⟩, ⟨gp1, gp2, gp3, gp4, gp5, gp6, gp7, gp8, o9 pl cp.1 hO4p, o9 la cp.2.2.2.1 la4⟩, ⟨gb, obr, oh⟩, ⟨gr, ord, ork, va_up_self _ _ _, grf⟩, hla, ⟨fun i hi => absurd hi (Nat.not_lt_zero _), fun i j hi => absurd hi (Nat.not_lt_zero _)⟩, hFSj, hFSk⟩
  refine g_iconst (v := 0) Z dX6_init_64 (by decide) ?_
  refine g_istore_n Z dX6_init_65 (by decide) ?_
  exact g_widen (by omega) (by omega) (g_lv (by (repeat (first | exact trivial | refine And.intro rfl ?_)); done) (loop 10 0 _ _ _ _ _ _ _ _ _ _ _ _ _ _ _ _ _ _ _ (by omega) ⟨hFI0, by omega⟩))
