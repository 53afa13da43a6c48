/-! KEYS AND TOTALS: the reader's numbers and its two rows -/
theorem g_st {F : Fx} {nL : Nat} {S S2 : PS} {kc ks : Nat} {Q : State → Prop} {pc : Nat} {lv : List (Nat × Value)} {st : List Value} (h : S = S2) (k : G F nL S2 kc ks Q pc lv st) : G F nL S kc ks Q pc lv st := by
  rw [h]
  exact k
abbrev H9 (S : PS) (rd rk rt : Nat) (v K U : Nat → Int32) : PS := (S.L, S.K, va_up S.fi rd v, S.fr, S.ln, va_up (va_up S.ri rk K) rt U, S.rj, S.rr)
theorem H9_id (S : PS) (rd rk rt p : Nat) (h : S.fi rd 2 = nI p) : S = H9 S rd rk rt (va_up (S.fi rd) 2 (nI p)) (S.ri rk) (S.ri rt) := by
  show S = (S.L, S.K, va_up S.fi rd (va_up (S.fi rd) 2 (nI p)), S.fr, S.ln, va_up (va_up S.ri rk (S.ri rk)) rt (S.ri rt), S.rj, S.rr)
  rw [← h, va_up_get, va_up_get, va_up_get, va_up_get]
theorem H9_fi (S : PS) (rd rk rt : Nat) (v K U : Nat → Int32) : PS.fi (H9 S rd rk rt v K U) rd = v := va_up_self _ _ _
theorem H9_2 {S : PS} {rd rk rt : Nat} {v K U : Nat → Int32} {z : Int32} : PS.fi (H9 S rd rk rt (va_up v 2 z) K U) rd 2 = z := (congrFun (H9_fi S rd rk rt _ K U) 2).trans (va_up_self _ _ _)
theorem H9_o {S : PS} {rd rk rt : Nat} {v K U : Nat → Int32} {z : Int32} {i : Nat} (h : i ≠ 2) : PS.fi (H9 S rd rk rt (va_up v 2 z) K U) rd i = v i := (congrFun (H9_fi S rd rk rt _ K U) i).trans (va_up_ne _ _ h)
theorem H9_set {S : PS} {rd rk rt i : Nat} {v K U : Nat → Int32} {z : Int32} : (H9 S rd rk rt v K U).setI rd i z = H9 S rd rk rt (va_up v i z) K U := by
  show (_, _, va_up (va_up S.fi rd v) rd (va_up (va_up S.fi rd v rd) i z), _, _, _, _, _) = _
  rw [bx_uu, va_up_self]
theorem H9_rk {S : PS} {rd rk rt : Nat} {v K U : Nat → Int32} (h : rk ≠ rt) : PS.ri (H9 S rd rk rt v K U) rk = K := (va_up_ne _ _ h).trans (va_up_self _ _ _)
theorem H9_rt {S : PS} {rd rk rt : Nat} {v K U : Nat → Int32} : PS.ri (H9 S rd rk rt v K U) rt = U := va_up_self _ _ _
theorem H9_k {S : PS} {rd rk rt : Nat} {v K U K2 : Nat → Int32} (h : rk ≠ rt) : (H9 S rd rk rt v K U).rowI rk K2 = H9 S rd rk rt v K2 U := by
  show (_, _, _, _, _, va_up (va_up (va_up S.ri rk K) rt U) rk K2, _, _) = _
  rw [up_comm _ (Ne.symm h), bx_uu]
theorem H9_t {S : PS} {rd rk rt : Nat} {v K U U2 : Nat → Int32} : (H9 S rd rk rt v K U).rowI rt U2 = H9 S rd rk rt v K U2 := by
  show (_, _, _, _, _, va_up (va_up (va_up S.ri rk K) rt U) rt U2, _, _) = _
  rw [bx_uu]
theorem H9_by {S : PS} {rd rk rt : Nat} {v K U : Nat → Int32} {br h n u : Nat} {B : Nat → Nat} (hr : br ≠ rd) (hk : h ≠ rk) (ht : h ≠ rt) (hb : ByV S br h n u B) : ByV (H9 S rd rk rt v K U) br h n u B := by
  obtain ⟨⟨k1, k2, k3, k4, k5, k6, k7, k8, k9, k10⟩, hB⟩ := hb
  have e : PS.ri (H9 S rd rk rt v K U) h = S.ri h := (va_up_ne _ _ ht).trans (va_up_ne _ _ hk)
  exact ⟨⟨k1, k2, k3, k4, k5, k6, k7, (congrFun (show PS.fi (H9 S rd rk rt v K U) br = S.fi br from va_up_ne _ _ hr) 1).trans k8, k9, by rw [e]; exact k10⟩, fun i hi => by rw [e]; exact hB i hi⟩
/-- the reader's cells -/
def RdC (S : PS) (rd rk rt : Nat) : Prop := rd ∈ S.L ∧ S.K rd = 4 ∧ S.fr rd 8 = some rk ∧ rk ∈ S.L ∧ S.K rk = 8 ∧ S.ln rk = 6 ∧ S.fr rd 9 = some rt ∧ rt ∈ S.L ∧ S.K rt = 8 ∧ S.ln rt = 6 ∧ rk ≠ rt
def kyR (B : Nat → Nat) (p i : Nat) : Nat := nuB B (p + 4 * i) 2
def toR (B : Nat → Nat) (p i : Nat) : Nat := nuB B (p + 4 * i + 2) 2 + 1
def rdHs (B : Nat → Nat) (e p : Nat) : Nat → Nat → Option (Nat × Nat)
  | 0, _ => none
  | m + 1, i => if p + 4 * i + 2 ≤ e then (if 0 < i ∧ kyR B p i ≤ kyR B p (i - 1) then some (5, p + 4 * i) else if p + 4 * i + 4 ≤ e then rdHs B e p m (i + 1) else some (1, e)) else some (1, e)
theorem rdHs_1 {B : Nat → Nat} {e p m i : Nat} (h : ¬ p + 4 * i + 2 ≤ e) : rdHs B e p (m + 1) i = some (1, e) := if_neg h
theorem rdHs_2 {B : Nat → Nat} {e p m i : Nat} (h : p + 4 * i + 2 ≤ e) (g : 0 < i ∧ kyR B p i ≤ kyR B p (i - 1)) : rdHs B e p (m + 1) i = some (5, p + 4 * i) := (if_pos h).trans (if_pos g)
theorem rdHs_3 {B : Nat → Nat} {e p m i : Nat} (h : p + 4 * i + 2 ≤ e) (g : ¬ (0 < i ∧ kyR B p i ≤ kyR B p (i - 1))) (q : ¬ p + 4 * i + 4 ≤ e) : rdHs B e p (m + 1) i = some (1, e) := (if_pos h).trans ((if_neg g).trans (if_neg q))
theorem rdHs_4 {B : Nat → Nat} {e p m i : Nat} (h : p + 4 * i + 2 ≤ e) (g : ¬ (0 < i ∧ kyR B p i ≤ kyR B p (i - 1))) (q : p + 4 * i + 4 ≤ e) : rdHs B e p (m + 1) i = rdHs B e p m (i + 1) := (if_pos h).trans ((if_neg g).trans (if_pos q))
def HeP (S : PS) (rd rk rt : Nat) (B : Nat → Nat) (p k : Nat) (o : Option (Nat × Nat)) (r : Int32) (T : PS) : Prop := match o with
  | none => r = 1 ∧ ∃ K U, T = H9 S rd rk rt (va_up (S.fi rd) 2 (nI (p + 4 * k))) K U ∧ ∀ j, j < k → K j = nI (kyR B p j) ∧ U j = nI (toR B p j)
  | some (f, g) => r = 0 ∧ ∃ v K U, T = H9 S rd rk rt v K U ∧ v 0 = nI f ∧ v 1 = nI g
theorem HeP.f {S : PS} {rd rk rt : Nat} {B : Nat → Nat} {p k f g : Nat} {T : PS} {v K U : Nat → Int32} (h : T = H9 S rd rk rt v K U) (h0 : v 0 = nI f) (h1 : v 1 = nI g) : HeP S rd rk rt B p k (some (f, g)) 0 T := ⟨rfl, v, K, U, h, h0, h1⟩
theorem HeP.f2 {S : PS} {rd rk rt : Nat} {B : Nat → Nat} {p k f g : Nat} {v K U : Nat → Int32} : HeP S rd rk rt B p k (some (f, g)) 0 (((H9 S rd rk rt v K U).setI rd 0 (nI f)).setI rd 1 (nI g)) := HeP.f (v := va_up (va_up v 0 (nI f)) 1 (nI g)) (K := K) (U := U) (by rw [H9_set, H9_set]) ((va_up_ne _ _ (by decide)).trans (va_up_self _ _ _)) (va_up_self _ _ _)
theorem HeP.r {S : PS} {rd rk rt : Nat} {B : Nat → Nat} {p k : Nat} {o : Option (Nat × Nat)} {r : Int32} {T : PS} (h : HeP S rd rk rt B p k o r T) : r = 0 ∨ r = 1 := by
  rcases o with _ | ⟨f, g⟩
  · exact Or.inr h.1
  · exact Or.inl h.1

set_option maxRecDepth 100000 in
set_option maxHeartbeats 2000000 in
/-- keys and totals are read -/
theorem f_X4_takeHeads (l : Launch) (D : va_G) (cy : Nat → ClassId) (nw : Nat) (S : PS) (rd rk rt e : Nat) (hr : RdC S rd rk rt) (hre : S.fi rd 3 = nI e) (he6 : e ≤ 60000) (br h n u : Nat) (B : Nat → Nat) (hb : ByV S br h n u B) (heu : e ≤ u) (hhk : h ≠ rk) (hht : h ≠ rt) (p : Nat) (hrp : S.fi rd 2 = nI p) (hpe : p ≤ e) (k : Nat) (hk : k ≤ 6) (hn : S.fi rd 4 = nI k) : kI l yX4_takeHeads wsX4_takeHeads 3 70 D cy nw [.ref rd, .ref br] S (fun r T => HeP S rd rk rt B p k (rdHs B e p k 0) r T) 0 0 := by
  refine enterI (cc := cX4_takeHeads) (nL := 3) (ret := (some .boolean)) (by decide +kernel) rfl (Nat.le_of_ble_eq_true rfl) ?_
  intro F Z hl hR hD hcy hnw hnm
  subst hl hD hcy hnw
  have hRf : F.R.frames = 3 := by rw [hR]
  have hRc : F.R.cells = 0 := by rw [hR]
  have hRs : F.R.slots = 0 := by rw [hR]
  have hRl : F.R.locals = 70 := by rw [hR]
  have in4 : ∀ w ∈ u_ws RX4 TX4 10, w ∈ wsX4_takeHeads := by decide +kernel
  have lk9 : Cond.fieldLink RX4 9 (TX4 8).1 (TX4 8).2.1 (TX4 8).2.2.1 ∈ wsX4_takeHeads := by decide +kernel
  have lk15 : Cond.fieldLink RX4 15 (TX4 9).1 (TX4 9).2.1 (TX4 9).2.2.1 ∈ wsX4_takeHeads := by decide +kernel
  have lk25 : Cond.fieldLink RX4 25 (TX4 2).1 (TX4 2).2.1 (TX4 2).2.2.1 ∈ wsX4_takeHeads := by decide +kernel
  have lk36 : Cond.fieldLink RX4 36 (TX4 4).1 (TX4 4).2.1 (TX4 4).2.2.1 ∈ wsX4_takeHeads := by decide +kernel
  obtain ⟨hrL, hrK, hrk, hkL, hkK, hkl, hrt, htL, htK, htl, hkt⟩ := id hr
  have hbr : br ≠ rd := fun q => by have := hb.1.2.1; rw [q, hrK] at this; exact absurd this (by decide)
  have loop : ∀ (m i : Nat) (K U : Nat → Int32), 8 - i < m → (i ≤ k ∧ p + 4 * i ≤ e ∧ ∀ j, j < i → K j = nI (kyR B p j) ∧ U j = nI (toR B p j)) → G F 3 (H9 S rd rk rt (va_up (S.fi rd) 2 (nI (p + 4 * i))) K U) 0 0 (QI F (fun r T => HeP S rd rk rt B p k (rdHs B e p (k - i) i) r T) 0 0) 2 [(0, .ref rd), (1, .ref br), (2, .int (nI i))] [] := by
    intro m
    induction m with
    | zero => intros; omega
    | succ m ih =>
      intro i K U hm ⟨hik, hpi, hKU⟩
      refine g_iload_n Z dX4_takeHeads_2 rfl ?_
      refine g_aload_n Z dX4_takeHeads_3 rfl ?_
      refine g_geti Z 4 4 rfl (by decide) in4 lk36 dX4_takeHeads_4 (by exact hrL) (by exact hrK) ?_
      rw [show PS.fi (H9 S rd rk rt (va_up (S.fi rd) 2 (nI (p + 4 * i))) K U) rd 4 = nI k from (H9_o (by decide)).trans hn]
      refine g_icmp_ge Z 97 dX4_takeHeads_7 (by decide) (fun h7 => ?_) (fun h7 => ?_)
      · have hz : i = k := by have := ge_t (i := i) (N := k) (by omega) (by omega) h7; omega
        subst hz
        rw [show i - i = 0 by omega]
        refine g_iconst (v := 1) Z dX4_takeHeads_97 (by decide) ?_
        exact g_zret Z dX4_takeHeads_98 (by rfl) (by omega) (by omega) (⟨rfl, K, U, rfl, hKU⟩)
      · have hlt : i < k := ge_f (by omega) (by omega) h7
        obtain ⟨m2, hm2⟩ : ∃ m2, k - i = m2 + 1 := ⟨k - i - 1, by omega⟩
        have hm3 : k - (i + 1) = m2 := by omega
        have hcl : (nI i).toNatClampNeg = i := nI_clamp (by omega)
        rw [hm2]
        refine g_aload_n Z dX4_takeHeads_10 rfl ?_
        refine g_iconst (v := 2) Z dX4_takeHeads_11 (by decide) ?_
        refine g_cvI Z (f_X4_isThere F.l F.D F.cy F.nw (H9 S rd rk rt (va_up (S.fi rd) 2 (nI (p + 4 * i))) K U) rd (p + 4 * i) e hrL hrK H9_2 ((H9_o (by decide)).trans hre) (by omega) he6 2 (by decide)) 1 gX4_takeHeads_X4_isThere rfl (by decide +kernel) (by rw [hRf, hRl]; decide) (by exact hrL) (κ := 4) (by exact hrK) rfl (by decide) rfl rfl (Nat.le_of_ble_eq_true rfl) dX4_takeHeads_12 (by rw [hRc, hRs]; omega) (fun r1 T1 hp => ?_)
        have hpT := hp
        refine g_if_ne Z 20 dX4_takeHeads_15 (by decide) (fun h15 => ?_) (fun h15 => ?_)
        · obtain ⟨hpa, -, rfl⟩ : (p + 4 * i) + 2 ≤ e ∧ r1 = 1 ∧ T1 = (H9 S rd rk rt (va_up (S.fi rd) 2 (nI (p + 4 * i))) K U) := by
            rcases hpT with hh | hh
            · exact hh
            · exact absurd hh.2.1 h15
          have hky : kyR B p i < 65536 := nu2 (fun q hq => (hb.2 _ (by omega)).1)
          refine g_aload_n Z dX4_takeHeads_20 rfl ?_
          refine g_getr Z 4 8 rfl (by decide) in4 lk9 dX4_takeHeads_21 (by exact hrL) (by exact hrK) (by exact hrk) ?_
          refine g_iload_n Z dX4_takeHeads_24 rfl ?_
          refine g_aload_n Z dX4_takeHeads_25 rfl ?_
          refine g_aload_n Z dX4_takeHeads_26 rfl ?_
          refine g_iconst (v := 2) Z dX4_takeHeads_27 (by decide) ?_
          refine g_cvL Z (f_X4_take F.l F.D F.cy F.nw (H9 S rd rk rt (va_up (S.fi rd) 2 (nI (p + 4 * i))) K U) rd (p + 4 * i) hrL hrK H9_2 br h n u B (H9_by hbr hhk hht hb) 2 (by decide) (by omega)) 2 gX4_takeHeads_X4_take rfl (by decide +kernel) (by rw [hRf, hRl]; decide) (by exact hrL) (κ := 4) (by exact hrK) rfl (by decide) rfl rfl (Nat.le_of_ble_eq_true rfl) dX4_takeHeads_28 (by rw [hRc, hRs]; omega) (fun r2 T2 hq2 => ?_)
          obtain ⟨rfl, rfl⟩ := hq2
          rw [H9_set, bx_uu]
          refine g_l2i Z dX4_takeHeads_31 ?_
          rw [lN_i, show nuB B (p + 4 * i) 2 = kyR B p i from rfl]
          refine g_iast Z dX4_takeHeads_32 (by exact hkL) (by exact hkK) (by exact vin_of hkl (by omega) (by decide)) ?_
          rw [H9_rk hkt, hcl, H9_k hkt]
          refine g_iload_n Z dX4_takeHeads_33 rfl ?_
          refine g_if_le Z 66 dX4_takeHeads_34 (by decide) (fun h34 => ?_) (fun h34 => ?_)
          · have hok : ¬ (0 < i ∧ kyR B p i ≤ kyR B p (i - 1)) := fun q => by have := le_t (i := i) (N := 0) (by omega) (by decide) h34; omega
            refine g_aload_n Z dX4_takeHeads_66 rfl ?_
            refine g_iconst (v := 2) Z dX4_takeHeads_67 (by decide) ?_
            refine g_cvI Z (f_X4_isThere F.l F.D F.cy F.nw (H9 S rd rk rt (va_up (S.fi rd) 2 (nI (p + 4 * i + 2))) (upd K i (nI (kyR B p i))) U) rd (p + 4 * i + 2) e hrL hrK H9_2 ((H9_o (by decide)).trans hre) (by omega) he6 2 (by decide)) 1 gX4_takeHeads_X4_isThere rfl (by decide +kernel) (by rw [hRf, hRl]; decide) (by exact hrL) (κ := 4) (by exact hrK) rfl (by decide) rfl rfl (Nat.le_of_ble_eq_true rfl) dX4_takeHeads_68 (by rw [hRc, hRs]; omega) (fun r1 T1 hp => ?_)
            have hpT := hp
            refine g_if_ne Z 76 dX4_takeHeads_71 (by decide) (fun h71 => ?_) (fun h71 => ?_)
            · obtain ⟨hpb, -, rfl⟩ : (p + 4 * i + 2) + 2 ≤ e ∧ r1 = 1 ∧ T1 = (H9 S rd rk rt (va_up (S.fi rd) 2 (nI (p + 4 * i + 2))) (upd K i (nI (kyR B p i))) U) := by
                rcases hpT with hh | hh
                · exact hh
                · exact absurd hh.2.1 h71
              refine g_aload_n Z dX4_takeHeads_76 rfl ?_
              refine g_getr Z 4 9 rfl (by decide) in4 lk15 dX4_takeHeads_77 (by exact hrL) (by exact hrK) (by exact hrt) ?_
              refine g_iload_n Z dX4_takeHeads_80 rfl ?_
              refine g_aload_n Z dX4_takeHeads_81 rfl ?_
              refine g_aload_n Z dX4_takeHeads_82 rfl ?_
              refine g_iconst (v := 2) Z dX4_takeHeads_83 (by decide) ?_
              refine g_cvL Z (f_X4_take F.l F.D F.cy F.nw (H9 S rd rk rt (va_up (S.fi rd) 2 (nI (p + 4 * i + 2))) (upd K i (nI (kyR B p i))) U) rd (p + 4 * i + 2) hrL hrK H9_2 br h n u B (H9_by hbr hhk hht hb) 2 (by decide) (by omega)) 2 gX4_takeHeads_X4_take rfl (by decide +kernel) (by rw [hRf, hRl]; decide) (by exact hrL) (κ := 4) (by exact hrK) rfl (by decide) rfl rfl (Nat.le_of_ble_eq_true rfl) dX4_takeHeads_84 (by rw [hRc, hRs]; omega) (fun r2 T2 hq2 => ?_)
              obtain ⟨rfl, rfl⟩ := hq2
              rw [H9_set, bx_uu]
              refine g_l2i Z dX4_takeHeads_87 ?_
              rw [lN_i]
              refine g_iconst (v := 1) Z dX4_takeHeads_88 (by decide) ?_
              refine g_iadd Z dX4_takeHeads_89 ?_
              rw [nI_1, show nuB B (p + 4 * i + 2) 2 + 1 = toR B p i from rfl]
              refine g_iast Z dX4_takeHeads_90 (by exact htL) (by exact htK) (by exact vin_of htl (by omega) (by decide)) ?_
              rw [H9_rt, hcl, H9_t]
              refine g_iinc (c := 1) Z dX4_takeHeads_91 rfl (by decide) (by decide) ?_
              rw [nI_1]
              refine g_goto Z 2 dX4_takeHeads_94 (by decide) ?_
              have hih := ih (i + 1) (upd K i (nI (kyR B p i))) (upd U i (nI (toR B p i))) (by omega) ⟨by omega, by omega, fun j hj => by
                by_cases e : j = i
                · subst e; exact ⟨pk_us, pk_us⟩
                · rw [pk_un e, pk_un e]; exact hKU j (by omega)⟩
              rw [hm3, ← rdHs_4 (m := m2) hpa hok (by omega), show p + 4 * (i + 1) = p + 4 * i + 2 + 2 by omega] at hih
              exact g_lv (by (repeat (first | exact trivial | refine And.intro rfl ?_)); done) hih
            · obtain ⟨hpb, -, rfl⟩ : ¬ (p + 4 * i + 2) + 2 ≤ e ∧ r1 = 0 ∧ T1 = ((H9 S rd rk rt (va_up (S.fi rd) 2 (nI (p + 4 * i + 2))) (upd K i (nI (kyR B p i))) U).setI rd 0 1).setI rd 1 (nI e) := by
                rcases hpT with hh | hh
                · rw [hh.2.1] at h71; exact absurd h71 (by decide)
                · exact hh
              refine g_iconst (v := 0) Z dX4_takeHeads_74 (by decide) ?_
              exact g_zret Z dX4_takeHeads_75 (by rfl) (by omega) (by omega) (by rw [rdHs_3 hpa hok (show ¬ p + 4 * i + 4 ≤ e by omega)]; exact HeP.f2)
          · have hi0 : 0 < i := by have := le_f (i := i) (N := 0) (by omega) (by decide) h34; omega
            have hky1 : kyR B p (i - 1) < 65536 := nu2 (fun q hq => (hb.2 _ (by omega)).1)
            have hcl1 : (nI (i - 1)).toNatClampNeg = i - 1 := nI_clamp (by omega)
            refine g_aload_n Z dX4_takeHeads_37 rfl ?_
            refine g_getr Z 4 8 rfl (by decide) in4 lk9 dX4_takeHeads_38 (by exact hrL) (by exact hrK) (by exact hrk) ?_
            refine g_iload_n Z dX4_takeHeads_41 rfl ?_
            refine g_iald Z dX4_takeHeads_42 (by exact hkL) (by exact hkK) (by exact vin_of hkl (by omega) (by decide)) ?_
            rw [H9_rk hkt, hcl, pk_us]
            refine g_aload_n Z dX4_takeHeads_43 rfl ?_
            refine g_getr Z 4 8 rfl (by decide) in4 lk9 dX4_takeHeads_44 (by exact hrL) (by exact hrK) (by exact hrk) ?_
            refine g_iload_n Z dX4_takeHeads_47 rfl ?_
            refine g_iconst (v := 1) Z dX4_takeHeads_48 (by decide) ?_
            refine g_isub Z dX4_takeHeads_49 ?_
            rw [show nI i - 1 = nI (i - 1) from pk_sub (a := i) (b := 1) (by omega)]
            refine g_iald Z dX4_takeHeads_50 (by exact hkL) (by exact hkK) (by exact vin_of hkl (by omega) (by decide)) ?_
            rw [H9_rk hkt, hcl1, pk_un (show i - 1 ≠ i by omega), (hKU (i - 1) (by omega)).1]
            refine g_icmp_gt Z 66 dX4_takeHeads_51 (by decide) (fun h51 => ?_) (fun h51 => ?_)
            · have hok : ¬ (0 < i ∧ kyR B p i ≤ kyR B p (i - 1)) := fun q => by have := (nI_ltI (a := kyR B p (i - 1)) (b := kyR B p i) (by omega) (by omega)).mp h51; omega
              refine g_aload_n Z dX4_takeHeads_66 rfl ?_
              refine g_iconst (v := 2) Z dX4_takeHeads_67 (by decide) ?_
              refine g_cvI Z (f_X4_isThere F.l F.D F.cy F.nw (H9 S rd rk rt (va_up (S.fi rd) 2 (nI (p + 4 * i + 2))) (upd K i (nI (kyR B p i))) U) rd (p + 4 * i + 2) e hrL hrK H9_2 ((H9_o (by decide)).trans hre) (by omega) he6 2 (by decide)) 1 gX4_takeHeads_X4_isThere rfl (by decide +kernel) (by rw [hRf, hRl]; decide) (by exact hrL) (κ := 4) (by exact hrK) rfl (by decide) rfl rfl (Nat.le_of_ble_eq_true rfl) dX4_takeHeads_68 (by rw [hRc, hRs]; omega) (fun r1 T1 hp => ?_)
              have hpT := hp
              refine g_if_ne Z 76 dX4_takeHeads_71 (by decide) (fun h71 => ?_) (fun h71 => ?_)
              · obtain ⟨hpb, -, rfl⟩ : (p + 4 * i + 2) + 2 ≤ e ∧ r1 = 1 ∧ T1 = (H9 S rd rk rt (va_up (S.fi rd) 2 (nI (p + 4 * i + 2))) (upd K i (nI (kyR B p i))) U) := by
                  rcases hpT with hh | hh
                  · exact hh
                  · exact absurd hh.2.1 h71
                refine g_aload_n Z dX4_takeHeads_76 rfl ?_
                refine g_getr Z 4 9 rfl (by decide) in4 lk15 dX4_takeHeads_77 (by exact hrL) (by exact hrK) (by exact hrt) ?_
                refine g_iload_n Z dX4_takeHeads_80 rfl ?_
                refine g_aload_n Z dX4_takeHeads_81 rfl ?_
                refine g_aload_n Z dX4_takeHeads_82 rfl ?_
                refine g_iconst (v := 2) Z dX4_takeHeads_83 (by decide) ?_
                refine g_cvL Z (f_X4_take F.l F.D F.cy F.nw (H9 S rd rk rt (va_up (S.fi rd) 2 (nI (p + 4 * i + 2))) (upd K i (nI (kyR B p i))) U) rd (p + 4 * i + 2) hrL hrK H9_2 br h n u B (H9_by hbr hhk hht hb) 2 (by decide) (by omega)) 2 gX4_takeHeads_X4_take rfl (by decide +kernel) (by rw [hRf, hRl]; decide) (by exact hrL) (κ := 4) (by exact hrK) rfl (by decide) rfl rfl (Nat.le_of_ble_eq_true rfl) dX4_takeHeads_84 (by rw [hRc, hRs]; omega) (fun r2 T2 hq2 => ?_)
                obtain ⟨rfl, rfl⟩ := hq2
                rw [H9_set, bx_uu]
                refine g_l2i Z dX4_takeHeads_87 ?_
                rw [lN_i]
                refine g_iconst (v := 1) Z dX4_takeHeads_88 (by decide) ?_
                refine g_iadd Z dX4_takeHeads_89 ?_
                rw [nI_1, show nuB B (p + 4 * i + 2) 2 + 1 = toR B p i from rfl]
                refine g_iast Z dX4_takeHeads_90 (by exact htL) (by exact htK) (by exact vin_of htl (by omega) (by decide)) ?_
                rw [H9_rt, hcl, H9_t]
                refine g_iinc (c := 1) Z dX4_takeHeads_91 rfl (by decide) (by decide) ?_
                rw [nI_1]
                refine g_goto Z 2 dX4_takeHeads_94 (by decide) ?_
                have hih := ih (i + 1) (upd K i (nI (kyR B p i))) (upd U i (nI (toR B p i))) (by omega) ⟨by omega, by omega, fun j hj => by
                  by_cases e : j = i
                  · subst e; exact ⟨pk_us, pk_us⟩
                  · rw [pk_un e, pk_un e]; exact hKU j (by omega)⟩
                rw [hm3, ← rdHs_4 (m := m2) hpa hok (by omega), show p + 4 * (i + 1) = p + 4 * i + 2 + 2 by omega] at hih
                exact g_lv (by (repeat (first | exact trivial | refine And.intro rfl ?_)); done) hih
              · obtain ⟨hpb, -, rfl⟩ : ¬ (p + 4 * i + 2) + 2 ≤ e ∧ r1 = 0 ∧ T1 = ((H9 S rd rk rt (va_up (S.fi rd) 2 (nI (p + 4 * i + 2))) (upd K i (nI (kyR B p i))) U).setI rd 0 1).setI rd 1 (nI e) := by
                  rcases hpT with hh | hh
                  · rw [hh.2.1] at h71; exact absurd h71 (by decide)
                  · exact hh
                refine g_iconst (v := 0) Z dX4_takeHeads_74 (by decide) ?_
                exact g_zret Z dX4_takeHeads_75 (by rfl) (by omega) (by omega) (by rw [rdHs_3 hpa hok (show ¬ p + 4 * i + 4 ≤ e by omega)]; exact HeP.f2)
            · have hbad : 0 < i ∧ kyR B p i ≤ kyR B p (i - 1) := ⟨hi0, Nat.le_of_not_lt (fun q => h51 ((nI_ltI (a := kyR B p (i - 1)) (b := kyR B p i) (by omega) (by omega)).mpr q))⟩
              refine g_aload_n Z dX4_takeHeads_54 rfl ?_
              refine g_iconst (v := 5) Z dX4_takeHeads_55 (by decide) ?_
              refine g_aload_n Z dX4_takeHeads_56 rfl ?_
              refine g_geti Z 4 2 rfl (by decide) in4 lk25 dX4_takeHeads_57 (by exact hrL) (by exact hrK) ?_
              rw [H9_2]
              refine g_iconst (v := 2) Z dX4_takeHeads_60 (by decide) ?_
              refine g_isub Z dX4_takeHeads_61 ?_
              rw [show nI (p + 4 * i + 2) - 2 = nI (p + 4 * i) from (nI_sb (b := 2) (by omega)).trans (congrArg nI (by omega))]
              refine g_cvI Z (f_X4_tellFault F.l F.D F.cy F.nw (H9 S rd rk rt (va_up (S.fi rd) 2 (nI (p + 4 * i + 2))) (upd K i (nI (kyR B p i))) U) rd hrL hrK _ _) 2 gX4_takeHeads_X4_tellFault rfl (by decide +kernel) (by rw [hRf, hRl]; decide) (by exact hrL) (κ := 4) (by exact hrK) rfl (by decide) rfl rfl (Nat.le_of_ble_eq_true rfl) dX4_takeHeads_62 (by rw [hRc, hRs]; omega) (fun r3 T3 hq3 => ?_)
              obtain ⟨rfl, rfl⟩ := hq3
              exact g_zret Z dX4_takeHeads_65 (by rfl) (by omega) (by omega) (by rw [rdHs_2 hpa hbad]; exact HeP.f2)
        · obtain ⟨hpa, -, rfl⟩ : ¬ (p + 4 * i) + 2 ≤ e ∧ r1 = 0 ∧ T1 = ((H9 S rd rk rt (va_up (S.fi rd) 2 (nI (p + 4 * i))) K U).setI rd 0 1).setI rd 1 (nI e) := by
            rcases hpT with hh | hh
            · rw [hh.2.1] at h15; exact absurd h15 (by decide)
            · exact hh
          refine g_iconst (v := 0) Z dX4_takeHeads_18 (by decide) ?_
          exact g_zret Z dX4_takeHeads_19 (by rfl) (by omega) (by omega) (by rw [rdHs_1 hpa]; exact HeP.f2)
  refine g_st (H9_id S rd rk rt p hrp) ?_
  refine g_iconst (v := 0) Z dX4_takeHeads_0 (by decide) ?_
  refine g_istore_n Z dX4_takeHeads_1 (by decide) ?_
  exact g_lv (by (repeat (first | exact trivial | refine And.intro rfl ?_)); done) (loop 9 0 _ _ (by omega) ⟨by omega, by omega, fun j hj => absurd hj (Nat.not_lt_zero _)⟩)

def rdPc (e p k pl : Nat) : (Nat × Nat) ⊕ (Nat × Option Nat) := if pl = 0 ∧ k < 4 then .inr (p, none) else if p + 4 * k ≤ e then .inr (p + 4 * k, some p) else .inl (1, e)
def PcP (S : PS) (rd : Nat) (o : (Nat × Nat) ⊕ (Nat × Option Nat)) (r : Int32) (T : PS) : Prop := match o with
  | .inl (f, g) => r = 0 ∧ T = (S.setI rd 0 (nI f)).setI rd 1 (nI g)
  | .inr (_, none) => r = 1 ∧ T = S
  | .inr (q, some p) => r = 1 ∧ T = (S.setI rd 7 (nI p)).setI rd 2 (nI q)
theorem PcP.r {S : PS} {rd : Nat} {o : (Nat × Nat) ⊕ (Nat × Option Nat)} {r : Int32} {T : PS} (h : PcP S rd o r T) : r = 0 ∨ r = 1 := by
  rcases o with ⟨f, g⟩ | ⟨q, _ | p⟩
  · exact Or.inl h.1
  · exact Or.inr h.1
  · exact Or.inr h.1
theorem pl_z {pl : Nat} (h : pl = 0 ∨ pl = 1) (e : nI pl = 0) : pl = 0 := nI_z (by omega) e

set_option maxRecDepth 100000 in
set_option maxHeartbeats 2000000 in
/-- where the places are told -/
theorem f_X4_takePlaces (l : Launch) (D : va_G) (cy : Nat → ClassId) (nw : Nat) (S : PS) (rd e : Nat) (hrL : rd ∈ S.L) (hrK : S.K rd = 4) (hre : S.fi rd 3 = nI e) (he6 : e ≤ 60000) (p : Nat) (hrp : S.fi rd 2 = nI p) (hpe : p ≤ e) (k : Nat) (hk : k ≤ 6) (hn : S.fi rd 4 = nI k) (pl : Nat) (hpl : pl = 0 ∨ pl = 1) (h5 : S.fi rd 5 = nI pl) : kI l yX4_takePlaces wsX4_takePlaces 2 43 D cy nw [.ref rd] S (fun r T => PcP S rd (rdPc e p k pl) r T) 0 0 := by
  refine enterI (cc := cX4_takePlaces) (nL := 1) (ret := (some .boolean)) (by decide +kernel) rfl (Nat.le_of_ble_eq_true rfl) ?_
  intro F Z hl hR hD hcy hnw hnm
  subst hl hD hcy hnw
  have hRf : F.R.frames = 2 := by rw [hR]
  have hRc : F.R.cells = 0 := by rw [hR]
  have hRs : F.R.slots = 0 := by rw [hR]
  have hRl : F.R.locals = 43 := by rw [hR]
  have in4 : ∀ w ∈ u_ws RX4 TX4 10, w ∈ wsX4_takePlaces := by decide +kernel
  have lk25 : Cond.fieldLink RX4 25 (TX4 2).1 (TX4 2).2.1 (TX4 2).2.2.1 ∈ wsX4_takePlaces := by decide +kernel
  have lk36 : Cond.fieldLink RX4 36 (TX4 4).1 (TX4 4).2.1 (TX4 4).2.2.1 ∈ wsX4_takePlaces := by decide +kernel
  have lk39 : Cond.fieldLink RX4 39 (TX4 5).1 (TX4 5).2.1 (TX4 5).2.2.1 ∈ wsX4_takePlaces := by decide +kernel
  have lk46 : Cond.fieldLink RX4 46 (TX4 7).1 (TX4 7).2.1 (TX4 7).2.2.1 ∈ wsX4_takePlaces := by decide +kernel
  have hrn : (S.setI rd 7 (nI p)).fi rd 2 = nI p := (up2_ne _ _ (Or.inr (by decide))).trans hrp
  have hrn4 : (S.setI rd 7 (nI p)).fi rd 4 = nI k := (up2_ne _ _ (Or.inr (by decide))).trans hn
  refine g_aload_n Z dX4_takePlaces_0 rfl ?_
  refine g_geti Z 4 5 rfl (by decide) in4 lk39 dX4_takePlaces_1 (by assumption) (by assumption) ?_
  rw [h5]
  refine g_if_ne Z 17 dX4_takePlaces_4 (by decide) (fun h4 => ?_) (fun h4 => ?_)
  · have hb1 : ¬ (pl = 0 ∧ k < 4) := fun q => h4 (by rw [q.1]; rfl)
    refine g_aload_n Z dX4_takePlaces_17 rfl ?_
    refine g_iconst (v := 4) Z dX4_takePlaces_18 (by decide) ?_
    refine g_aload_n Z dX4_takePlaces_19 rfl ?_
    refine g_geti Z 4 4 rfl (by decide) in4 lk36 dX4_takePlaces_20 (by assumption) (by assumption) ?_
    rw [hn]
    refine g_imul Z dX4_takePlaces_23 ?_
    rw [show (4 : Int32) * nI k = nI (4 * k) from pk_mul 4 k]
    refine g_cvI Z (f_X4_isThere F.l F.D F.cy F.nw S rd p e hrL hrK hrp hre hpe he6 (4 * k) (by omega)) 1 gX4_takePlaces_X4_isThere rfl (by decide +kernel) (by rw [hRf, hRl]; decide) (by assumption) (κ := 4) (by assumption) rfl (by decide) rfl rfl (Nat.le_of_ble_eq_true rfl) dX4_takePlaces_24 (by rw [hRc, hRs]; omega) (fun r1 T1 hp => ?_)
    have hpT := hp
    refine g_if_ne Z 32 dX4_takePlaces_27 (by decide) (fun h27 => ?_) (fun h27 => ?_)
    · obtain ⟨hp2, -, rfl⟩ : p + 4 * k ≤ e ∧ r1 = 1 ∧ S = T1 := by
        rcases hpT with hh | hh
        · exact ⟨hh.1, hh.2.1, hh.2.2.symm⟩
        · exact absurd hh.2.1 h27
      refine g_aload_n Z dX4_takePlaces_32 rfl ?_
      refine g_aload_n Z dX4_takePlaces_33 rfl ?_
      refine g_geti Z 4 2 rfl (by decide) in4 lk25 dX4_takePlaces_34 (by assumption) (by assumption) ?_
      rw [hrp]
      refine g_puti Z 4 7 rfl (by decide) tyX4 tyX4_ok nmX4 rfl in4 lk46 dX4_takePlaces_37 rfl rfl (by assumption) (by assumption) ?_
      refine g_aload_n Z dX4_takePlaces_40 rfl ?_
      refine g_dup Z dX4_takePlaces_41 rfl ?_
      refine g_geti Z 4 2 rfl (by decide) in4 lk25 dX4_takePlaces_42 (by assumption) (by assumption) ?_
      rw [hrn]
      refine g_iconst (v := 4) Z dX4_takePlaces_45 (by decide) ?_
      refine g_aload_n Z dX4_takePlaces_46 rfl ?_
      refine g_geti Z 4 4 rfl (by decide) in4 lk36 dX4_takePlaces_47 (by assumption) (by assumption) ?_
      rw [hrn4]
      refine g_imul Z dX4_takePlaces_50 ?_
      rw [show (4 : Int32) * nI k = nI (4 * k) from pk_mul 4 k]
      refine g_iadd Z dX4_takePlaces_51 ?_
      rw [nI_add]
      refine g_puti Z 4 2 rfl (by decide) tyX4 tyX4_ok nmX4 rfl in4 lk25 dX4_takePlaces_52 rfl rfl (by assumption) (by assumption) ?_
      refine g_iconst (v := 1) Z dX4_takePlaces_55 (by decide) ?_
      exact g_zret Z dX4_takePlaces_56 (by rfl) (by omega) (by omega) (by rw [show rdPc e p k pl = Sum.inr (p + 4 * k, some p) from (if_neg hb1).trans (if_pos hp2)]; exact ⟨rfl, rfl⟩)
    · obtain ⟨hp2, -, rfl⟩ : ¬ p + 4 * k ≤ e ∧ r1 = 0 ∧ T1 = (S.setI rd 0 1).setI rd 1 (nI e) := by
        rcases hpT with hh | hh
        · rw [hh.2.1] at h27; exact absurd h27 (by decide)
        · exact hh
      refine g_iconst (v := 0) Z dX4_takePlaces_30 (by decide) ?_
      exact g_zret Z dX4_takePlaces_31 (by rfl) (by omega) (by omega) (by rw [show rdPc e p k pl = Sum.inl (1, e) from (if_neg hb1).trans (if_neg hp2)]; exact ⟨rfl, rfl⟩)
  · have hz := pl_z hpl h4
    refine g_aload_n Z dX4_takePlaces_7 rfl ?_
    refine g_geti Z 4 4 rfl (by decide) in4 lk36 dX4_takePlaces_8 (by assumption) (by assumption) ?_
    rw [hn]
    refine g_iconst (v := 4) Z dX4_takePlaces_11 (by decide) ?_
    refine g_icmp_ge Z 17 dX4_takePlaces_12 (by decide) (fun h12 => ?_) (fun h12 => ?_)
    · have hb1 : ¬ (pl = 0 ∧ k < 4) := fun q => by have := ge_t (i := k) (N := 4) (by omega) (by decide) h12; omega
      refine g_aload_n Z dX4_takePlaces_17 rfl ?_
      refine g_iconst (v := 4) Z dX4_takePlaces_18 (by decide) ?_
      refine g_aload_n Z dX4_takePlaces_19 rfl ?_
      refine g_geti Z 4 4 rfl (by decide) in4 lk36 dX4_takePlaces_20 (by assumption) (by assumption) ?_
      rw [hn]
      refine g_imul Z dX4_takePlaces_23 ?_
      rw [show (4 : Int32) * nI k = nI (4 * k) from pk_mul 4 k]
      refine g_cvI Z (f_X4_isThere F.l F.D F.cy F.nw S rd p e hrL hrK hrp hre hpe he6 (4 * k) (by omega)) 1 gX4_takePlaces_X4_isThere rfl (by decide +kernel) (by rw [hRf, hRl]; decide) (by assumption) (κ := 4) (by assumption) rfl (by decide) rfl rfl (Nat.le_of_ble_eq_true rfl) dX4_takePlaces_24 (by rw [hRc, hRs]; omega) (fun r1 T1 hp => ?_)
      have hpT := hp
      refine g_if_ne Z 32 dX4_takePlaces_27 (by decide) (fun h27 => ?_) (fun h27 => ?_)
      · obtain ⟨hp2, -, rfl⟩ : p + 4 * k ≤ e ∧ r1 = 1 ∧ S = T1 := by
          rcases hpT with hh | hh
          · exact ⟨hh.1, hh.2.1, hh.2.2.symm⟩
          · exact absurd hh.2.1 h27
        refine g_aload_n Z dX4_takePlaces_32 rfl ?_
        refine g_aload_n Z dX4_takePlaces_33 rfl ?_
        refine g_geti Z 4 2 rfl (by decide) in4 lk25 dX4_takePlaces_34 (by assumption) (by assumption) ?_
        rw [hrp]
        refine g_puti Z 4 7 rfl (by decide) tyX4 tyX4_ok nmX4 rfl in4 lk46 dX4_takePlaces_37 rfl rfl (by assumption) (by assumption) ?_
        refine g_aload_n Z dX4_takePlaces_40 rfl ?_
        refine g_dup Z dX4_takePlaces_41 rfl ?_
        refine g_geti Z 4 2 rfl (by decide) in4 lk25 dX4_takePlaces_42 (by assumption) (by assumption) ?_
        rw [hrn]
        refine g_iconst (v := 4) Z dX4_takePlaces_45 (by decide) ?_
        refine g_aload_n Z dX4_takePlaces_46 rfl ?_
        refine g_geti Z 4 4 rfl (by decide) in4 lk36 dX4_takePlaces_47 (by assumption) (by assumption) ?_
        rw [hrn4]
        refine g_imul Z dX4_takePlaces_50 ?_
        rw [show (4 : Int32) * nI k = nI (4 * k) from pk_mul 4 k]
        refine g_iadd Z dX4_takePlaces_51 ?_
        rw [nI_add]
        refine g_puti Z 4 2 rfl (by decide) tyX4 tyX4_ok nmX4 rfl in4 lk25 dX4_takePlaces_52 rfl rfl (by assumption) (by assumption) ?_
        refine g_iconst (v := 1) Z dX4_takePlaces_55 (by decide) ?_
        exact g_zret Z dX4_takePlaces_56 (by rfl) (by omega) (by omega) (by rw [show rdPc e p k pl = Sum.inr (p + 4 * k, some p) from (if_neg hb1).trans (if_pos hp2)]; exact ⟨rfl, rfl⟩)
      · obtain ⟨hp2, -, rfl⟩ : ¬ p + 4 * k ≤ e ∧ r1 = 0 ∧ T1 = (S.setI rd 0 1).setI rd 1 (nI e) := by
          rcases hpT with hh | hh
          · rw [hh.2.1] at h27; exact absurd h27 (by decide)
          · exact hh
        refine g_iconst (v := 0) Z dX4_takePlaces_30 (by decide) ?_
        exact g_zret Z dX4_takePlaces_31 (by rfl) (by omega) (by omega) (by rw [show rdPc e p k pl = Sum.inl (1, e) from (if_neg hb1).trans (if_neg hp2)]; exact ⟨rfl, rfl⟩)
    · have hb1 : pl = 0 ∧ k < 4 := ⟨hz, ge_f (i := k) (N := 4) (by omega) (by decide) h12⟩
      refine g_iconst (v := 1) Z dX4_takePlaces_15 (by decide) ?_
      exact g_zret Z dX4_takePlaces_16 (by rfl) (by omega) (by omega) (by rw [show rdPc e p k pl = Sum.inr (p, none) from if_pos hb1]; exact ⟨rfl, rfl⟩)
