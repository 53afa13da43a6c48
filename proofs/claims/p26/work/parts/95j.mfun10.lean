theorem shr_n : ∀ k, k < 32 → ((nI k &&& 31).toBitVec.smod 32).toNat = k := by decide +kernel
theorem shr_i {v k : Nat} (hv : v < 2 ^ 31) (hk : k < 32) : nI v >>> (nI k &&& 31) = nI (v / 2 ^ k) := pk_shrN hv _ k (shr_n k hk)
/-- of the rest, what stays as keys and places are read -/
def Rh2 (R Q : MR) : Prop := Rk R Q ∧ Q.bi = R.bi ∧ Q.fa = R.fa
theorem Rh2.tr {R P Q : MR} (h : Rh2 R P) (k : Rh2 P Q) : Rh2 R Q := ⟨h.1.tr k.1, k.2.1.trans h.2.1, k.2.2.trans h.2.2⟩
/-- a fault -/
def RfP (A : Nat → Nat) (x : Nat) (C : C5) (R : MR) (f g : Nat) (U : PS) : Prop := ∃ E Q, mP A x (E, Q) = U ∧ Rk R Q ∧ Q.fa = nI f ∧ Q.fp = nI g ∧ Me 16 C E
def KyP (A : Nat → Nat) (x : Nat) (C : C5) (R : MR) (B : Nat → Nat) (p n : Nat) (o : Option (Nat × Nat)) (r : Int32) (U : PS) : Prop := match o with
  | some (f, g) => r = 0 ∧ RfP A x C R f g U
  | none => r = 1 ∧ ∃ E Q, mP A x (E, Q) = U ∧ Me 16 C E ∧ E.mn 16 = nI n ∧ (∀ j, j < n → E.ky (6 * 16 + j) = nI (kyR B p j)) ∧ Rh2 R Q ∧ Q.aa = nI (p + 4 * n) ∧ ∀ j, j < n → Q.hd j = nI (toR B p j)
theorem KyP.f {A : Nat → Nat} {x : Nat} {C : C5} {R : MR} {B : Nat → Nat} {p n f g : Nat} {o : Option (Nat × Nat)} {U : PS} (e : o = some (f, g)) (h : RfP A x C R f g U) : KyP A x C R B p n o 0 U := by
  subst e
  exact ⟨rfl, h⟩
def TlP (Q : MR) (B : Nat → Nat) (n : Nat) (pf : Option Nat) : Prop := match pf with
  | none => ∀ j, j < n → Q.tl j = -1
  | some g => ∀ j, j < n → Q.tl j = lN (nuB B (g + 4 * j) 4) ∧ Q.pl j = nI (g + 4 * j)

set_option maxRecDepth 100000 in
set_option maxHeartbeats 2000000 in
/-- keys and sizes are read -/
theorem f_X7_readsKeys (l : Launch) (D : va_G) (cy : Nat → ClassId) (nw : Nat) (A : Nat → Nat) (x : Nat) (ho : mOk A x) (C : C5) (R : MR) (N : Nat) (B : Nat → Nat) (hB : RBy R N B) (a : Nat) (ea : R.aa = nI a) (haN : a ≤ N) (n : Nat) (hn : n ≤ 6) : kI l yX7_readsKeys wsX7_readsKeys 2 43 D cy nw [.ref x, .int (nI n)] (mP A x (C, R)) (fun r T => KyP A x C R B a n (rdHs B N a n 0) r T) 0 0 := by
  refine enterI (cc := cX7_readsKeys) (nL := 4) (ret := (some .boolean)) (by decide +kernel) rfl (Nat.le_of_ble_eq_true rfl) ?_
  intro F Z hl hR hD hcy hnw hnm
  subst hl hD hcy hnw
  have hRf : F.R.frames = 2 := by rw [hR]
  have hRc : F.R.cells = 0 := by rw [hR]
  have hRs : F.R.slots = 0 := by rw [hR]
  have hRl : F.R.locals = 43 := by rw [hR]
  have in6 : ∀ w ∈ u_ws RX7 TX7 16, w ∈ wsX7_readsKeys := by decide +kernel
  have lk7 : Cond.fieldLink RX7 7 (TX7 0).1 (TX7 0).2.1 (TX7 0).2.2.1 ∈ wsX7_readsKeys := by decide +kernel
  have lk13 : Cond.fieldLink RX7 13 (TX7 1).1 (TX7 1).2.1 (TX7 1).2.2.1 ∈ wsX7_readsKeys := by decide +kernel
  have lk41 : Cond.fieldLink RX7 41 (TX7 14).1 (TX7 14).2.1 (TX7 14).2.2.1 ∈ wsX7_readsKeys := by decide +kernel
  have lk183 : Cond.fieldLink RX7 183 (TX7 11).1 (TX7 11).2.1 (TX7 11).2.2.1 ∈ wsX7_readsKeys := by decide +kernel
  have hN := hB.2.1
  have loop : ∀ (i : Nat) (k : Nat) (D : C5) (W : MR), n - k < i → (k ≤ n ∧ a + 4 * k ≤ N ∧ Me 16 C D ∧ D.mn 16 = nI n ∧ (∀ j, j < k → D.ky (6 * 16 + j) = nI (kyR B a j)) ∧ Rh2 R W ∧ W.aa = nI (a + 4 * k) ∧ (∀ j, j < k → W.hd j = nI (toR B a j)) ∧ rdHs B N a (n - k) k = rdHs B N a n 0) → G F 4 (mP A x (D, W)) 0 0 (QI F (fun r T => KyP A x C R B a n (rdHs B N a n 0) r T) 0 0) 10 [(0, .ref x), (1, .int (nI n)), (2, .int (nI k))] [] := by
    intro i
    induction i with
    | zero => intros; omega
    | succ i ih =>
      intro k D W hm ⟨hk, hb, hS, hmn, hky, hR2, haa, hhd, hO⟩
      have hby : RBy W N B := hR2.1.by hB
      have j75 : k < n → a + 4 * k + 2 ≤ N → ¬ (0 < k ∧ kyR B a k ≤ kyR B a (k - 1)) → rdHs B N a (n - k) k = rdHs B N a n 0 → G F 4 (mP A x ((D.s_ky (upd D.ky (6 * 16 + k) (nI (kyR B a k)))), W.s_aa (nI (a + 4 * k + 2)))) 0 0 (QI F (fun r T => KyP A x C R B a n (rdHs B N a n 0) r T) 0 0) 75 [(0, .ref x), (1, .int (nI n)), (2, .int (nI k))] [] := by
        intro hlt hpa hok hO2
        obtain ⟨m2, hm2⟩ : ∃ m2, n - k = m2 + 1 := ⟨n - k - 1, by omega⟩
        have hm3 : n - (k + 1) = m2 := by omega
        rw [hm2] at hO2
        have hby2 : RBy (W.s_aa (nI (a + 4 * k + 2))) N B := hby
        have hS2 : Me 16 C (D.s_ky (upd D.ky (6 * 16 + k) (nI (kyR B a k)))) := hS.tr (Mb.me (j := k) ⟨rfl, fun d hd => ⟨pk_un hd, rfl, rfl, fun _ _ => rfl⟩⟩ (by omega))
        refine g_aload_n Z dX7_readsKeys_75 rfl ?_
        refine g_iconst (v := 2) Z dX7_readsKeys_76 (by decide) ?_
        refine g_cvI Z (f_X7_are F.l F.D F.cy F.nw A x ho _ (W.s_aa (nI (a + 4 * k + 2))) N B hby2 (a + 4 * k + 2) rfl (by omega) 2 (by omega)) 1 gX7_readsKeys_X7_are rfl (by decide +kernel) (by rw [hRf, hRl]; decide) (by exact mP_x) (κ := 6) (by exact mP_Kx) rfl (by decide) rfl rfl (Nat.le_of_ble_eq_true rfl) dX7_readsKeys_77 (by rw [hRc, hRs]; omega) (fun r T1 hp => ?_)
        rcases hp with ⟨rfl, hle, rfl⟩ | ⟨rfl, hle, rfl⟩
        · refine g_if_ne Z 85 dX7_readsKeys_80 (by decide) (fun h80 => ?_) (fun h80 => absurd h80 (by decide))
          refine g_aload_n Z dX7_readsKeys_85 rfl ?_
          refine m_ref_hd Z in6 lk41 dX7_readsKeys_86 ?_
          refine g_iload_n Z dX7_readsKeys_89 rfl ?_
          refine g_aload_n Z dX7_readsKeys_90 rfl ?_
          refine g_iconst (v := 2) Z dX7_readsKeys_91 (by decide) ?_
          refine g_cvL Z (f_X7_taken F.l F.D F.cy F.nw A x ho _ (W.s_aa (nI (a + 4 * k + 2))) N B hby2 (a + 4 * k + 2) rfl 2 (by decide) (by omega)) 1 gX7_readsKeys_X7_taken rfl (by decide +kernel) (by rw [hRf, hRl]; decide) (by exact mP_x) (κ := 6) (by exact mP_Kx) rfl (by decide) rfl rfl (Nat.le_of_ble_eq_true rfl) dX7_readsKeys_92 (by rw [hRc, hRs]; omega) (fun r T2 hp => ?_)
          obtain ⟨rfl, rfl⟩ := hp
          refine g_l2i Z dX7_readsKeys_95 ?_
          rw [lN_i]
          refine g_iconst (v := 1) Z dX7_readsKeys_96 (by decide) ?_
          refine g_iadd Z dX7_readsKeys_97 ?_
          rw [nI_1, show nuB B (a + 4 * k + 2) 2 + 1 = toR B a k from rfl]
          refine m_ast_hd Z ho dX7_readsKeys_98 (by exact vp_in_nI (by omega) (by decide)) ?_
          rw [nI_clamp (by omega)]
          refine g_iinc (c := 1) Z dX7_readsKeys_99 rfl (by decide) (by decide) ?_
          rw [nI_1]
          refine g_goto Z 10 dX7_readsKeys_102 (by decide) ?_
          exact g_lv (by (repeat (first | exact trivial | refine And.intro rfl ?_)); done) (ih (k + 1) (D.s_ky (upd D.ky (6 * 16 + k) (nI (kyR B a k)))) _ (by omega) ⟨by omega, by omega, hS2, hmn, fun j hj => by
            show upd D.ky (6 * 16 + k) (nI (kyR B a k)) (6 * 16 + j) = _
            by_cases e : j = k
            · subst e; exact pk_us
            · rw [pk_un (by omega)]; exact hky j (by omega), ⟨⟨hR2.1.1, hR2.1.2.1, hR2.1.2.2⟩, hR2.2.1, hR2.2.2⟩, congrArg nI (by omega), fun j hj => by
            show upd W.hd k (nI (toR B a k)) j = _
            by_cases e : j = k
            · subst e; exact pk_us
            · rw [pk_un e]; exact hhd j (by omega), by rw [hm3, ← rdHs_4 (m := m2) hpa hok (show a + 4 * k + 4 ≤ N by omega)]; exact hO2⟩)
        · refine g_if_ne Z 85 dX7_readsKeys_80 (by decide) (fun h80 => absurd (rfl) h80) (fun h80 => ?_)
          refine g_iconst (v := 0) Z dX7_readsKeys_83 (by decide) ?_
          exact g_zret Z dX7_readsKeys_84 (by rfl) (by omega) (by omega) (KyP.f (hO2.symm.trans (rdHs_3 hpa hok (show ¬ a + 4 * k + 4 ≤ N by omega))) ⟨(D.s_ky (upd D.ky (6 * 16 + k) (nI (kyR B a k)))), _, rfl, ⟨hR2.1.1, hR2.1.2.1, hR2.1.2.2⟩, rfl, rfl, hS2⟩)
      refine g_iload_n Z dX7_readsKeys_10 rfl ?_
      refine g_iload_n Z dX7_readsKeys_11 rfl ?_
      refine g_icmp_ge Z 105 dX7_readsKeys_12 (by decide) (fun h12 => ?_) (fun h12 => ?_)
      · have he : k = n := by have := ge_t (i := k) (N := n) (by omega) (by omega) h12; omega
        subst he
        rw [Nat.sub_self] at hO
        refine g_iconst (v := 1) Z dX7_readsKeys_105 (by decide) ?_
        exact g_zret Z dX7_readsKeys_106 (by rfl) (by omega) (by omega) (by rw [← hO]; exact ⟨rfl, D, W, rfl, hS, hmn, hky, hR2, haa, hhd⟩)
      · have hlt : k < n := ge_f (by omega) (by omega) h12
        obtain ⟨m2, hm2⟩ : ∃ m2, n - k = m2 + 1 := ⟨n - k - 1, by omega⟩
        have hO2 := hO
        rw [hm2] at hO
        refine g_aload_n Z dX7_readsKeys_15 rfl ?_
        refine g_iconst (v := 2) Z dX7_readsKeys_16 (by decide) ?_
        refine g_cvI Z (f_X7_are F.l F.D F.cy F.nw A x ho _ W N B hby (a + 4 * k) haa (by omega) 2 (by omega)) 1 gX7_readsKeys_X7_are rfl (by decide +kernel) (by rw [hRf, hRl]; decide) (by exact mP_x) (κ := 6) (by exact mP_Kx) rfl (by decide) rfl rfl (Nat.le_of_ble_eq_true rfl) dX7_readsKeys_17 (by rw [hRc, hRs]; omega) (fun r T1 hp => ?_)
        rcases hp with ⟨rfl, hle, rfl⟩ | ⟨rfl, hle, rfl⟩
        · refine g_if_ne Z 25 dX7_readsKeys_20 (by decide) (fun h20 => ?_) (fun h20 => absurd h20 (by decide))
          refine g_bipush (v := 96) Z dX7_readsKeys_25 (by decide) ?_
          refine g_iload_n Z dX7_readsKeys_27 rfl ?_
          refine g_iadd Z dX7_readsKeys_28 ?_
          rw [ix96]
          refine g_istore_n Z dX7_readsKeys_29 (by decide) ?_
          refine g_aload_n Z dX7_readsKeys_30 rfl ?_
          refine m_ref_ky Z in6 lk13 dX7_readsKeys_31 ?_
          refine g_iload_n Z dX7_readsKeys_34 rfl ?_
          refine g_aload_n Z dX7_readsKeys_35 rfl ?_
          refine g_iconst (v := 2) Z dX7_readsKeys_36 (by decide) ?_
          refine g_cvL Z (f_X7_taken F.l F.D F.cy F.nw A x ho _ W N B hby (a + 4 * k) haa 2 (by decide) (by omega)) 1 gX7_readsKeys_X7_taken rfl (by decide +kernel) (by rw [hRf, hRl]; decide) (by exact mP_x) (κ := 6) (by exact mP_Kx) rfl (by decide) rfl rfl (Nat.le_of_ble_eq_true rfl) dX7_readsKeys_37 (by rw [hRc, hRs]; omega) (fun r T2 hp => ?_)
          obtain ⟨rfl, rfl⟩ := hp
          refine g_l2i Z dX7_readsKeys_40 ?_
          rw [lN_i, show nuB B (a + 4 * k) 2 = kyR B a k from rfl]
          have hk16 : kyR B a k < 65536 := nu2 (fun i hi => (hB.2.2 _ (by omega)).1)
          refine m_ast_ky Z ho dX7_readsKeys_41 (by exact vp_in_nI (by omega) (by decide)) ?_
          rw [nI_clamp (by omega)]
          have hS2 : Me 16 C (D.s_ky (upd D.ky (6 * 16 + k) (nI (kyR B a k)))) := hS.tr (Mb.me (j := k) ⟨rfl, fun d hd => ⟨pk_un hd, rfl, rfl, fun _ _ => rfl⟩⟩ (by omega))
          refine g_iload_n Z dX7_readsKeys_42 rfl ?_
          refine g_if_le Z 75 dX7_readsKeys_43 (by decide) (fun h43 => ?_) (fun h43 => ?_)
          · have hok : ¬ (0 < k ∧ kyR B a k ≤ kyR B a (k - 1)) := fun q => by have := le_t (i := k) (N := 0) (by omega) (by decide) h43; omega
            exact g_lv (by (repeat (first | exact trivial | refine And.intro rfl ?_)); done) (j75 hlt hle hok hO2)
          · have hk0 : 0 < k := Nat.pos_of_ne_zero (fun e => h43 (by rw [e]; decide))
            have hk1 : kyR B a (k - 1) < 65536 := nu2 (fun i hi => (hB.2.2 _ (by omega)).1)
            refine g_aload_n Z dX7_readsKeys_46 rfl ?_
            refine m_ref_ky Z in6 lk13 dX7_readsKeys_47 ?_
            refine g_iload_n Z dX7_readsKeys_50 rfl ?_
            refine m_ald_ky Z ho dX7_readsKeys_51 (by exact vp_in_nI (by omega) (by decide)) ?_
            rw [nI_clamp (by omega), show C5.ky (D.s_ky (upd D.ky (6 * 16 + k) (nI (kyR B a k)))) (6 * 16 + k) = nI (kyR B a k) from pk_us]
            refine g_aload_n Z dX7_readsKeys_52 rfl ?_
            refine m_ref_ky Z in6 lk13 dX7_readsKeys_53 ?_
            refine g_iload_n Z dX7_readsKeys_56 rfl ?_
            refine g_iconst (v := 1) Z dX7_readsKeys_57 (by decide) ?_
            refine g_isub Z dX7_readsKeys_58 ?_
            rw [s1' (by omega)]
            refine m_ald_ky Z ho dX7_readsKeys_59 (by exact vp_in_nI (by omega) (by decide)) ?_
            rw [nI_clamp (by omega), show C5.ky (D.s_ky (upd D.ky (6 * 16 + k) (nI (kyR B a k)))) (6 * 16 + k - 1) = nI (kyR B a (k - 1)) from (pk_un (by omega)).trans (by rw [show 6 * 16 + k - 1 = 6 * 16 + (k - 1) by omega]; exact hky (k - 1) (by omega))]
            refine g_icmp_gt Z 75 dX7_readsKeys_60 (by decide) (fun h60 => ?_) (fun h60 => ?_)
            · have hok : ¬ (0 < k ∧ kyR B a k ≤ kyR B a (k - 1)) := fun q => by have := (nI_ltI (a := kyR B a (k - 1)) (b := kyR B a k) (by omega) (by omega)).mp h60; omega
              exact g_lv (by (repeat (first | exact trivial | refine And.intro rfl ?_)); done) (j75 hlt hle hok hO2)
            · have hbad : 0 < k ∧ kyR B a k ≤ kyR B a (k - 1) := ⟨hk0, Nat.le_of_not_lt (fun q => h60 ((nI_ltI (a := kyR B a (k - 1)) (b := kyR B a k) (by omega) (by omega)).mpr q))⟩
              refine g_aload_n Z dX7_readsKeys_63 rfl ?_
              refine g_iconst (v := 5) Z dX7_readsKeys_64 (by decide) ?_
              refine g_aload_n Z dX7_readsKeys_65 rfl ?_
              refine m_get_aa Z in6 lk183 dX7_readsKeys_66 ?_
              refine g_iconst (v := 2) Z dX7_readsKeys_69 (by decide) ?_
              refine g_isub Z dX7_readsKeys_70 ?_
              rw [show nI (a + 4 * k + 2) - 2 = nI (a + 4 * k) from (nI_sb (b := 2) (by omega)).trans (congrArg nI (by omega))]
              refine g_cvI Z (c_X7_fails F.l F.D F.cy F.nw A x ho _ _ _ _) 2 gX7_readsKeys_X7_fails rfl (by decide +kernel) (by rw [hRf, hRl]; decide) (by exact mP_x) (κ := 6) (by exact mP_Kx) rfl (by decide) rfl rfl (Nat.le_of_ble_eq_true rfl) dX7_readsKeys_71 (by rw [hRc, hRs]; omega) (fun r T3 hp => ?_)
              obtain ⟨rfl, rfl⟩ := hp
              exact g_zret Z dX7_readsKeys_74 (by rfl) (by omega) (by omega) (KyP.f (hO.symm.trans (rdHs_2 hle hbad)) ⟨(D.s_ky (upd D.ky (6 * 16 + k) (nI (kyR B a k)))), _, rfl, ⟨hR2.1.1, hR2.1.2.1, hR2.1.2.2⟩, rfl, rfl, hS2⟩)
        · refine g_if_ne Z 25 dX7_readsKeys_20 (by decide) (fun h20 => absurd (rfl) h20) (fun h20 => ?_)
          refine g_iconst (v := 0) Z dX7_readsKeys_23 (by decide) ?_
          exact g_zret Z dX7_readsKeys_24 (by rfl) (by omega) (by omega) (KyP.f (hO.symm.trans (rdHs_1 hle)) ⟨D, _, rfl, ⟨hR2.1.1, hR2.1.2.1, hR2.1.2.2⟩, rfl, rfl, hS⟩)
  refine g_aload_n Z dX7_readsKeys_0 rfl ?_
  refine m_ref_mn Z in6 lk7 dX7_readsKeys_1 ?_
  refine g_bipush (v := 16) Z dX7_readsKeys_4 (by decide) ?_
  refine g_iload_n Z dX7_readsKeys_6 rfl ?_
  refine m_ast_mn Z ho dX7_readsKeys_7 (by exact vp_in_nI (n := 16) (by decide) (by decide)) ?_
  rw [show (16 : Int32).toNatClampNeg = 16 by decide]
  refine g_iconst (v := 0) Z dX7_readsKeys_8 (by decide) ?_
  refine g_istore_n Z dX7_readsKeys_9 (by decide) ?_
  exact g_lv (by (repeat (first | exact trivial | refine And.intro rfl ?_)); done) (loop (n + 1) 0 (C.s_mn (upd C.mn 16 (nI n))) R (by omega) ⟨by omega, by omega, Me.mn, pk_us (f := C.mn) (k := 16) (x := nI n), fun j hj => by omega, ⟨Rk.rf, rfl, rfl⟩, ea, fun j hj => by omega, rfl⟩)

theorem pl_fin {A : Nat → Nat} {x : Nat} {C : C5} {R W : MR} {B : Nat → Nat} {N a n : Nat} {y : Int32} {U : PS} (hU : mP A x (C, W) = U) (hR2 : Rh2 R W) (hhd : W.hd = R.hd) (hor : (y = 0 ∧ W.aa = nI a ∧ ∀ j, j < n → W.tl j = -1) ∨ (¬ y = 0 ∧ a + 4 * n ≤ N ∧ W.aa = nI (a + 4 * n) ∧ ∀ j, j < n → W.tl j = lN (nuB B (a + 4 * j) 4) ∧ W.pl j = nI (a + 4 * j))) : (y = 0 ∧ (1 : Int32) = 1 ∧ ∃ Q, mP A x (C, Q) = U ∧ Rh2 R Q ∧ Q.hd = R.hd ∧ Q.aa = nI a ∧ TlP Q B n none) ∨ (¬ y = 0 ∧ a + 4 * n ≤ N ∧ (1 : Int32) = 1 ∧ ∃ Q, mP A x (C, Q) = U ∧ Rh2 R Q ∧ Q.hd = R.hd ∧ Q.aa = nI (a + 4 * n) ∧ TlP Q B n (some a)) ∨ (¬ y = 0 ∧ ¬ a + 4 * n ≤ N ∧ (1 : Int32) = 0 ∧ ∃ Q, mP A x (C, Q) = U ∧ Rk R Q ∧ Q.fa = nI 1 ∧ Q.fp = nI N) := by
  rcases hor with ⟨h1, h2, h3⟩ | ⟨h1, h2, h3, h4⟩
  · exact Or.inl ⟨h1, rfl, W, hU, hR2, hhd, h2, h3⟩
  · exact Or.inr (Or.inl ⟨h1, h2, rfl, W, hU, hR2, hhd, h3, h4⟩)

set_option maxRecDepth 100000 in
set_option maxHeartbeats 2000000 in
/-- places are read -/
theorem f_X7_readsPlaces (l : Launch) (D : va_G) (cy : Nat → ClassId) (nw : Nat) (A : Nat → Nat) (x : Nat) (ho : mOk A x) (C : C5) (R : MR) (N : Nat) (B : Nat → Nat) (hB : RBy R N B) (a : Nat) (ea : R.aa = nI a) (haN : a ≤ N) (n : Nat) (hn : n ≤ 6) (y : Int32) : kI l yX7_readsPlaces wsX7_readsPlaces 2 43 D cy nw [.ref x, .int (nI n), .int y] (mP A x (C, R)) (fun r T => (y = 0 ∧ r = 1 ∧ ∃ Q, mP A x (C, Q) = T ∧ Rh2 R Q ∧ Q.hd = R.hd ∧ Q.aa = nI a ∧ TlP Q B n none) ∨ (¬ y = 0 ∧ a + 4 * n ≤ N ∧ r = 1 ∧ ∃ Q, mP A x (C, Q) = T ∧ Rh2 R Q ∧ Q.hd = R.hd ∧ Q.aa = nI (a + 4 * n) ∧ TlP Q B n (some a)) ∨ (¬ y = 0 ∧ ¬ a + 4 * n ≤ N ∧ r = 0 ∧ ∃ Q, mP A x (C, Q) = T ∧ Rk R Q ∧ Q.fa = nI 1 ∧ Q.fp = nI N)) 0 0 := by
  refine enterI (cc := cX7_readsPlaces) (nL := 4) (ret := (some .boolean)) (by decide +kernel) rfl (Nat.le_of_ble_eq_true rfl) ?_
  intro F Z hl hR hD hcy hnw hnm
  subst hl hD hcy hnw
  have hRf : F.R.frames = 2 := by rw [hR]
  have hRc : F.R.cells = 0 := by rw [hR]
  have hRs : F.R.slots = 0 := by rw [hR]
  have hRl : F.R.locals = 43 := by rw [hR]
  have in6 : ∀ w ∈ u_ws RX7 TX7 16, w ∈ wsX7_readsPlaces := by decide +kernel
  have lk35 : Cond.fieldLink RX7 35 (TX7 12).1 (TX7 12).2.1 (TX7 12).2.2.1 ∈ wsX7_readsPlaces := by decide +kernel
  have lk38 : Cond.fieldLink RX7 38 (TX7 13).1 (TX7 13).2.1 (TX7 13).2.2.1 ∈ wsX7_readsPlaces := by decide +kernel
  have lk183 : Cond.fieldLink RX7 183 (TX7 11).1 (TX7 11).2.1 (TX7 11).2.2.1 ∈ wsX7_readsPlaces := by decide +kernel
  have ct52 : Cond.constantLong RX7 52 (-1) ∈ wsX7_readsPlaces := by decide +kernel
  have hN := hB.2.1
  have loop : ∀ (i : Nat) (k : Nat) (W : MR), n - k < i → (k ≤ n ∧ Rh2 R W ∧ W.hd = R.hd ∧ ((y = 0 ∧ W.aa = nI a ∧ ∀ j, j < k → W.tl j = -1) ∨ (¬ y = 0 ∧ a + 4 * k ≤ N ∧ W.aa = nI (a + 4 * k) ∧ ∀ j, j < k → W.tl j = lN (nuB B (a + 4 * j) 4) ∧ W.pl j = nI (a + 4 * j)))) → G F 4 (mP A x (C, W)) 0 0 (QI F (fun r T => (y = 0 ∧ r = 1 ∧ ∃ Q, mP A x (C, Q) = T ∧ Rh2 R Q ∧ Q.hd = R.hd ∧ Q.aa = nI a ∧ TlP Q B n none) ∨ (¬ y = 0 ∧ a + 4 * n ≤ N ∧ r = 1 ∧ ∃ Q, mP A x (C, Q) = T ∧ Rh2 R Q ∧ Q.hd = R.hd ∧ Q.aa = nI (a + 4 * n) ∧ TlP Q B n (some a)) ∨ (¬ y = 0 ∧ ¬ a + 4 * n ≤ N ∧ r = 0 ∧ ∃ Q, mP A x (C, Q) = T ∧ Rk R Q ∧ Q.fa = nI 1 ∧ Q.fp = nI N)) 0 0) 2 [(0, .ref x), (1, .int (nI n)), (2, .int y), (3, .int (nI k))] [] := by
    intro i
    induction i with
    | zero => intros; omega
    | succ i ih =>
      intro k W hm ⟨hk, hR2, hhd, hor⟩
      refine g_iload_n Z dX7_readsPlaces_2 rfl ?_
      refine g_iload_n Z dX7_readsPlaces_3 rfl ?_
      refine g_icmp_ge Z 57 dX7_readsPlaces_4 (by decide) (fun h4 => ?_) (fun h4 => ?_)
      · have he : k = n := by have := ge_t (i := k) (N := n) (by omega) (by omega) h4; omega
        subst he
        refine g_iconst (v := 1) Z dX7_readsPlaces_57 (by decide) ?_
        exact g_zret Z dX7_readsPlaces_58 (by rfl) (by omega) (by omega) (pl_fin rfl hR2 hhd hor)
      · have hlt : k < n := ge_f (by omega) (by omega) h4
        refine g_aload_n Z dX7_readsPlaces_7 rfl ?_
        refine m_ref_tl Z in6 lk38 dX7_readsPlaces_8 ?_
        refine g_iload_n Z dX7_readsPlaces_11 rfl ?_
        refine g_ldc2 (v := -1) Z dX7_readsPlaces_12 ct52 ?_
        refine m_ast_tl Z ho dX7_readsPlaces_15 (by exact vp_in_nI (by omega) (by decide)) ?_
        rw [nI_clamp (by omega)]
        refine g_iload_n Z dX7_readsPlaces_16 rfl ?_
        refine g_if_eq Z 51 dX7_readsPlaces_17 (by decide) (fun h17 => ?_) (fun h17 => ?_)
        · have hy0 : y = 0 := h17
          obtain ⟨haa, htl⟩ : W.aa = nI a ∧ ∀ j, j < k → W.tl j = -1 := by
            rcases hor with h | h
            · exact h.2
            · exact absurd hy0 h.1
          refine g_iinc (c := 1) Z dX7_readsPlaces_51 rfl (by decide) (by decide) ?_
          rw [nI_1]
          refine g_goto Z 2 dX7_readsPlaces_54 (by decide) ?_
          exact g_lv (by (repeat (first | exact trivial | refine And.intro rfl ?_)); done) (ih (k + 1) _ (by omega) ⟨by omega, ⟨⟨hR2.1.1, hR2.1.2.1, hR2.1.2.2⟩, hR2.2.1, hR2.2.2⟩, hhd, Or.inl ⟨hy0, haa, fun j hj => by
            show vp_updL W.tl k (-1) j = -1
            by_cases e : j = k
            · subst e; exact pk_uLs
            · rw [pk_uLn e]; exact htl j (by omega)⟩⟩)
        · have hy1 : ¬ y = 0 := h17
          obtain ⟨hle4, haa, htl⟩ : a + 4 * k ≤ N ∧ W.aa = nI (a + 4 * k) ∧ ∀ j, j < k → W.tl j = lN (nuB B (a + 4 * j) 4) ∧ W.pl j = nI (a + 4 * j) := by
            rcases hor with h | h
            · exact absurd h.1 hy1
            · exact h.2
          have hby1 : RBy (W.s_tl (vp_updL W.tl k (-1))) N B := hR2.1.by hB
          have hby2 : RBy ((W.s_tl (vp_updL W.tl k (-1))).s_pl (upd W.pl k (nI (a + 4 * k)))) N B := hR2.1.by hB
          refine g_aload_n Z dX7_readsPlaces_20 rfl ?_
          refine g_iconst (v := 4) Z dX7_readsPlaces_21 (by decide) ?_
          refine g_cvI Z (f_X7_are F.l F.D F.cy F.nw A x ho _ (W.s_tl (vp_updL W.tl k (-1))) N B hby1 (a + 4 * k) haa (by omega) 4 (by omega)) 1 gX7_readsPlaces_X7_are rfl (by decide +kernel) (by rw [hRf, hRl]; decide) (by exact mP_x) (κ := 6) (by exact mP_Kx) rfl (by decide) rfl rfl (Nat.le_of_ble_eq_true rfl) dX7_readsPlaces_22 (by rw [hRc, hRs]; omega) (fun r T1 hp => ?_)
          rcases hp with ⟨rfl, hle, rfl⟩ | ⟨rfl, hle, rfl⟩
          · refine g_if_ne Z 30 dX7_readsPlaces_25 (by decide) (fun h25 => ?_) (fun h25 => absurd h25 (by decide))
            refine g_aload_n Z dX7_readsPlaces_30 rfl ?_
            refine m_ref_pl Z in6 lk35 dX7_readsPlaces_31 ?_
            refine g_iload_n Z dX7_readsPlaces_34 rfl ?_
            refine g_aload_n Z dX7_readsPlaces_35 rfl ?_
            refine m_get_aa Z in6 lk183 dX7_readsPlaces_36 ?_
            rw [show MR.aa (W.s_tl (vp_updL W.tl k (-1))) = nI (a + 4 * k) from haa]
            refine m_ast_pl Z ho dX7_readsPlaces_39 (by exact vp_in_nI (by omega) (by decide)) ?_
            rw [nI_clamp (by omega)]
            refine g_aload_n Z dX7_readsPlaces_40 rfl ?_
            refine m_ref_tl Z in6 lk38 dX7_readsPlaces_41 ?_
            refine g_iload_n Z dX7_readsPlaces_44 rfl ?_
            refine g_aload_n Z dX7_readsPlaces_45 rfl ?_
            refine g_iconst (v := 4) Z dX7_readsPlaces_46 (by decide) ?_
            refine g_cvL Z (f_X7_taken F.l F.D F.cy F.nw A x ho _ ((W.s_tl (vp_updL W.tl k (-1))).s_pl (upd W.pl k (nI (a + 4 * k)))) N B hby2 (a + 4 * k) haa 4 (by decide) (by omega)) 1 gX7_readsPlaces_X7_taken rfl (by decide +kernel) (by rw [hRf, hRl]; decide) (by exact mP_x) (κ := 6) (by exact mP_Kx) rfl (by decide) rfl rfl (Nat.le_of_ble_eq_true rfl) dX7_readsPlaces_47 (by rw [hRc, hRs]; omega) (fun r T2 hp => ?_)
            obtain ⟨rfl, rfl⟩ := hp
            refine m_ast_tl Z ho dX7_readsPlaces_50 (by exact vp_in_nI (by omega) (by decide)) ?_
            rw [nI_clamp (by omega)]
            refine g_iinc (c := 1) Z dX7_readsPlaces_51 rfl (by decide) (by decide) ?_
            rw [nI_1]
            refine g_goto Z 2 dX7_readsPlaces_54 (by decide) ?_
            exact g_lv (by (repeat (first | exact trivial | refine And.intro rfl ?_)); done) (ih (k + 1) _ (by omega) ⟨by omega, ⟨⟨hR2.1.1, hR2.1.2.1, hR2.1.2.2⟩, hR2.2.1, hR2.2.2⟩, hhd, Or.inr ⟨hy1, by omega, congrArg nI (by omega), fun j hj => by
              show vp_updL (vp_updL W.tl k (-1)) k (lN (nuB B (a + 4 * k) 4)) j = _ ∧ upd W.pl k (nI (a + 4 * k)) j = _
              by_cases e : j = k
              · subst e; exact ⟨pk_uLs, pk_us⟩
              · rw [pk_uLn e, pk_uLn e, pk_un e]; exact htl j (by omega)⟩⟩)
          · refine g_if_ne Z 30 dX7_readsPlaces_25 (by decide) (fun h25 => absurd (rfl) h25) (fun h25 => ?_)
            refine g_iconst (v := 0) Z dX7_readsPlaces_28 (by decide) ?_
            exact g_zret Z dX7_readsPlaces_29 (by rfl) (by omega) (by omega) (Or.inr (Or.inr ⟨hy1, by omega, rfl, _, rfl, ⟨hR2.1.1, hR2.1.2.1, hR2.1.2.2⟩, rfl, rfl⟩))
  by_cases hy : y = 0
  · refine g_iconst (v := 0) Z dX7_readsPlaces_0 (by decide) ?_
    refine g_istore_n Z dX7_readsPlaces_1 (by decide) ?_
    exact g_lv (by (repeat (first | exact trivial | refine And.intro rfl ?_)); done) (loop (n + 1) 0 R (by omega) ⟨by omega, ⟨Rk.rf, rfl, rfl⟩, rfl, Or.inl ⟨hy, ea, fun j hj => by omega⟩⟩)
  · refine g_iconst (v := 0) Z dX7_readsPlaces_0 (by decide) ?_
    refine g_istore_n Z dX7_readsPlaces_1 (by decide) ?_
    exact g_lv (by (repeat (first | exact trivial | refine And.intro rfl ?_)); done) (loop (n + 1) 0 R (by omega) ⟨by omega, ⟨Rk.rf, rfl, rfl⟩, rfl, Or.inr ⟨hy, haN, ea, fun j hj => by omega⟩⟩)

set_option maxRecDepth 100000 in
set_option maxHeartbeats 2000000 in
/-- the head is read -/
theorem f_X7_readsHead (l : Launch) (D : va_G) (cy : Nat → ClassId) (nw : Nat) (A : Nat → Nat) (x : Nat) (ho : mOk A x) (C : C5) (R : MR) (N : Nat) (B : Nat → Nat) (hB : RBy R N B) (ea : R.aa = nI 0) : kI l yX7_readsHead wsX7_readsHead 3 66 D cy nw [.ref x] (mP A x (C, R)) (fun r T => (r = 0 ∧ ∃ f g, rdSe B N = .inl (f, g) ∧ RfP A x C R f g T) ∨ (r = 1 ∧ ∃ n pl rb p q pf E Q, rdMk B N = .inr (n, pl, rb, p) ∧ rdHs B N p n 0 = none ∧ rdPc N (p + 4 * n) n pl = .inr (q, pf) ∧ mP A x (E, Q) = T ∧ Me 16 C E ∧ E.mn 16 = nI n ∧ (∀ j, j < n → E.ky (6 * 16 + j) = nI (kyR B p j)) ∧ Rk R Q ∧ Q.fa = R.fa ∧ Q.aa = nI q ∧ Q.bi = nI rb ∧ (∀ j, j < n → Q.hd j = nI (toR B p j)) ∧ TlP Q B n pf)) 0 0 := by
  refine enterI (cc := cX7_readsHead) (nL := 6) (ret := (some .boolean)) (by decide +kernel) rfl (Nat.le_of_ble_eq_true rfl) ?_
  intro F Z hl hR hD hcy hnw hnm
  subst hl hD hcy hnw
  have hRf : F.R.frames = 3 := by rw [hR]
  have hRc : F.R.cells = 0 := by rw [hR]
  have hRs : F.R.slots = 0 := by rw [hR]
  have hRl : F.R.locals = 66 := by rw [hR]
  have in6 : ∀ w ∈ u_ws RX7 TX7 16, w ∈ wsX7_readsHead := by decide +kernel
  have lk198 : Cond.fieldLink RX7 198 (TX7 15).1 (TX7 15).2.1 (TX7 15).2.2.1 ∈ wsX7_readsHead := by decide +kernel
  have ct140 : Cond.constantLong RX7 140 (65536) ∈ wsX7_readsHead := by decide +kernel
  have ct148 : Cond.constantLong RX7 148 (4) ∈ wsX7_readsHead := by decide +kernel
  have ct196 : Cond.constantLong RX7 196 (12346) ∈ wsX7_readsHead := by decide +kernel
  have ct201 : Cond.constantLong RX7 201 (12347) ∈ wsX7_readsHead := by decide +kernel
  have ct203 : Cond.constantLong RX7 203 (6) ∈ wsX7_readsHead := by decide +kernel
  have hN := hB.2.1
  have hB8 : ∀ i, i < N → B i < 256 := fun i hi => (hB.2.2 i hi).1
  have keys : ∀ (n pl rb p : Nat) (pp : Int32) (W : MR), rdMk B N = .inr (n, pl, rb, p) → ((pl = 0 ∧ pp = 0) ∨ (pl = 1 ∧ pp = 1)) → Rk R W → W.fa = R.fa → W.aa = nI p → W.bi = nI rb → G F 6 (mP A x (C, W)) 0 0 (QI F (fun r T => (r = 0 ∧ ∃ f g, rdSe B N = .inl (f, g) ∧ RfP A x C R f g T) ∨ (r = 1 ∧ ∃ n pl rb p q pf E Q, rdMk B N = .inr (n, pl, rb, p) ∧ rdHs B N p n 0 = none ∧ rdPc N (p + 4 * n) n pl = .inr (q, pf) ∧ mP A x (E, Q) = T ∧ Me 16 C E ∧ E.mn 16 = nI n ∧ (∀ j, j < n → E.ky (6 * 16 + j) = nI (kyR B p j)) ∧ Rk R Q ∧ Q.fa = R.fa ∧ Q.aa = nI q ∧ Q.bi = nI rb ∧ (∀ j, j < n → Q.hd j = nI (toR B p j)) ∧ TlP Q B n pf)) 0 0) 156 [(0, .ref x), (3, .int pp), (4, .long (lN n))] [] := by
    intro n pl rb p pp W hmk hpp hW hfa haa hbi
    obtain ⟨hn, hpl, hrb, hpN⟩ := rdMk_ok hB8 hmk
    have hby := hW.by hB
    have j188 : ∀ (E : C5) (W2 : MR) (y : Int32), (y = 0 ↔ pl = 0 ∧ n < 4) → rdHs B N p n 0 = none → Me 16 C E → E.mn 16 = nI n → (∀ j, j < n → E.ky (6 * 16 + j) = nI (kyR B p j)) → Rh2 W W2 → W2.aa = nI (p + 4 * n) → (∀ j, j < n → W2.hd j = nI (toR B p j)) → G F 6 (mP A x (E, W2)) 0 0 (QI F (fun r T => (r = 0 ∧ ∃ f g, rdSe B N = .inl (f, g) ∧ RfP A x C R f g T) ∨ (r = 1 ∧ ∃ n pl rb p q pf E Q, rdMk B N = .inr (n, pl, rb, p) ∧ rdHs B N p n 0 = none ∧ rdPc N (p + 4 * n) n pl = .inr (q, pf) ∧ mP A x (E, Q) = T ∧ Me 16 C E ∧ E.mn 16 = nI n ∧ (∀ j, j < n → E.ky (6 * 16 + j) = nI (kyR B p j)) ∧ Rk R Q ∧ Q.fa = R.fa ∧ Q.aa = nI q ∧ Q.bi = nI rb ∧ (∀ j, j < n → Q.hd j = nI (toR B p j)) ∧ TlP Q B n pf)) 0 0) 188 [(0, .ref x)] [.int y, .int (nI n), .ref x] := by
      intro E W2 y hy hhs hS hm hk hR2 haa2 hhd
      have hp4 := rdHs_le n 0 (by omega) hhs
      rw [Nat.zero_add] at hp4
      have hR3 := hW.tr hR2.1
      refine g_cvI Z (f_X7_readsPlaces F.l F.D F.cy F.nw A x ho _ _ N B (hR2.1.by hby) (p + 4 * n) haa2 hp4 n hn y) 2 gX7_readsHead_X7_readsPlaces rfl (by decide +kernel) (by rw [hRf, hRl]; decide) (by exact mP_x) (κ := 6) (by exact mP_Kx) rfl (by decide) rfl rfl (Nat.le_of_ble_eq_true rfl) dX7_readsHead_188 (by rw [hRc, hRs]; omega) (fun r T hp => ?_)
      have hq := hp
      refine g_if_eq Z 198 dX7_readsHead_191 (by decide) (fun h191 => ?_) (fun h191 => ?_)
      · obtain ⟨W3, hpc, rfl, z1, z2, z3⟩ : ∃ W3, rdPc N (p + 4 * n) n pl = .inl (1, N) ∧ mP A x (E, W3) = T ∧ Rk W2 W3 ∧ W3.fa = nI 1 ∧ W3.fp = nI N := by
          rcases hq with ⟨-, h1, -⟩ | ⟨-, -, h1, -⟩ | ⟨h1, h2, -, W3, h4, h5, h6, h7⟩
          · rw [h1] at h191; exact absurd h191 (by decide)
          · rw [h1] at h191; exact absurd h191 (by decide)
          · exact ⟨W3, (if_neg (fun q => h1 (hy.mpr q))).trans (if_neg h2), h4, h5, h6, h7⟩
        refine g_iconst (v := 0) Z dX7_readsHead_198 (by decide) ?_
        exact g_zret Z dX7_readsHead_199 (by rfl) (by omega) (by omega) (Or.inl ⟨rfl, _, _, rdSe_3 hmk hhs hpc, E, W3, rfl, hR3.tr z1, z2, z3, hS⟩)
      · obtain ⟨q, pf, W3, hpc, rfl, z1, z2, z3, z4⟩ : ∃ q pf W3, rdPc N (p + 4 * n) n pl = .inr (q, pf) ∧ mP A x (E, W3) = T ∧ Rh2 W2 W3 ∧ W3.hd = W2.hd ∧ W3.aa = nI q ∧ TlP W3 B n pf := by
          rcases hq with ⟨h1, -, W3, h2, h3, h4, h5, h6⟩ | ⟨h1, h2, -, W3, h3, h4, h5, h6, h7⟩ | ⟨-, -, h3, -⟩
          · exact ⟨_, _, W3, if_pos (hy.mp h1), h2, h3, h4, h5, h6⟩
          · exact ⟨_, _, W3, (if_neg (fun q => h1 (hy.mpr q))).trans (if_pos h2), h3, h4, h5, h6, h7⟩
          · exact absurd h3 h191
        refine g_iconst (v := 1) Z dX7_readsHead_194 (by decide) ?_
        refine g_goto Z 199 dX7_readsHead_195 (by decide) ?_
        exact g_zret Z dX7_readsHead_199 (by rfl) (by omega) (by omega) (Or.inr ⟨rfl, n, pl, rb, p, q, pf, E, W3, hmk, hhs, hpc, rfl, hS, hm, hk, hR3.tr z1.1, z1.2.2.trans (hR2.2.2.trans hfa), z3, z1.2.1.trans (hR2.2.1.trans hbi), fun j hj => by rw [z2]; exact hhd j hj, z4⟩)
    refine g_aload_n Z dX7_readsHead_156 rfl ?_
    refine g_lload Z dX7_readsHead_157 rfl ?_
    refine g_l2i Z dX7_readsHead_159 ?_
    rw [lN_i]
    refine g_cvI Z (f_X7_readsKeys F.l F.D F.cy F.nw A x ho _ _ N B hby p haa hpN n hn) 1 gX7_readsHead_X7_readsKeys rfl (by decide +kernel) (by rw [hRf, hRl]; decide) (by exact mP_x) (κ := 6) (by exact mP_Kx) rfl (by decide) rfl rfl (Nat.le_of_ble_eq_true rfl) dX7_readsHead_160 (by rw [hRc, hRs]; omega) (fun r T hp => ?_)
    have hq := hp
    refine g_if_eq Z 198 dX7_readsHead_163 (by decide) (fun h163 => ?_) (fun h163 => ?_)
    · obtain ⟨f, g, hhs, E, W2, rfl, hR2, hf1, hf2, hS⟩ : ∃ f g, rdHs B N p n 0 = some (f, g) ∧ RfP A x C W f g T := by
        cases e : rdHs B N p n 0 with
        | none => rw [e] at hq; rw [hq.1] at h163; exact absurd h163 (by decide)
        | some o => rw [e] at hq; exact ⟨o.1, o.2, rfl, hq.2⟩
      refine g_iconst (v := 0) Z dX7_readsHead_198 (by decide) ?_
      exact g_zret Z dX7_readsHead_199 (by rfl) (by omega) (by omega) (Or.inl ⟨rfl, f, g, rdSe_2 hmk hhs, E, W2, rfl, hW.tr hR2, hf1, hf2, hS⟩)
    · obtain ⟨hhs, E, W2, rfl, hS, hm, hk, hR2, haa2, hhd⟩ : rdHs B N p n 0 = none ∧ ∃ E Q, mP A x (E, Q) = T ∧ Me 16 C E ∧ E.mn 16 = nI n ∧ (∀ j, j < n → E.ky (6 * 16 + j) = nI (kyR B p j)) ∧ Rh2 W Q ∧ Q.aa = nI (p + 4 * n) ∧ ∀ j, j < n → Q.hd j = nI (toR B p j) := by
        cases e : rdHs B N p n 0 with
        | none => rw [e] at hq; exact ⟨rfl, hq.2⟩
        | some o => rw [e] at hq; exact absurd hq.1 h163
      refine g_aload_n Z dX7_readsHead_166 rfl ?_
      refine g_lload Z dX7_readsHead_167 rfl ?_
      refine g_l2i Z dX7_readsHead_169 ?_
      rw [lN_i]
      refine g_iload_n Z dX7_readsHead_170 rfl ?_
      refine g_if_ne Z 183 dX7_readsHead_171 (by decide) (fun h171 => ?_) (fun h171 => ?_)
      · have hp1 : pl = 1 := by
          rcases hpp with ⟨-, e⟩ | ⟨e, -⟩
          · exact absurd e h171
          · exact e
        refine g_iconst (v := 1) Z dX7_readsHead_183 (by decide) ?_
        refine g_goto Z 188 dX7_readsHead_184 (by decide) ?_
        first | exact g_lv (by (repeat (first | exact trivial | refine And.intro rfl ?_)); done) (j188 E W2 _ ⟨fun e => absurd e (by decide), fun e => absurd (hp1.symm.trans e.1) (by decide)⟩ hhs hS hm hk hR2 haa2 hhd) | exact g_lv (by (repeat (first | exact trivial | refine And.intro rfl ?_)); done) (j188 E W2 _ ⟨fun e => absurd e (by decide), fun e => absurd e.2 hn4⟩ hhs hS hm hk hR2 haa2 hhd) | exact g_lv (by (repeat (first | exact trivial | refine And.intro rfl ?_)); done) (j188 E W2 _ ⟨fun _ => ⟨hp0, hn4⟩, fun _ => rfl⟩ hhs hS hm hk hR2 haa2 hhd)
      · have hp0 : pl = 0 := by
          rcases hpp with ⟨e, -⟩ | ⟨-, e⟩
          · exact e
          · rw [e] at h171; exact absurd h171 (by decide)
        refine g_lload Z dX7_readsHead_174 rfl ?_
        refine g_ldc2 (v := 4) Z dX7_readsHead_176 ct148 ?_
        refine g_lcmp Z dX7_readsHead_179 ?_
        refine g_if_lt Z 187 dX7_readsHead_180 (by decide) (fun h180 => ?_) (fun h180 => ?_)
        · have hn4 : n < 4 := (pk_lLT (a := n) (b := 4) (by omega) (by decide)).mp (lc_lt.mp h180)
          refine g_iconst (v := 0) Z dX7_readsHead_187 (by decide) ?_
          first | exact g_lv (by (repeat (first | exact trivial | refine And.intro rfl ?_)); done) (j188 E W2 _ ⟨fun e => absurd e (by decide), fun e => absurd (hp1.symm.trans e.1) (by decide)⟩ hhs hS hm hk hR2 haa2 hhd) | exact g_lv (by (repeat (first | exact trivial | refine And.intro rfl ?_)); done) (j188 E W2 _ ⟨fun e => absurd e (by decide), fun e => absurd e.2 hn4⟩ hhs hS hm hk hR2 haa2 hhd) | exact g_lv (by (repeat (first | exact trivial | refine And.intro rfl ?_)); done) (j188 E W2 _ ⟨fun _ => ⟨hp0, hn4⟩, fun _ => rfl⟩ hhs hS hm hk hR2 haa2 hhd)
        · have hn4 : ¬ n < 4 := fun q => h180 (lc_lt.mpr ((pk_lLT (a := n) (b := 4) (by omega) (by decide)).mpr q))
          refine g_iconst (v := 1) Z dX7_readsHead_183 (by decide) ?_
          refine g_goto Z 188 dX7_readsHead_184 (by decide) ?_
          first | exact g_lv (by (repeat (first | exact trivial | refine And.intro rfl ?_)); done) (j188 E W2 _ ⟨fun e => absurd e (by decide), fun e => absurd (hp1.symm.trans e.1) (by decide)⟩ hhs hS hm hk hR2 haa2 hhd) | exact g_lv (by (repeat (first | exact trivial | refine And.intro rfl ?_)); done) (j188 E W2 _ ⟨fun e => absurd e (by decide), fun e => absurd e.2 hn4⟩ hhs hS hm hk hR2 haa2 hhd) | exact g_lv (by (repeat (first | exact trivial | refine And.intro rfl ?_)); done) (j188 E W2 _ ⟨fun _ => ⟨hp0, hn4⟩, fun _ => rfl⟩ hhs hS hm hk hR2 haa2 hhd)
  have tot1 : ∀ (W : MR), 8 ≤ N → rdMk B N = rdPt B N → Rk R W → W.fa = R.fa → W.aa = nI 8 → W.bi = nI 0 → G F 6 (mP A x (C, W)) 0 0 (QI F (fun r T => (r = 0 ∧ ∃ f g, rdSe B N = .inl (f, g) ∧ RfP A x C R f g T) ∨ (r = 1 ∧ ∃ n pl rb p q pf E Q, rdMk B N = .inr (n, pl, rb, p) ∧ rdHs B N p n 0 = none ∧ rdPc N (p + 4 * n) n pl = .inr (q, pf) ∧ mP A x (E, Q) = T ∧ Me 16 C E ∧ E.mn 16 = nI n ∧ (∀ j, j < n → E.ky (6 * 16 + j) = nI (kyR B p j)) ∧ Rk R Q ∧ Q.fa = R.fa ∧ Q.aa = nI q ∧ Q.bi = nI rb ∧ (∀ j, j < n → Q.hd j = nI (toR B p j)) ∧ TlP Q B n pf)) 0 0) 90 [(0, .ref x), (3, .int 1), (4, .long (lN (nuB B 4 4)))] [] := by
    intro W h8 hmk hW hfa haa hbi
    obtain ⟨w1, w2, w3⟩ := id hW
    have hlt : nuB B 4 4 < 2 ^ 32 := nuB_lt 4 (fun i hi => hB8 _ (by omega))
    refine g_lload Z dX7_readsHead_90 rfl ?_
    refine g_ldc2 (v := 6) Z dX7_readsHead_92 ct203 ?_
    refine g_lcmp Z dX7_readsHead_95 ?_
    refine g_if_le Z 114 dX7_readsHead_96 (by decide) (fun h96 => ?_) (fun h96 => ?_)
    · have hn6 : ¬ 6 < nuB B 4 4 := by have := le6 (by omega) h96; omega
      refine g_iload_n Z dX7_readsHead_114 rfl ?_
      refine g_if_ne Z 156 dX7_readsHead_115 (by decide) (fun h115 => ?_) (fun h115 => absurd h115 (by decide))
      exact g_lv (by (repeat (first | exact trivial | refine And.intro rfl ?_)); done) (keys (nuB B 4 4) 1 0 8 _ W (hmk.trans ((if_pos h8).trans (if_neg hn6))) (Or.inr ⟨rfl, rfl⟩) hW hfa haa hbi)
    · have hn6 : 6 < nuB B 4 4 := lcmp_gt hlt h96
      refine g_aload_n Z dX7_readsHead_99 rfl ?_
      refine g_iconst (v := 3) Z dX7_readsHead_100 (by decide) ?_
      refine g_iload_n Z dX7_readsHead_101 rfl ?_
      refine g_if_eq Z 109 dX7_readsHead_102 (by decide) (fun h102 => absurd h102 (by decide)) (fun h102 => ?_)
      refine g_iconst (v := 4) Z dX7_readsHead_105 (by decide) ?_
      refine g_goto Z 110 dX7_readsHead_106 (by decide) ?_
      refine g_cvI Z (c_X7_fails F.l F.D F.cy F.nw A x ho _ _ _ _) 2 gX7_readsHead_X7_fails rfl (by decide +kernel) (by rw [hRf, hRl]; decide) (by exact mP_x) (κ := 6) (by exact mP_Kx) rfl (by decide) rfl rfl (Nat.le_of_ble_eq_true rfl) dX7_readsHead_110 (by rw [hRc, hRs]; omega) (fun r T1 hp => ?_)
      obtain ⟨rfl, rfl⟩ := hp
      exact g_zret Z dX7_readsHead_113 (by rfl) (by omega) (by omega) (Or.inl ⟨rfl, _, _, rdSe_1 (hmk.trans ((if_pos h8).trans (if_pos hn6))), C, _, rfl, ⟨w1, w2, w3⟩, rfl, rfl, Me.rf⟩)
  have tot0 : ∀ (W : MR) (k : Nat), k < 2 ^ 62 → rdMk B N = rdRb B N k → Rk R W → W.fa = R.fa → W.aa = nI 4 → 4 ≤ N → G F 6 (mP A x (C, W)) 0 0 (QI F (fun r T => (r = 0 ∧ ∃ f g, rdSe B N = .inl (f, g) ∧ RfP A x C R f g T) ∨ (r = 1 ∧ ∃ n pl rb p q pf E Q, rdMk B N = .inr (n, pl, rb, p) ∧ rdHs B N p n 0 = none ∧ rdPc N (p + 4 * n) n pl = .inr (q, pf) ∧ mP A x (E, Q) = T ∧ Me 16 C E ∧ E.mn 16 = nI n ∧ (∀ j, j < n → E.ky (6 * 16 + j) = nI (kyR B p j)) ∧ Rk R Q ∧ Q.fa = R.fa ∧ Q.aa = nI q ∧ Q.bi = nI rb ∧ (∀ j, j < n → Q.hd j = nI (toR B p j)) ∧ TlP Q B n pf)) 0 0) 90 [(0, .ref x), (3, .int 0), (4, .long (lN k))] [] := by
    intro W k hk hmk hW hfa haa h4
    obtain ⟨w1, w2, w3⟩ := id hW
    have hby := hW.by hB
    refine g_lload Z dX7_readsHead_90 rfl ?_
    refine g_ldc2 (v := 6) Z dX7_readsHead_92 ct203 ?_
    refine g_lcmp Z dX7_readsHead_95 ?_
    refine g_if_le Z 114 dX7_readsHead_96 (by decide) (fun h96 => ?_) (fun h96 => ?_)
    · have hn6 : ¬ 6 < k := by have := le6 hk h96; omega
      refine g_iload_n Z dX7_readsHead_114 rfl ?_
      refine g_if_ne Z 156 dX7_readsHead_115 (by decide) (fun h115 => absurd (rfl) h115) (fun h115 => ?_)
      refine g_aload_n Z dX7_readsHead_118 rfl ?_
      refine g_iconst (v := 1) Z dX7_readsHead_119 (by decide) ?_
      refine g_cvI Z (f_X7_are F.l F.D F.cy F.nw A x ho _ W N B hby 4 haa (by omega) 1 (by omega)) 1 gX7_readsHead_X7_are rfl (by decide +kernel) (by rw [hRf, hRl]; decide) (by exact mP_x) (κ := 6) (by exact mP_Kx) rfl (by decide) rfl rfl (Nat.le_of_ble_eq_true rfl) dX7_readsHead_120 (by rw [hRc, hRs]; omega) (fun r T1 hp => ?_)
      rcases hp with ⟨rfl, hle, rfl⟩ | ⟨rfl, hle, rfl⟩
      · refine g_if_ne Z 128 dX7_readsHead_123 (by decide) (fun h123 => ?_) (fun h123 => absurd h123 (by decide))
        refine g_aload_n Z dX7_readsHead_128 rfl ?_
        refine g_aload_n Z dX7_readsHead_129 rfl ?_
        refine g_iconst (v := 1) Z dX7_readsHead_130 (by decide) ?_
        refine g_cvL Z (f_X7_taken F.l F.D F.cy F.nw A x ho _ W N B hby 4 haa 1 (by decide) (by omega)) 1 gX7_readsHead_X7_taken rfl (by decide +kernel) (by rw [hRf, hRl]; decide) (by exact mP_x) (κ := 6) (by exact mP_Kx) rfl (by decide) rfl rfl (Nat.le_of_ble_eq_true rfl) dX7_readsHead_131 (by rw [hRc, hRs]; omega) (fun r T2 hp => ?_)
        obtain ⟨rfl, rfl⟩ := hp
        refine g_l2i Z dX7_readsHead_134 ?_
        rw [lN_i]
        have hlt : nuB B 4 1 < 256 := nuB_lt 1 (fun i hi => hB8 _ (by omega))
        refine m_put_bi Z in6 lk198 dX7_readsHead_135 ?_
        refine g_aload_n Z dX7_readsHead_138 rfl ?_
        refine m_get_bi Z in6 lk198 dX7_readsHead_139 ?_
        refine g_lload Z dX7_readsHead_142 rfl ?_
        refine g_l2i Z dX7_readsHead_144 ?_
        rw [lN_i]
        refine g_ishr Z dX7_readsHead_145 ?_
        rw [shr_i (v := nuB B 4 1) (k := k) (by omega) (by omega)]
        refine g_if_eq Z 156 dX7_readsHead_146 (by decide) (fun h146 => ?_) (fun h146 => ?_)
        · have hz : nuB B 4 1 / 2 ^ k = 0 := nI_z (Nat.lt_of_le_of_lt (Nat.div_le_self _ _) (by omega)) h146
          exact g_lv (by (repeat (first | exact trivial | refine And.intro rfl ?_)); done) (keys k 0 (nuB B 4 1) 5 _ _ (hmk.trans ((if_neg hn6).trans ((if_pos hle).trans (if_pos hz)))) (Or.inl ⟨rfl, rfl⟩) ⟨w1, w2, w3⟩ hfa rfl rfl)
        · have hz : ¬ nuB B 4 1 / 2 ^ k = 0 := fun q => h146 (by rw [q]; rfl)
          refine g_aload_n Z dX7_readsHead_149 rfl ?_
          refine g_iconst (v := 4) Z dX7_readsHead_150 (by decide) ?_
          refine g_iconst (v := 4) Z dX7_readsHead_151 (by decide) ?_
          refine g_cvI Z (c_X7_fails F.l F.D F.cy F.nw A x ho _ _ _ _) 2 gX7_readsHead_X7_fails rfl (by decide +kernel) (by rw [hRf, hRl]; decide) (by exact mP_x) (κ := 6) (by exact mP_Kx) rfl (by decide) rfl rfl (Nat.le_of_ble_eq_true rfl) dX7_readsHead_152 (by rw [hRc, hRs]; omega) (fun r T3 hp => ?_)
          obtain ⟨rfl, rfl⟩ := hp
          exact g_zret Z dX7_readsHead_155 (by rfl) (by omega) (by omega) (Or.inl ⟨rfl, _, _, rdSe_1 (hmk.trans ((if_neg hn6).trans ((if_pos hle).trans (if_neg hz)))), C, _, rfl, ⟨w1, w2, w3⟩, rfl, rfl, Me.rf⟩)
      · refine g_if_ne Z 128 dX7_readsHead_123 (by decide) (fun h123 => absurd (rfl) h123) (fun h123 => ?_)
        refine g_iconst (v := 0) Z dX7_readsHead_126 (by decide) ?_
        exact g_zret Z dX7_readsHead_127 (by rfl) (by omega) (by omega) (Or.inl ⟨rfl, _, _, rdSe_1 (hmk.trans ((if_neg hn6).trans (if_neg hle))), C, _, rfl, ⟨w1, w2, w3⟩, rfl, rfl, Me.rf⟩)
    · have hn6 : 6 < k := Nat.lt_of_not_le (fun q => h96 (Int32.not_lt.mp (fun z => by have := (pk_lLT (a := 6) (b := k) (by decide) (by omega)).mp (lc_gt.mp z); omega)))
      refine g_aload_n Z dX7_readsHead_99 rfl ?_
      refine g_iconst (v := 3) Z dX7_readsHead_100 (by decide) ?_
      refine g_iload_n Z dX7_readsHead_101 rfl ?_
      refine g_if_eq Z 109 dX7_readsHead_102 (by decide) (fun h102 => ?_) (fun h102 => absurd (rfl) h102)
      refine g_iconst (v := 2) Z dX7_readsHead_109 (by decide) ?_
      refine g_cvI Z (c_X7_fails F.l F.D F.cy F.nw A x ho _ _ _ _) 2 gX7_readsHead_X7_fails rfl (by decide +kernel) (by rw [hRf, hRl]; decide) (by exact mP_x) (κ := 6) (by exact mP_Kx) rfl (by decide) rfl rfl (Nat.le_of_ble_eq_true rfl) dX7_readsHead_110 (by rw [hRc, hRs]; omega) (fun r T1 hp => ?_)
      obtain ⟨rfl, rfl⟩ := hp
      exact g_zret Z dX7_readsHead_113 (by rfl) (by omega) (by omega) (Or.inl ⟨rfl, _, _, rdSe_1 (hmk.trans (if_pos hn6)), C, _, rfl, ⟨w1, w2, w3⟩, rfl, rfl, Me.rf⟩)
  have v4 : 4 ≤ N → nuB B 0 4 < 2 ^ 32 := fun h => nuB_lt 4 (fun i hi => hB8 _ (by omega))
  have four1 : 4 ≤ N → nuB B 0 4 = 12346 → G F 6 (mP A x (C, R.s_aa (nI 4))) 0 0 (QI F (fun r T => (r = 0 ∧ ∃ f g, rdSe B N = .inl (f, g) ∧ RfP A x C R f g T) ∨ (r = 1 ∧ ∃ n pl rb p q pf E Q, rdMk B N = .inr (n, pl, rb, p) ∧ rdHs B N p n 0 = none ∧ rdPc N (p + 4 * n) n pl = .inr (q, pf) ∧ mP A x (E, Q) = T ∧ Me 16 C E ∧ E.mn 16 = nI n ∧ (∀ j, j < n → E.ky (6 * 16 + j) = nI (kyR B p j)) ∧ Rk R Q ∧ Q.fa = R.fa ∧ Q.aa = nI q ∧ Q.bi = nI rb ∧ (∀ j, j < n → Q.hd j = nI (toR B p j)) ∧ TlP Q B n pf)) 0 0) 29 [(0, .ref x), (1, .long (lN (nuB B 0 4)))] [.int 1] := by
    intro h4 he
    have hmk : rdMk B N = rdPt B N := (if_pos h4).trans (if_pos he)
    have w1 : R.wk = R.wk := rfl
    have w2 : R.si = R.si := rfl
    have w3 : R.bt = R.bt := rfl
    refine g_istore_n Z dX7_readsHead_29 (by decide) ?_
    refine g_aload_n Z dX7_readsHead_30 rfl ?_
    refine g_iconst (v := 0) Z dX7_readsHead_31 (by decide) ?_
    refine m_put_bi Z in6 lk198 dX7_readsHead_32 ?_
    refine g_iload_n Z dX7_readsHead_35 rfl ?_
    refine g_if_eq Z 59 dX7_readsHead_36 (by decide) (fun h36 => absurd h36 (by decide)) (fun h36 => ?_)
    refine g_aload_n Z dX7_readsHead_39 rfl ?_
    refine g_iconst (v := 4) Z dX7_readsHead_40 (by decide) ?_
    refine g_cvI Z (f_X7_are F.l F.D F.cy F.nw A x ho _ ((R.s_aa (nI 4)).s_bi 0) N B hB 4 rfl (by omega) 4 (by omega)) 1 gX7_readsHead_X7_are rfl (by decide +kernel) (by rw [hRf, hRl]; decide) (by exact mP_x) (κ := 6) (by exact mP_Kx) rfl (by decide) rfl rfl (Nat.le_of_ble_eq_true rfl) dX7_readsHead_41 (by rw [hRc, hRs]; omega) (fun r T1 hp => ?_)
    rcases hp with ⟨rfl, hle, rfl⟩ | ⟨rfl, hle, rfl⟩
    · refine g_if_ne Z 49 dX7_readsHead_44 (by decide) (fun h44 => ?_) (fun h44 => absurd h44 (by decide))
      refine g_aload_n Z dX7_readsHead_49 rfl ?_
      refine g_iconst (v := 4) Z dX7_readsHead_50 (by decide) ?_
      refine g_cvL Z (f_X7_taken F.l F.D F.cy F.nw A x ho _ ((R.s_aa (nI 4)).s_bi 0) N B hB 4 rfl 4 (by decide) (by omega)) 1 gX7_readsHead_X7_taken rfl (by decide +kernel) (by rw [hRf, hRl]; decide) (by exact mP_x) (κ := 6) (by exact mP_Kx) rfl (by decide) rfl rfl (Nat.le_of_ble_eq_true rfl) dX7_readsHead_51 (by rw [hRc, hRs]; omega) (fun r T2 hp => ?_)
      obtain ⟨rfl, rfl⟩ := hp
      refine g_lstore Z dX7_readsHead_54 (by decide) ?_
      refine g_goto Z 90 dX7_readsHead_56 (by decide) ?_
      exact g_lv (by (repeat (first | exact trivial | refine And.intro rfl ?_)); done) (tot1 _ hle hmk ⟨rfl, rfl, rfl⟩ rfl rfl rfl)
    · refine g_if_ne Z 49 dX7_readsHead_44 (by decide) (fun h44 => absurd (rfl) h44) (fun h44 => ?_)
      refine g_iconst (v := 0) Z dX7_readsHead_47 (by decide) ?_
      exact g_zret Z dX7_readsHead_48 (by rfl) (by omega) (by omega) (Or.inl ⟨rfl, _, _, rdSe_1 (hmk.trans (if_neg hle)), C, _, rfl, ⟨w1, w2, w3⟩, rfl, rfl, Me.rf⟩)
  have four0 : 4 ≤ N → ¬ nuB B 0 4 = 12346 → G F 6 (mP A x (C, R.s_aa (nI 4))) 0 0 (QI F (fun r T => (r = 0 ∧ ∃ f g, rdSe B N = .inl (f, g) ∧ RfP A x C R f g T) ∨ (r = 1 ∧ ∃ n pl rb p q pf E Q, rdMk B N = .inr (n, pl, rb, p) ∧ rdHs B N p n 0 = none ∧ rdPc N (p + 4 * n) n pl = .inr (q, pf) ∧ mP A x (E, Q) = T ∧ Me 16 C E ∧ E.mn 16 = nI n ∧ (∀ j, j < n → E.ky (6 * 16 + j) = nI (kyR B p j)) ∧ Rk R Q ∧ Q.fa = R.fa ∧ Q.aa = nI q ∧ Q.bi = nI rb ∧ (∀ j, j < n → Q.hd j = nI (toR B p j)) ∧ TlP Q B n pf)) 0 0) 29 [(0, .ref x), (1, .long (lN (nuB B 0 4)))] [.int 0] := by
    intro h4 he
    have hmk0 : rdMk B N = (if nuB B 0 4 % 65536 = 12347 then rdRb B N (nuB B 0 4 / 65536 + 1) else .inl (2, 0)) := (if_pos h4).trans (if_neg he)
    have hv := v4 h4
    have w1 : R.wk = R.wk := rfl
    have w2 : R.si = R.si := rfl
    have w3 : R.bt = R.bt := rfl
    refine g_istore_n Z dX7_readsHead_29 (by decide) ?_
    refine g_aload_n Z dX7_readsHead_30 rfl ?_
    refine g_iconst (v := 0) Z dX7_readsHead_31 (by decide) ?_
    refine m_put_bi Z in6 lk198 dX7_readsHead_32 ?_
    refine g_iload_n Z dX7_readsHead_35 rfl ?_
    refine g_if_eq Z 59 dX7_readsHead_36 (by decide) (fun h36 => ?_) (fun h36 => absurd (rfl) h36)
    refine g_lload_n Z dX7_readsHead_59 rfl ?_
    refine g_ldc2 (v := 65536) Z dX7_readsHead_60 ct140 ?_
    refine g_lrem Z dX7_readsHead_63 (by decide) ?_
    rw [show lN (nuB B 0 4) - lN (nuB B 0 4) / 65536 * 65536 = lN (nuB B 0 4 % 65536) from pk_lRem (b := 65536) (by omega) (by decide) (by decide)]
    refine g_ldc2 (v := 12347) Z dX7_readsHead_64 ct201 ?_
    refine g_lcmp Z dX7_readsHead_67 ?_
    refine g_if_ne Z 83 dX7_readsHead_68 (by decide) (fun h68 => ?_) (fun h68 => ?_)
    · have hm : ¬ nuB B 0 4 % 65536 = 12347 := fun q => h68 (lc_eq.mpr (by rw [q]; rfl))
      refine g_aload_n Z dX7_readsHead_83 rfl ?_
      refine g_iconst (v := 2) Z dX7_readsHead_84 (by decide) ?_
      refine g_iconst (v := 0) Z dX7_readsHead_85 (by decide) ?_
      refine g_cvI Z (c_X7_fails F.l F.D F.cy F.nw A x ho _ _ _ _) 2 gX7_readsHead_X7_fails rfl (by decide +kernel) (by rw [hRf, hRl]; decide) (by exact mP_x) (κ := 6) (by exact mP_Kx) rfl (by decide) rfl rfl (Nat.le_of_ble_eq_true rfl) dX7_readsHead_86 (by rw [hRc, hRs]; omega) (fun r T3 hp => ?_)
      obtain ⟨rfl, rfl⟩ := hp
      exact g_zret Z dX7_readsHead_89 (by rfl) (by omega) (by omega) (Or.inl ⟨rfl, _, _, rdSe_1 (hmk0.trans (if_neg hm)), C, _, rfl, ⟨w1, w2, w3⟩, rfl, rfl, Me.rf⟩)
    · have hm : nuB B 0 4 % 65536 = 12347 := lN_jj (by omega) (by decide) (lc_eq.mp h68)
      refine g_lload_n Z dX7_readsHead_71 rfl ?_
      refine g_ldc2 (v := 65536) Z dX7_readsHead_72 ct140 ?_
      refine g_ldiv Z dX7_readsHead_75 (by decide) ?_
      refine g_lconst (v := 1) Z dX7_readsHead_76 (by decide) ?_
      refine g_ladd Z dX7_readsHead_77 ?_
      rw [show lN (nuB B 0 4) / 65536 = lN (nuB B 0 4 / 65536) from pk_lDiv (b := 65536) (by omega) (by decide) (by decide), show lN (nuB B 0 4 / 65536) + 1 = lN (nuB B 0 4 / 65536 + 1) from lN_1 _]
      refine g_lstore Z dX7_readsHead_78 (by decide) ?_
      refine g_goto Z 90 dX7_readsHead_80 (by decide) ?_
      exact g_lv (by (repeat (first | exact trivial | refine And.intro rfl ?_)); done) (tot0 ((R.s_aa (nI 4)).s_bi 0) (nuB B 0 4 / 65536 + 1) (by omega) (hmk0.trans (if_pos hm)) ⟨rfl, rfl, rfl⟩ rfl rfl h4)
  have w1 : R.wk = R.wk := rfl
  have w2 : R.si = R.si := rfl
  have w3 : R.bt = R.bt := rfl
  refine g_aload_n Z dX7_readsHead_0 rfl ?_
  refine g_iconst (v := 4) Z dX7_readsHead_1 (by decide) ?_
  refine g_cvI Z (f_X7_are F.l F.D F.cy F.nw A x ho _ R N B hB 0 ea (by omega) 4 (by omega)) 1 gX7_readsHead_X7_are rfl (by decide +kernel) (by rw [hRf, hRl]; decide) (by exact mP_x) (κ := 6) (by exact mP_Kx) rfl (by decide) rfl rfl (Nat.le_of_ble_eq_true rfl) dX7_readsHead_2 (by rw [hRc, hRs]; omega) (fun r T1 hp => ?_)
  rcases hp with ⟨rfl, hle, rfl⟩ | ⟨rfl, hle, rfl⟩
  · refine g_if_ne Z 10 dX7_readsHead_5 (by decide) (fun h5 => ?_) (fun h5 => absurd h5 (by decide))
    refine g_aload_n Z dX7_readsHead_10 rfl ?_
    refine g_iconst (v := 4) Z dX7_readsHead_11 (by decide) ?_
    refine g_cvL Z (f_X7_taken F.l F.D F.cy F.nw A x ho _ R N B hB 0 ea 4 (by decide) (by omega)) 1 gX7_readsHead_X7_taken rfl (by decide +kernel) (by rw [hRf, hRl]; decide) (by exact mP_x) (κ := 6) (by exact mP_Kx) rfl (by decide) rfl rfl (Nat.le_of_ble_eq_true rfl) dX7_readsHead_12 (by rw [hRc, hRs]; omega) (fun r T2 hp => ?_)
    obtain ⟨rfl, rfl⟩ := hp
    refine g_lstore_n Z dX7_readsHead_15 (by decide) ?_
    refine g_lload_n Z dX7_readsHead_16 rfl ?_
    refine g_ldc2 (v := 12346) Z dX7_readsHead_17 ct196 ?_
    refine g_lcmp Z dX7_readsHead_20 ?_
    refine g_if_ne Z 28 dX7_readsHead_21 (by decide) (fun h21 => ?_) (fun h21 => ?_)
    · have he : ¬ nuB B 0 4 = 12346 := fun q => h21 (lc_eq.mpr (by rw [q]; rfl))
      refine g_iconst (v := 0) Z dX7_readsHead_28 (by decide) ?_
      first | exact g_lv (by (repeat (first | exact trivial | refine And.intro rfl ?_)); done) (four1 (by omega) he) | exact g_lv (by (repeat (first | exact trivial | refine And.intro rfl ?_)); done) (four0 (by omega) he)
    · have he : nuB B 0 4 = 12346 := lN_jj (by have := v4 (by omega); omega) (by decide) (lc_eq.mp h21)
      refine g_iconst (v := 1) Z dX7_readsHead_24 (by decide) ?_
      refine g_goto Z 29 dX7_readsHead_25 (by decide) ?_
      first | exact g_lv (by (repeat (first | exact trivial | refine And.intro rfl ?_)); done) (four1 (by omega) he) | exact g_lv (by (repeat (first | exact trivial | refine And.intro rfl ?_)); done) (four0 (by omega) he)
  · refine g_if_ne Z 10 dX7_readsHead_5 (by decide) (fun h5 => absurd (rfl) h5) (fun h5 => ?_)
    refine g_iconst (v := 0) Z dX7_readsHead_8 (by decide) ?_
    exact g_zret Z dX7_readsHead_9 (by rfl) (by omega) (by omega) (Or.inl ⟨rfl, _, _, rdSe_1 (if_neg (show ¬ 4 ≤ N by omega)), C, _, rfl, ⟨w1, w2, w3⟩, rfl, rfl, Me.rf⟩)
