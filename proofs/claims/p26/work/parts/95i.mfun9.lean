/-! READING, BY THE REFERENCE -/
/-- the bytes that are there -/
def RBy (R : MR) (N : Nat) (B : Nat → Nat) : Prop := R.si = nI N ∧ N ≤ 60000 ∧ ∀ i, i < N → B i < 256 ∧ R.bt i = nI (B i)
/-- work, size and bytes are as they were -/
def Rk (R Q : MR) : Prop := Q.wk = R.wk ∧ Q.si = R.si ∧ Q.bt = R.bt
theorem Rk.by {R Q : MR} {N : Nat} {B : Nat → Nat} (h : Rk R Q) (k : RBy R N B) : RBy Q N B := ⟨h.2.1.trans k.1, k.2.1, fun i hi => by rw [h.2.2]; exact k.2.2 i hi⟩
theorem Rk.rf {R : MR} : Rk R R := ⟨rfl, rfl, rfl⟩
theorem Rk.tr {R P Q : MR} (h : Rk R P) (k : Rk P Q) : Rk R Q := ⟨k.1.trans h.1, k.2.1.trans h.2.1, k.2.2.trans h.2.2⟩
theorem aa_id {R : MR} {a : Nat} (h : R.aa = nI a) : R = R.s_aa (nI a) := by rw [← h]
def RsP (A : Nat → Nat) (x : Nat) (C : C5) (R : MR) (c : Nat) (o : Rw) (r : Int32) (U : PS) : Prop := match o with
  | .inl (f, g) => r = 0 ∧ ∃ E Q, mP A x (E, Q) = U ∧ Rk R Q ∧ Q.fa = nI f ∧ Q.fp = nI g ∧ Mb c C E
  | .inr (q, W) => r = 1 ∧ ∃ E, mP A x (E, R.s_aa (nI q)) = U ∧ Mb c C E ∧ E.ky = C.ky ∧ E.kd = C.kd ∧ E.sz c = nI (tot W) ∧ ∀ l, l < 65536 → cb E.wd c l = cb W 0 l
theorem RsP.f {A : Nat → Nat} {x : Nat} {C E : C5} {R Q : MR} {c f g : Nat} {o : Rw} {U : PS} (e : o = .inl (f, g)) (h : mP A x (E, Q) = U) (h1 : Rk R Q) (h2 : Q.fa = nI f) (h3 : Q.fp = nI g) (h4 : Mb c C E) : RsP A x C R c o 0 U := by
  subst e
  exact ⟨rfl, E, Q, h, h1, h2, h3, h4⟩
theorem RsP.y {A : Nat → Nat} {x : Nat} {C E : C5} {R : MR} {c q : Nat} {W : Nat → Int64} {o : Rw} {U : PS} (e : o = .inr (q, W)) (h : mP A x (E, R.s_aa (nI q)) = U) (h1 : Mb c C E) (h2 : E.ky = C.ky) (h3 : E.kd = C.kd) (h4 : E.sz c = nI (tot W)) (h5 : ∀ l, l < 65536 → cb E.wd c l = cb W 0 l) : RsP A x C R c o 1 U := by
  subst e
  exact ⟨rfl, E, h, h1, h2, h3, h4, h5⟩
theorem RsP.r {A : Nat → Nat} {x : Nat} {C : C5} {R : MR} {c : Nat} {o : Rw} {r : Int32} {U : PS} (h : RsP A x C R c o r U) : r = 0 ∨ r = 1 := by
  rcases o with ⟨f, g⟩ | ⟨q, W⟩
  · exact Or.inl h.1
  · exact Or.inr h.1
/-- a bit that is not there is turned -/
theorem tn_rg {f g W : Nat → Int64} {c v : Nat} (hT : Tn f g c v) (hv : v < 65536) (hb : ∀ l, l < 65536 → cb f c l = cb W 0 l) (h0 : cb W 0 v = 0) : ∀ l, l < 65536 → cb g c l = cb (rg 0 v v W) 0 l := by
  intro l hl
  rw [rg1_bit 0 hv]
  by_cases e : l = v
  · subst e; rw [if_pos rfl, hT.1, hb l hl, h0]; rfl
  · rw [if_neg e, hT.2 c l hl (Or.inr e), hb l hl]
theorem Mb.wdT {c : Nat} {C : C5} {f g : Nat → Int64} {v : Nat} (h : Mb c C (C.s_wd f)) (hT : Tn f g c v) : Mb c C (C.s_wd g) := ⟨rfl, fun d hd => ⟨rfl, rfl, rfl, fun l hl => (hT.2 d l hl (Or.inl hd)).trans ((h.2 d hd).2.2.2 l hl)⟩⟩
theorem rdAr_n {B : Nat → Nat} {e m p a : Nat} {W : Nat → Int64} (h : ¬ p + 2 ≤ e) : rdAr B e (m + 1) p a W = .inl (1, e) := if_neg h
theorem rdAr_b {B : Nat → Nat} {e m p a : Nat} {W : Nat → Int64} (h : p + 2 ≤ e) (g : nuB B p 2 < a) : rdAr B e (m + 1) p a W = .inl (7, p) := (if_pos h).trans (if_pos g)
theorem rdAr_y {B : Nat → Nat} {e m p a : Nat} {W : Nat → Int64} (h : p + 2 ≤ e) (g : ¬ nuB B p 2 < a) : rdAr B e (m + 1) p a W = rdAr B e m (p + 2) (nuB B p 2 + 1) (rg 0 (nuB B p 2) (nuB B p 2) W) := (if_pos h).trans (if_neg g)
theorem nuB_8 (B : Nat → Nat) (p : Nat) : nuB B p 8 = nuB B p 4 + nuB B (p + 4) 4 * 2 ^ 32 := by
  show nuB B p 4 + B (p + 4) * 2 ^ (8 * 4) + B (p + 5) * 2 ^ (8 * 5) + B (p + 6) * 2 ^ (8 * 6) + B (p + 7) * 2 ^ (8 * 7) = nuB B p 4 + (0 + B (p + 4 + 0) * 2 ^ (8 * 0) + B (p + 4 + 1) * 2 ^ (8 * 1) + B (p + 4 + 2) * 2 ^ (8 * 2) + B (p + 4 + 3) * 2 ^ (8 * 3)) * 2 ^ 32
  rw [show p + 4 + 0 = p + 4 by omega, show p + 4 + 1 = p + 5 by omega, show p + 4 + 2 = p + 6 by omega, show p + 4 + 3 = p + 7 by omega]
  omega
theorem or32 {u v : Nat} (hu : u < 2 ^ 32) (hv : v < 2 ^ 32) : lN u ||| lN v <<< ((32 : Int32).toInt64 &&& 63) = lN (u + v * 2 ^ 32) := by
  rw [show (32 : Int32) = nI 32 from rfl, wb_shl v (by decide), wb_or (by omega) (by omega), num_or hu]
theorem sw_tot {W : Nat → Int64} {f : Nat} : ∀ n, (∀ i, i < n → f + 1 * i < 65536) → (∀ l, f ≤ l → cb W 0 l = 0) → tot (sw 0 W f 1 n) = tot W + n
  | 0, _, _ => rfl
  | n + 1, hb, h0 => by
    have ih := sw_tot n (fun i hi => hb i (by omega)) h0
    show tot (rg 0 (f + 1 * n) (f + 1 * n) (sw 0 W f 1 n)) = _
    rw [tot_rg1 (hb n (by omega)) (by rw [sw_hi (Nat.le_refl _) n (fun i hi => hb i (by omega)) _ (fun i hi => by omega)]; exact h0 _ (by omega)), ih]
    omega

set_option maxRecDepth 100000 in
set_option maxHeartbeats 2000000 in
/-- whether so many bytes are there -/
theorem f_X7_are (l : Launch) (D : va_G) (cy : Nat → ClassId) (nw : Nat) (A : Nat → Nat) (x : Nat) (ho : mOk A x) (C : C5) (R : MR) (N : Nat) (B : Nat → Nat) (hB : RBy R N B) (a : Nat) (ea : R.aa = nI a) (haN : a ≤ N) (n : Nat) (hn : n ≤ 8192) : kI l yX7_are wsX7_are 1 22 D cy nw [.ref x, .int (nI n)] (mP A x (C, R)) (fun r T => (r = 1 ∧ a + n ≤ N ∧ (mP A x (C, R)) = T) ∨ (r = 0 ∧ ¬ a + n ≤ N ∧ mP A x (C, (R.s_fa 1).s_fp (nI N)) = T)) 0 0 := by
  refine enterI (cc := cX7_are) (nL := 2) (ret := (some .boolean)) (by decide +kernel) rfl (Nat.le_of_ble_eq_true rfl) ?_
  intro F Z hl hR hD hcy hnw hnm
  subst hl hD hcy hnw
  have hRf : F.R.frames = 1 := by rw [hR]
  have hRc : F.R.cells = 0 := by rw [hR]
  have hRs : F.R.slots = 0 := by rw [hR]
  have hRl : F.R.locals = 22 := by rw [hR]
  have in6 : ∀ w ∈ u_ws RX7 TX7 16, w ∈ wsX7_are := by decide +kernel
  have lk174 : Cond.fieldLink RX7 174 (TX7 6).1 (TX7 6).2.1 (TX7 6).2.2.1 ∈ wsX7_are := by decide +kernel
  have lk183 : Cond.fieldLink RX7 183 (TX7 11).1 (TX7 11).2.1 (TX7 11).2.2.1 ∈ wsX7_are := by decide +kernel
  obtain ⟨eN, hN, -⟩ := id hB
  refine g_aload_n Z dX7_are_0 rfl ?_
  refine m_get_aa Z in6 lk183 dX7_are_1 ?_
  rw [ea]
  refine g_iload_n Z dX7_are_4 rfl ?_
  refine g_iadd Z dX7_are_5 ?_
  rw [nI_add]
  refine g_aload_n Z dX7_are_6 rfl ?_
  refine m_get_si Z in6 lk174 dX7_are_7 ?_
  rw [eN]
  refine g_icmp_le Z 25 dX7_are_10 (by decide) (fun h10 => ?_) (fun h10 => ?_)
  · have hle : a + n ≤ N := le_t (by omega) (by omega) h10
    refine g_iconst (v := 1) Z dX7_are_25 (by decide) ?_
    refine g_goto Z 30 dX7_are_26 (by decide) ?_
    exact g_zret Z dX7_are_30 (by rfl) (by omega) (by omega) (Or.inl ⟨rfl, hle, rfl⟩)
  · have hle : ¬ a + n ≤ N := fun q => h10 ((nI_leI (by omega) (by omega)).mpr q)
    refine g_aload_n Z dX7_are_13 rfl ?_
    refine g_iconst (v := 1) Z dX7_are_14 (by decide) ?_
    refine g_aload_n Z dX7_are_15 rfl ?_
    refine m_get_si Z in6 lk174 dX7_are_16 ?_
    rw [eN]
    refine g_cvI Z (c_X7_fails F.l F.D F.cy F.nw A x ho _ _ _ _) 2 gX7_are_X7_fails rfl (by decide +kernel) (by rw [hRf, hRl]; decide) (by exact mP_x) (κ := 6) (by exact mP_Kx) rfl (by decide) rfl rfl (Nat.le_of_ble_eq_true rfl) dX7_are_19 (by rw [hRc, hRs]; omega) (fun r T hp => ?_)
    obtain ⟨rfl, rfl⟩ := hp
    refine g_if_eq Z 29 dX7_are_22 (by decide) (fun h22 => ?_) (fun h22 => absurd (rfl) h22)
    refine g_iconst (v := 0) Z dX7_are_29 (by decide) ?_
    exact g_zret Z dX7_are_30 (by rfl) (by omega) (by omega) (Or.inr ⟨rfl, hle, rfl⟩)

set_option maxRecDepth 100000 in
set_option maxHeartbeats 2000000 in
/-- bytes are taken -/
theorem f_X7_taken (l : Launch) (D : va_G) (cy : Nat → ClassId) (nw : Nat) (A : Nat → Nat) (x : Nat) (ho : mOk A x) (C : C5) (R : MR) (N : Nat) (B : Nat → Nat) (hB : RBy R N B) (a : Nat) (ea : R.aa = nI a) (n : Nat) (hn : n ≤ 4) (han : a + n ≤ N) : kL l yX7_taken wsX7_taken 0 0 D cy nw [.ref x, .int (nI n)] (mP A x (C, R)) (fun r T => mP A x (C, R.s_aa (nI (a + n))) = T ∧ r = lN (nuB B a n)) 0 0 := by
  refine enterL (cc := cX7_taken) (nL := 5) (ret := (some .long)) (by decide +kernel) rfl (Nat.le_of_ble_eq_true rfl) ?_
  intro F Z hl hR hD hcy hnw hnm
  subst hl hD hcy hnw
  have hRf : F.R.frames = 0 := by rw [hR]
  have hRc : F.R.cells = 0 := by rw [hR]
  have hRs : F.R.slots = 0 := by rw [hR]
  have hRl : F.R.locals = 0 := by rw [hR]
  have in6 : ∀ w ∈ u_ws RX7 TX7 16, w ∈ wsX7_taken := by decide +kernel
  have lk32 : Cond.fieldLink RX7 32 (TX7 7).1 (TX7 7).2.1 (TX7 7).2.2.1 ∈ wsX7_taken := by decide +kernel
  have lk183 : Cond.fieldLink RX7 183 (TX7 11).1 (TX7 11).2.1 (TX7 11).2.2.1 ∈ wsX7_taken := by decide +kernel
  have loop : ∀ (i : Nat) (k : Nat), n - k < i → (k ≤ n) → G F 5 (mP A x (C, R.s_aa (nI (a + k)))) 0 0 (QL F (fun r T => mP A x (C, R.s_aa (nI (a + n))) = T ∧ r = lN (nuB B a n)) 0 0) 5 [(0, .ref x), (1, .int (nI n)), (2, .long (lN (nuB B a k))), (4, .int (nI k))] [] := by
    intro i
    induction i with
    | zero => intros; omega
    | succ i ih =>
      intro k hm hk
      have hN := hB.2.1
      refine g_iload Z dX7_taken_5 rfl ?_
      refine g_iload_n Z dX7_taken_7 rfl ?_
      refine g_icmp_ge Z 46 dX7_taken_8 (by decide) (fun h8 => ?_) (fun h8 => ?_)
      · have he : k = n := by have := ge_t (i := k) (N := n) (by omega) (by omega) h8; omega
        subst he
        refine g_lload_n Z dX7_taken_46 rfl ?_
        exact g_lret Z dX7_taken_47 (by omega) (by omega) (⟨rfl, rfl⟩)
      · have hlt : k < n := ge_f (by omega) (by omega) h8
        obtain ⟨hb, eb⟩ := hB.2.2 (a + k) (by omega)
        refine g_lload_n Z dX7_taken_11 rfl ?_
        refine g_aload_n Z dX7_taken_12 rfl ?_
        refine m_ref_bt Z in6 lk32 dX7_taken_13 ?_
        refine g_aload_n Z dX7_taken_16 rfl ?_
        refine m_get_aa Z in6 lk183 dX7_taken_17 ?_
        refine m_ald_bt Z ho dX7_taken_20 (by exact vp_in_nI (by omega) (by decide)) ?_
        rw [nI_clamp (by omega), show MR.bt (R.s_aa (nI (a + k))) (a + k) = nI (B (a + k)) from eb]
        refine g_i2l Z dX7_taken_21 ?_
        refine g_bipush (v := 8) Z dX7_taken_22 (by decide) ?_
        refine g_iload Z dX7_taken_24 rfl ?_
        refine g_imul Z dX7_taken_26 ?_
        refine g_lshl Z dX7_taken_27 ?_
        refine g_ladd Z dX7_taken_28 ?_
        rw [tk_add (by omega) hb]
        refine g_lstore_n Z dX7_taken_29 (by decide) ?_
        refine g_aload_n Z dX7_taken_30 rfl ?_
        refine g_dup Z dX7_taken_31 rfl ?_
        refine m_get_aa Z in6 lk183 dX7_taken_32 ?_
        refine g_iconst (v := 1) Z dX7_taken_35 (by decide) ?_
        refine g_iadd Z dX7_taken_36 ?_
        rw [nI_1]
        refine m_put_aa Z in6 lk183 dX7_taken_37 ?_
        refine g_iinc (c := 1) Z dX7_taken_40 rfl (by decide) (by decide) ?_
        rw [nI_1]
        refine g_goto Z 5 dX7_taken_43 (by decide) ?_
        exact g_lv (by (repeat (first | exact trivial | refine And.intro rfl ?_)); done) (ih (k + 1) (by omega) (by omega))
  refine g_st (congrArg (fun q => mP A x (C, q)) (aa_id ea)) ?_
  refine g_lconst (v := 0) Z dX7_taken_0 (by decide) ?_
  refine g_lstore_n Z dX7_taken_1 (by decide) ?_
  refine g_iconst (v := 0) Z dX7_taken_2 (by decide) ?_
  refine g_istore Z dX7_taken_3 (by decide) ?_
  exact g_lv (by (repeat (first | exact trivial | refine And.intro rfl ?_)); done) (loop (n + 1) 0 (by omega) (by omega))

set_option maxRecDepth 100000 in
set_option maxHeartbeats 2000000 in
/-- an array is read -/
theorem f_X7_readsArray (l : Launch) (D : va_G) (cy : Nat → ClassId) (nw : Nat) (A : Nat → Nat) (x : Nat) (ho : mOk A x) (C : C5) (R : MR) (N : Nat) (B : Nat → Nat) (hB : RBy R N B) (a : Nat) (ea : R.aa = nI a) (haN : a ≤ N) (c : Nat) (hc : c < 102) (hz : ∀ l, l < 65536 → cb C.wd c l = 0) (hs0 : C.sz c = 0) (h : Nat) (hh : h ≤ 65536) : kI l yX7_readsArray wsX7_readsArray 2 43 D cy nw [.ref x, .int (nI c), .int (nI h)] (mP A x (C, R)) (fun r T => RsP A x C R c (rdAr B N h a 0 zW) r T) 0 0 := by
  refine enterI (cc := cX7_readsArray) (nL := 6) (ret := (some .boolean)) (by decide +kernel) rfl (Nat.le_of_ble_eq_true rfl) ?_
  intro F Z hl hR hD hcy hnw hnm
  subst hl hD hcy hnw
  have hRf : F.R.frames = 2 := by rw [hR]
  have hRc : F.R.cells = 0 := by rw [hR]
  have hRs : F.R.slots = 0 := by rw [hR]
  have hRl : F.R.locals = 43 := by rw [hR]
  have in6 : ∀ w ∈ u_ws RX7 TX7 16, w ∈ wsX7_readsArray := by decide +kernel
  have lk19 : Cond.fieldLink RX7 19 (TX7 3).1 (TX7 3).2.1 (TX7 3).2.2.1 ∈ wsX7_readsArray := by decide +kernel
  have lk183 : Cond.fieldLink RX7 183 (TX7 11).1 (TX7 11).2.1 (TX7 11).2.2.1 ∈ wsX7_readsArray := by decide +kernel
  have hN := hB.2.1
  have loop : ∀ (i : Nat) (k L b : Nat) (g : Nat → Int64) (W : Nat → Int64), h - k < i → (k ≤ h ∧ b ≤ N ∧ L ≤ 65536 ∧ Mb c C (C.s_wd g) ∧ (∀ l, l < 65536 → cb g c l = cb W 0 l) ∧ (∀ l, L ≤ l → cb W 0 l = 0) ∧ tot W = k ∧ rdAr B N (h - k) b L W = (rdAr B N h a 0 zW)) → G F 6 (mP A x (C.s_wd g, R.s_aa (nI b))) 0 0 (QI F (fun r T => RsP A x C R c (rdAr B N h a 0 zW) r T) 0 0) 5 [(0, .ref x), (1, .int (nI c)), (2, .int (nI h)), (3, .int (nI L - 1)), (4, .int (nI k))] [] := by
    intro i
    induction i with
    | zero => intros; omega
    | succ i ih =>
      intro k L b g W hm ⟨hk, hb, hL, hC, hbits, h0, htot, hO⟩
      have hby : RBy (R.s_aa (nI b)) N B := hB
      refine g_iload Z dX7_readsArray_5 rfl ?_
      refine g_iload_n Z dX7_readsArray_7 rfl ?_
      refine g_icmp_ge Z 64 dX7_readsArray_8 (by decide) (fun h8 => ?_) (fun h8 => ?_)
      · have he : k = h := by have := ge_t (i := k) (N := h) (by omega) (by omega) h8; omega
        subst he
        rw [show k - k = 0 by omega] at hO
        refine g_aload_n Z dX7_readsArray_64 rfl ?_
        refine m_ref_sz Z in6 lk19 dX7_readsArray_65 ?_
        refine g_iload_n Z dX7_readsArray_68 rfl ?_
        refine g_iload_n Z dX7_readsArray_69 rfl ?_
        refine m_ast_sz Z ho dX7_readsArray_70 (by exact vp_in_nI (by omega) (by decide)) ?_
        rw [nI_clamp (by omega)]
        refine g_iconst (v := 1) Z dX7_readsArray_71 (by decide) ?_
        exact g_zret Z dX7_readsArray_72 (by rfl) (by omega) (by omega) (RsP.y hO.symm rfl ⟨rfl, fun d hd => ⟨rfl, rfl, pk_un hd, (hC.2 d hd).2.2.2⟩⟩ rfl rfl (pk_us.trans (congrArg nI htot.symm)) hbits)
      · have hlt : k < h := ge_f (by omega) (by omega) h8
        obtain ⟨m2, hm2⟩ : ∃ m2, h - k = m2 + 1 := ⟨h - k - 1, by omega⟩
        have hm3 : h - (k + 1) = m2 := by omega
        rw [hm2] at hO
        refine g_aload_n Z dX7_readsArray_11 rfl ?_
        refine g_iconst (v := 2) Z dX7_readsArray_12 (by decide) ?_
        refine g_cvI Z (f_X7_are F.l F.D F.cy F.nw A x ho _ (R.s_aa (nI b)) N B hby b rfl (by omega) 2 (by omega)) 1 gX7_readsArray_X7_are rfl (by decide +kernel) (by rw [hRf, hRl]; decide) (by exact mP_x) (κ := 6) (by exact mP_Kx) rfl (by decide) rfl rfl (Nat.le_of_ble_eq_true rfl) dX7_readsArray_13 (by rw [hRc, hRs]; omega) (fun r T1 hp => ?_)
        rcases hp with ⟨rfl, hle, rfl⟩ | ⟨rfl, hle, rfl⟩
        · refine g_if_ne Z 21 dX7_readsArray_16 (by decide) (fun h16 => ?_) (fun h16 => absurd h16 (by decide))
          refine g_aload_n Z dX7_readsArray_21 rfl ?_
          refine g_iconst (v := 2) Z dX7_readsArray_22 (by decide) ?_
          refine g_cvL Z (f_X7_taken F.l F.D F.cy F.nw A x ho _ (R.s_aa (nI b)) N B hby b rfl 2 (by decide) (by omega)) 1 gX7_readsArray_X7_taken rfl (by decide +kernel) (by rw [hRf, hRl]; decide) (by exact mP_x) (κ := 6) (by exact mP_Kx) rfl (by decide) rfl rfl (Nat.le_of_ble_eq_true rfl) dX7_readsArray_23 (by rw [hRc, hRs]; omega) (fun r T2 hp => ?_)
          obtain ⟨rfl, rfl⟩ := hp
          refine g_l2i Z dX7_readsArray_26 ?_
          rw [lN_i]
          have hv : nuB B b 2 < 65536 := nu2 (fun i hi => (hB.2.2 _ (by omega)).1)
          refine g_istore Z dX7_readsArray_27 (by decide) ?_
          refine g_iload Z dX7_readsArray_29 rfl ?_
          refine g_iload_n Z dX7_readsArray_31 rfl ?_
          refine g_icmp_gt Z 48 dX7_readsArray_32 (by decide) (fun h32 => ?_) (fun h32 => ?_)
          · have hge := ah_t hv hL h32
            rw [rdAr_y hle hge] at hO
            refine g_iload Z dX7_readsArray_48 rfl ?_
            refine g_istore_n Z dX7_readsArray_50 (by decide) ?_
            refine g_aload_n Z dX7_readsArray_51 rfl ?_
            refine g_iload_n Z dX7_readsArray_52 rfl ?_
            refine g_iload Z dX7_readsArray_53 rfl ?_
            refine g_cvV Z (c_X7_turn F.l F.D F.cy F.nw A x ho _ _ _ _ hc (by omega)) 2 gX7_readsArray_X7_turn rfl (by decide +kernel) (by rw [hRf, hRl]; decide) (by exact mP_x) (κ := 6) (by exact mP_Kx) rfl (by decide) rfl rfl (Nat.le_of_ble_eq_true rfl) dX7_readsArray_55 (by rw [hRc, hRs]; omega) (fun T4 hp => ?_)
            obtain ⟨g2, rfl, hT⟩ := hp
            have hz0 := h0 (nuB B b 2) (by omega)
            have hb2 := tn_rg hT hv hbits hz0
            refine g_iinc (c := 1) Z dX7_readsArray_58 rfl (by decide) (by decide) ?_
            rw [nI_1]
            refine g_goto Z 5 dX7_readsArray_61 (by decide) ?_
            have hih := ih (k + 1) (nuB B b 2 + 1) (b + 2) g2 (rg 0 (nuB B b 2) (nuB B b 2) W) (by omega) ⟨by omega, by omega, by omega, hC.wdT hT, hb2, fun l hl => by rw [rg1_bit 0 hv, if_neg (by omega)]; exact h0 l (by omega), by rw [tot_rg1 hv hz0, htot], by rw [hm3]; exact hO⟩
            rw [show nI (nuB B b 2 + 1) - 1 = nI (nuB B b 2) from nI_sb (b := 1) (by omega)] at hih
            exact g_lv (by (repeat (first | exact trivial | refine And.intro rfl ?_)); done) hih
          · have hge := ah_f hv hL h32
            refine g_aload_n Z dX7_readsArray_35 rfl ?_
            refine g_bipush (v := 7) Z dX7_readsArray_36 (by decide) ?_
            refine g_aload_n Z dX7_readsArray_38 rfl ?_
            refine m_get_aa Z in6 lk183 dX7_readsArray_39 ?_
            refine g_iconst (v := 2) Z dX7_readsArray_42 (by decide) ?_
            refine g_isub Z dX7_readsArray_43 ?_
            rw [show nI (b + 2) - 2 = nI b from (nI_sb (b := 2) (by omega)).trans (congrArg nI (by omega))]
            refine g_cvI Z (c_X7_fails F.l F.D F.cy F.nw A x ho _ _ _ _) 2 gX7_readsArray_X7_fails rfl (by decide +kernel) (by rw [hRf, hRl]; decide) (by exact mP_x) (κ := 6) (by exact mP_Kx) rfl (by decide) rfl rfl (Nat.le_of_ble_eq_true rfl) dX7_readsArray_44 (by rw [hRc, hRs]; omega) (fun r T3 hp => ?_)
            obtain ⟨rfl, rfl⟩ := hp
            exact g_zret Z dX7_readsArray_47 (by rfl) (by omega) (by omega) (RsP.f (hO.symm.trans (rdAr_b hle hge)) rfl ⟨rfl, rfl, rfl⟩ rfl rfl hC)
        · refine g_if_ne Z 21 dX7_readsArray_16 (by decide) (fun h16 => absurd (rfl) h16) (fun h16 => ?_)
          refine g_iconst (v := 0) Z dX7_readsArray_19 (by decide) ?_
          exact g_zret Z dX7_readsArray_20 (by rfl) (by omega) (by omega) (RsP.f (hO.symm.trans (rdAr_n hle)) rfl ⟨rfl, rfl, rfl⟩ rfl rfl hC)
  refine g_st (congrArg (fun q => mP A x (C, q)) (aa_id ea)) ?_
  refine g_iconst (v := (-1)) Z dX7_readsArray_0 (by decide) ?_
  refine g_istore_n Z dX7_readsArray_1 (by decide) ?_
  refine g_iconst (v := 0) Z dX7_readsArray_2 (by decide) ?_
  refine g_istore Z dX7_readsArray_3 (by decide) ?_
  exact g_lv (by (repeat (first | exact trivial | refine And.intro rfl ?_)); done) (loop (h + 1) 0 0 a C.wd zW (by omega) ⟨by omega, haN, by omega, Mb.rf, fun l hl => (hz l hl).trans (zW_bit l).symm, fun l _ => zW_bit l, tot_zW, rfl⟩)

set_option maxRecDepth 100000 in
set_option maxHeartbeats 2000000 in
/-- a bitmap is read -/
theorem f_X7_readsBitmap (l : Launch) (D : va_G) (cy : Nat → ClassId) (nw : Nat) (A : Nat → Nat) (x : Nat) (ho : mOk A x) (C : C5) (R : MR) (N : Nat) (B : Nat → Nat) (hB : RBy R N B) (a : Nat) (ea : R.aa = nI a) (haN : a ≤ N) (c : Nat) (hc : c < 102) (hz : ∀ l, l < 65536 → cb C.wd c l = 0) (hs0 : C.sz c = 0) (h : Nat) (hh : h ≤ 65536) : kI l yX7_readsBitmap wsX7_readsBitmap 2 43 D cy nw [.ref x, .int (nI c), .int (nI h)] (mP A x (C, R)) (fun r T => RsP A x C R c (rdBm B N h a zW) r T) 0 0 := by
  refine enterI (cc := cX7_readsBitmap) (nL := 6) (ret := (some .boolean)) (by decide +kernel) rfl (Nat.le_of_ble_eq_true rfl) ?_
  intro F Z hl hR hD hcy hnw hnm
  subst hl hD hcy hnw
  have hRf : F.R.frames = 2 := by rw [hR]
  have hRc : F.R.cells = 0 := by rw [hR]
  have hRs : F.R.slots = 0 := by rw [hR]
  have hRl : F.R.locals = 43 := by rw [hR]
  have in6 : ∀ w ∈ u_ws RX7 TX7 16, w ∈ wsX7_readsBitmap := by decide +kernel
  have lk19 : Cond.fieldLink RX7 19 (TX7 3).1 (TX7 3).2.1 (TX7 3).2.2.1 ∈ wsX7_readsBitmap := by decide +kernel
  have lk23 : Cond.fieldLink RX7 23 (TX7 4).1 (TX7 4).2.1 (TX7 4).2.2.1 ∈ wsX7_readsBitmap := by decide +kernel
  have lk183 : Cond.fieldLink RX7 183 (TX7 11).1 (TX7 11).2.1 (TX7 11).2.2.1 ∈ wsX7_readsBitmap := by decide +kernel
  have hN := hB.2.1
  have loop : ∀ (i : Nat) (k : Nat) (D : C5), 1024 - k < i → (k ≤ 1024 ∧ a + 8192 ≤ N ∧ Mb c C D ∧ D.ky = C.ky ∧ D.kd = C.kd ∧ D.sz c = nI (ct D.wd c (64 * k)) ∧ ∀ j, j < k → D.wd (1024 * c + j) = lN (nuB B (a + 8 * j) 8)) → G F 6 (mP A x (D, R.s_aa (nI (a + 8 * k)))) 0 0 (QI F (fun r T => RsP A x C R c (rdBm B N h a zW) r T) 0 0) 14 [(0, .ref x), (1, .int (nI c)), (2, .int (nI h)), (3, .int (nI k))] [] := by
    intro i
    induction i with
    | zero => intros; omega
    | succ i ih =>
      intro k D hm ⟨hk, hle, hC, hky, hkd, hsz, hwd⟩
      have hby : ∀ b, RBy (R.s_aa (nI b)) N B := fun b => hB
      refine g_iload_n Z dX7_readsBitmap_14 rfl ?_
      refine g_sipush (v := 1024) Z dX7_readsBitmap_15 (by decide) ?_
      refine g_icmp_ge Z 81 dX7_readsBitmap_18 (by decide) (fun h18 => ?_) (fun h18 => ?_)
      · have he : k = 1024 := by have := ge_t (i := k) (N := 1024) (by omega) (by decide) h18; omega
        subst he
        have hbits : ∀ l, l < 65536 → cb D.wd c l = cb (bmU B a zW 1024) 0 l := fun l hl => cb_w (fun j hj => (hwd j hj).trans (if_pos hj).symm) hl
        have hszD : D.sz c = nI (tot (bmU B a zW 1024)) := by rw [hsz, show 64 * 1024 = 65536 from rfl, cnt_tot hbits]
        have htl := tot_le (bmU B a zW 1024)
        refine g_aload_n Z dX7_readsBitmap_81 rfl ?_
        refine m_ref_sz Z in6 lk19 dX7_readsBitmap_82 ?_
        refine g_iload_n Z dX7_readsBitmap_85 rfl ?_
        refine m_ald_sz Z ho dX7_readsBitmap_86 (by exact vp_in_nI (by omega) (by decide)) ?_
        rw [nI_clamp (by omega), hszD]
        refine g_iload_n Z dX7_readsBitmap_87 rfl ?_
        refine g_icmp_eq Z 104 dX7_readsBitmap_88 (by decide) (fun h88 => ?_) (fun h88 => ?_)
        · have hte : tot (bmU B a zW 1024) = h := (nI_eq (by omega) (by omega)).mp h88
          refine g_iconst (v := 1) Z dX7_readsBitmap_104 (by decide) ?_
          refine g_goto Z 109 dX7_readsBitmap_105 (by decide) ?_
          exact g_zret Z dX7_readsBitmap_109 (by rfl) (by omega) (by omega) (RsP.y ((if_pos hle).trans (if_pos hte)) rfl hC hky hkd hszD hbits)
        · have hte : ¬ tot (bmU B a zW 1024) = h := fun q => h88 (by rw [q])
          refine g_aload_n Z dX7_readsBitmap_91 rfl ?_
          refine g_bipush (v := 8) Z dX7_readsBitmap_92 (by decide) ?_
          refine g_aload_n Z dX7_readsBitmap_94 rfl ?_
          refine m_get_aa Z in6 lk183 dX7_readsBitmap_95 ?_
          refine g_cvI Z (c_X7_fails F.l F.D F.cy F.nw A x ho _ _ _ _) 2 gX7_readsBitmap_X7_fails rfl (by decide +kernel) (by rw [hRf, hRl]; decide) (by exact mP_x) (κ := 6) (by exact mP_Kx) rfl (by decide) rfl rfl (Nat.le_of_ble_eq_true rfl) dX7_readsBitmap_98 (by rw [hRc, hRs]; omega) (fun r T4 hp => ?_)
          obtain ⟨rfl, rfl⟩ := hp
          refine g_if_eq Z 108 dX7_readsBitmap_101 (by decide) (fun h101 => ?_) (fun h101 => absurd (rfl) h101)
          refine g_iconst (v := 0) Z dX7_readsBitmap_108 (by decide) ?_
          exact g_zret Z dX7_readsBitmap_109 (by rfl) (by omega) (by omega) (RsP.f ((if_pos hle).trans (if_neg hte)) rfl ⟨rfl, rfl, rfl⟩ rfl rfl hC)
      · have hlt : k < 1024 := ge_f (by omega) (by decide) h18
        have hu : nuB B (a + 8 * k) 4 < 2 ^ 32 := nuB_lt 4 (fun i hi => (hB.2.2 _ (by omega)).1)
        have hu2 : nuB B (a + 8 * k + 4) 4 < 2 ^ 32 := nuB_lt 4 (fun i hi => (hB.2.2 _ (by omega)).1)
        refine g_aload_n Z dX7_readsBitmap_21 rfl ?_
        refine g_iconst (v := 4) Z dX7_readsBitmap_22 (by decide) ?_
        refine g_cvL Z (f_X7_taken F.l F.D F.cy F.nw A x ho _ (R.s_aa (nI (a + 8 * k))) N B (hby _) (a + 8 * k) rfl 4 (by decide) (by omega)) 1 gX7_readsBitmap_X7_taken rfl (by decide +kernel) (by rw [hRf, hRl]; decide) (by exact mP_x) (κ := 6) (by exact mP_Kx) rfl (by decide) rfl rfl (Nat.le_of_ble_eq_true rfl) dX7_readsBitmap_23 (by rw [hRc, hRs]; omega) (fun r T1 hp => ?_)
        obtain ⟨rfl, rfl⟩ := hp
        refine g_lstore Z dX7_readsBitmap_26 (by decide) ?_
        refine g_aload_n Z dX7_readsBitmap_28 rfl ?_
        refine m_ref_wd Z in6 lk23 dX7_readsBitmap_29 ?_
        refine g_sipush (v := 1024) Z dX7_readsBitmap_32 (by decide) ?_
        refine g_iload_n Z dX7_readsBitmap_35 rfl ?_
        refine g_imul Z dX7_readsBitmap_36 ?_
        refine g_iload_n Z dX7_readsBitmap_37 rfl ?_
        refine g_iadd Z dX7_readsBitmap_38 ?_
        rw [ixw]
        refine g_lload Z dX7_readsBitmap_39 rfl ?_
        refine g_aload_n Z dX7_readsBitmap_41 rfl ?_
        refine g_iconst (v := 4) Z dX7_readsBitmap_42 (by decide) ?_
        refine g_cvL Z (f_X7_taken F.l F.D F.cy F.nw A x ho _ (R.s_aa (nI (a + 8 * k + 4))) N B (hby _) (a + 8 * k + 4) rfl 4 (by decide) (by omega)) 1 gX7_readsBitmap_X7_taken rfl (by decide +kernel) (by rw [hRf, hRl]; decide) (by exact mP_x) (κ := 6) (by exact mP_Kx) rfl (by decide) rfl rfl (Nat.le_of_ble_eq_true rfl) dX7_readsBitmap_43 (by rw [hRc, hRs]; omega) (fun r T2 hp => ?_)
        obtain ⟨rfl, rfl⟩ := hp
        refine g_bipush (v := 32) Z dX7_readsBitmap_46 (by decide) ?_
        refine g_lshl Z dX7_readsBitmap_48 ?_
        refine g_lor Z dX7_readsBitmap_49 ?_
        refine m_ast_wd Z ho dX7_readsBitmap_50 (by exact vp_in_nI (by omega) (by decide)) ?_
        rw [nI_clamp (by omega), or32 hu hu2, ← nuB_8]
        obtain ⟨s1, s2⟩ := wd_stp (v := (lN (nuB B (a + 8 * k) 8))) hlt hC hsz
        refine g_aload_n Z dX7_readsBitmap_51 rfl ?_
        refine m_ref_sz Z in6 lk19 dX7_readsBitmap_52 ?_
        refine g_iload_n Z dX7_readsBitmap_55 rfl ?_
        refine g_dup2 Z dX7_readsBitmap_56 rfl rfl ?_
        refine m_ald_sz Z ho dX7_readsBitmap_57 (by exact vp_in_nI (by omega) (by decide)) ?_
        rw [nI_clamp (by omega)]
        refine g_aload_n Z dX7_readsBitmap_58 rfl ?_
        refine m_ref_wd Z in6 lk23 dX7_readsBitmap_59 ?_
        refine g_sipush (v := 1024) Z dX7_readsBitmap_62 (by decide) ?_
        refine g_iload_n Z dX7_readsBitmap_65 rfl ?_
        refine g_imul Z dX7_readsBitmap_66 ?_
        refine g_iload_n Z dX7_readsBitmap_67 rfl ?_
        refine g_iadd Z dX7_readsBitmap_68 ?_
        rw [ixw]
        refine m_ald_wd Z ho dX7_readsBitmap_69 (by exact vp_in_nI (by omega) (by decide)) ?_
        rw [nI_clamp (by omega)]
        rw [show ∀ (u : Int64), (C5.wd (D.s_wd (vp_updL D.wd (1024 * c + k) u))) (1024 * c + k) = u from fun u => pk_uLs]
        refine g_csI Z (c_X7_bitsOf F.l F.D F.cy F.nw _ _) 1 gX7_readsBitmap_X7_bitsOf rfl (by decide +kernel) (by rw [hRf, hRl]; decide) rfl rfl (Nat.le_of_ble_eq_true rfl) dX7_readsBitmap_70 (by rw [hRc, hRs]; omega) (fun r T3 hp => ?_)
        obtain ⟨rfl, rfl⟩ := hp
        refine g_iadd Z dX7_readsBitmap_73 ?_
        refine m_ast_sz Z ho dX7_readsBitmap_74 (by exact vp_in_nI (by omega) (by decide)) ?_
        rw [nI_clamp (by omega)]
        refine g_iinc (c := 1) Z dX7_readsBitmap_75 rfl (by decide) (by decide) ?_
        rw [nI_1]
        refine g_goto Z 14 dX7_readsBitmap_78 (by decide) ?_
        rw [show a + 8 * k + 4 + 4 = a + 8 * (k + 1) by omega]
        exact g_lv (by (repeat (first | exact trivial | refine And.intro rfl ?_)); done) (ih (k + 1) _ (by omega) ⟨by omega, hle, s1, hky, hkd, s2, fun j hj => by
          by_cases e : j = k
          · subst e; exact pk_uLs
          · exact (pk_uLn (by omega)).trans (hwd j (by omega))⟩)
  refine g_aload_n Z dX7_readsBitmap_0 rfl ?_
  refine g_sipush (v := 8192) Z dX7_readsBitmap_1 (by decide) ?_
  refine g_cvI Z (f_X7_are F.l F.D F.cy F.nw A x ho _ R N B hB a ea (by omega) 8192 (by omega)) 1 gX7_readsBitmap_X7_are rfl (by decide +kernel) (by rw [hRf, hRl]; decide) (by exact mP_x) (κ := 6) (by exact mP_Kx) rfl (by decide) rfl rfl (Nat.le_of_ble_eq_true rfl) dX7_readsBitmap_4 (by rw [hRc, hRs]; omega) (fun r T1 hp => ?_)
  rcases hp with ⟨rfl, hle, rfl⟩ | ⟨rfl, hle, rfl⟩
  · refine g_if_ne Z 12 dX7_readsBitmap_7 (by decide) (fun h7 => ?_) (fun h7 => absurd h7 (by decide))
    refine g_iconst (v := 0) Z dX7_readsBitmap_12 (by decide) ?_
    refine g_istore_n Z dX7_readsBitmap_13 (by decide) ?_
    refine g_st (congrArg (fun q => mP A x (C, q)) (aa_id ea)) ?_
    exact g_lv (by (repeat (first | exact trivial | refine And.intro rfl ?_)); done) (loop 1025 0 C (by omega) ⟨by omega, hle, Mb.rf, rfl, rfl, hs0, fun j hj => by omega⟩)
  · refine g_if_ne Z 12 dX7_readsBitmap_7 (by decide) (fun h7 => absurd (rfl) h7) (fun h7 => ?_)
    refine g_iconst (v := 0) Z dX7_readsBitmap_10 (by decide) ?_
    exact g_zret Z dX7_readsBitmap_11 (by rfl) (by omega) (by omega) (RsP.f (if_neg hle) rfl ⟨rfl, rfl, rfl⟩ rfl rfl Mb.rf)

set_option maxRecDepth 100000 in
set_option maxHeartbeats 2000000 in
/-- runs are read -/
theorem f_X7_readsRuns (l : Launch) (D : va_G) (cy : Nat → ClassId) (nw : Nat) (A : Nat → Nat) (x : Nat) (ho : mOk A x) (C : C5) (R : MR) (N : Nat) (B : Nat → Nat) (hB : RBy R N B) (a : Nat) (ea : R.aa = nI a) (haN : a ≤ N) (c : Nat) (hc : c < 102) (hz : ∀ l, l < 65536 → cb C.wd c l = 0) (hs0 : C.sz c = 0) (h : Nat) (hh : h ≤ 65536) : kI l yX7_readsRuns wsX7_readsRuns 2 43 D cy nw [.ref x, .int (nI c), .int (nI h)] (mP A x (C, R)) (fun r T => RsP A x C R c (rdRn B N h a zW) r T) 0 0 := by
  refine enterI (cc := cX7_readsRuns) (nL := 9) (ret := (some .boolean)) (by decide +kernel) rfl (Nat.le_of_ble_eq_true rfl) ?_
  intro F Z hl hR hD hcy hnw hnm
  subst hl hD hcy hnw
  have hRf : F.R.frames = 2 := by rw [hR]
  have hRc : F.R.cells = 0 := by rw [hR]
  have hRs : F.R.slots = 0 := by rw [hR]
  have hRl : F.R.locals = 43 := by rw [hR]
  have in6 : ∀ w ∈ u_ws RX7 TX7 16, w ∈ wsX7_readsRuns := by decide +kernel
  have lk19 : Cond.fieldLink RX7 19 (TX7 3).1 (TX7 3).2.1 (TX7 3).2.2.1 ∈ wsX7_readsRuns := by decide +kernel
  have lk183 : Cond.fieldLink RX7 183 (TX7 11).1 (TX7 11).2.1 (TX7 11).2.2.1 ∈ wsX7_readsRuns := by decide +kernel
  have ct74 : Cond.constant RX7 74 (65535) ∈ wsX7_readsRuns := by decide +kernel
  have hN := hB.2.1
  have hby : ∀ b, RBy (R.s_aa (nI b)) N B := fun b => hB
  have loop : ∀ (rr : Nat), rr < 65536 → ∀ (i : Nat) (k L b : Nat) (y : Int32) (g W : Nat → Int64), rr - k < i → (k ≤ rr ∧ b ≤ N ∧ y + 2 = nI L ∧ L ≤ 65537 ∧ Mb c C (C.s_wd g) ∧ (∀ l, l < 65536 → cb g c l = cb W 0 l) ∧ (∀ l, L ≤ l → cb W 0 l = 0) ∧ rdFi h (rdRl B N (rr - k) b L W) = (rdRn B N h a zW)) → G F 9 (mP A x ((C.s_wd g).s_sz (upd C.sz c (nI (tot W))), R.s_aa (nI b))) 0 0 (QI F (fun r T => RsP A x C R c (rdRn B N h a zW) r T) 0 0) 24 [(0, .ref x), (1, .int (nI c)), (2, .int (nI h)), (3, .int (nI rr)), (4, .int y), (5, .int (nI k))] [] := by
    intro rr hrr i
    induction i with
    | zero => intros; omega
    | succ i ih =>
      intro k L b y g W hm ⟨hk, hb, hy, hL, hC, hbits, h0, hO⟩
      have htl := tot_le W
      have hCs : ∀ (g' : Nat → Int64) (t' : Int32), Mb c C (C.s_wd g') → Mb c C ((C.s_wd g').s_sz (upd C.sz c t')) := fun g' t' hg => ⟨rfl, fun d hd => ⟨rfl, rfl, pk_un hd, (hg.2 d hd).2.2.2⟩⟩
      have lay : ∀ (f e b3 : Nat), k < rr → L ≤ f → f ≤ e → e ≤ 65535 → b3 ≤ N → rdFi h (rdRl B N (rr - (k + 1)) b3 (e + 2) (rg 0 f e W)) = (rdRn B N h a zW) → ∀ (n q : Nat) (g2 : Nat → Int64), e + 1 - q < n → (f ≤ q ∧ q ≤ e + 1 ∧ Mb c C (C.s_wd g2) ∧ ∀ l, l < 65536 → cb g2 c l = cb (sw 0 W f 1 (q - f)) 0 l) → G F 9 (mP A x ((C.s_wd g2).s_sz (upd C.sz c (nI (tot W))), R.s_aa (nI b3))) 0 0 (QI F (fun r T => RsP A x C R c (rdRn B N h a zW) r T) 0 0) 102 [(0, .ref x), (1, .int (nI c)), (2, .int (nI h)), (3, .int (nI rr)), (4, .int y), (5, .int (nI k)), (6, .int (nI f)), (7, .int (nI e)), (8, .int (nI q))] [] := by
        intro f e b3 hlt hLf hfe he hb3 hO3 n
        induction n with
        | zero => intros; omega
        | succ n ih2 =>
          intro q g2 hn ⟨hfq, hqe, hC2, hb2⟩
          refine g_iload Z dX7_readsRuns_102 rfl ?_
          refine g_iload Z dX7_readsRuns_104 rfl ?_
          refine g_icmp_gt Z 122 dX7_readsRuns_106 (by decide) (fun h106 => ?_) (fun h106 => ?_)
          · have hq1 : q = e + 1 := by have := lt_t (i := e) (N := q) (by omega) (by omega) h106; omega
            subst hq1
            rw [show e + 1 - f = e - f + 1 by omega] at hb2
            have htt := sw_tot (W := W) (f := f) (e - f + 1) (fun i hi => by omega) (fun l hl => h0 l (by omega))
            rw [sw_rg hfe (by omega)] at hb2 htt
            refine g_aload_n Z dX7_readsRuns_122 rfl ?_
            refine m_ref_sz Z in6 lk19 dX7_readsRuns_123 ?_
            refine g_iload_n Z dX7_readsRuns_126 rfl ?_
            refine g_dup2 Z dX7_readsRuns_127 rfl rfl ?_
            refine m_ald_sz Z ho dX7_readsRuns_128 (by exact vp_in_nI (by omega) (by decide)) ?_
            rw [nI_clamp (by omega), show (C5.sz ((C.s_wd g2).s_sz (upd C.sz c (nI (tot W))))) c = nI (tot W) from pk_us]
            refine g_iload Z dX7_readsRuns_129 rfl ?_
            refine g_iload Z dX7_readsRuns_131 rfl ?_
            refine g_isub Z dX7_readsRuns_133 ?_
            rw [pk_sub hfe]
            refine g_iconst (v := 1) Z dX7_readsRuns_134 (by decide) ?_
            refine g_iadd Z dX7_readsRuns_135 ?_
            rw [nI_1]
            refine g_iadd Z dX7_readsRuns_136 ?_
            rw [nI_add, ← htt]
            refine m_ast_sz Z ho dX7_readsRuns_137 (by exact vp_in_nI (by omega) (by decide)) ?_
            rw [nI_clamp (by omega), show upd (C5.sz ((C.s_wd g2).s_sz (upd C.sz c (nI (tot W))))) c (nI (tot (rg 0 f e W))) = upd C.sz c (nI (tot (rg 0 f e W))) from upd_upd]
            refine g_iload Z dX7_readsRuns_138 rfl ?_
            refine g_istore Z dX7_readsRuns_140 (by decide) ?_
            refine g_iinc (c := 1) Z dX7_readsRuns_142 rfl (by decide) (by decide) ?_
            rw [nI_1]
            refine g_goto Z 24 dX7_readsRuns_145 (by decide) ?_
            exact g_lv (by (repeat (first | exact trivial | refine And.intro rfl ?_)); done) (ih (k + 1) (e + 2) b3 _ g2 (rg 0 f e W) (by omega) ⟨by omega, hb3, nI_add e 2, by omega, hC2, hb2, fun l hl => by rw [rg_bit 0 (by omega), if_neg (by omega)]; exact h0 l (by omega), hO3⟩)
          · have hqe2 : q ≤ e := gt_f (by omega) (by omega) h106
            have hz0 : cb (sw 0 W f 1 (q - f)) 0 q = 0 := by rw [sw_hi (Nat.le_refl _) _ (fun i hi => by omega) _ (fun i hi => by omega)]; exact h0 q (by omega)
            refine g_aload_n Z dX7_readsRuns_109 rfl ?_
            refine g_iload_n Z dX7_readsRuns_110 rfl ?_
            refine g_iload Z dX7_readsRuns_111 rfl ?_
            refine g_cvV Z (c_X7_turn F.l F.D F.cy F.nw A x ho _ _ _ _ hc (by omega)) 2 gX7_readsRuns_X7_turn rfl (by decide +kernel) (by rw [hRf, hRl]; decide) (by exact mP_x) (κ := 6) (by exact mP_Kx) rfl (by decide) rfl rfl (Nat.le_of_ble_eq_true rfl) dX7_readsRuns_113 (by rw [hRc, hRs]; omega) (fun T4 hp => ?_)
            obtain ⟨g3, rfl, hT⟩ := hp
            have hb3' := tn_rg hT (by omega) hb2 hz0
            refine g_iinc (c := 1) Z dX7_readsRuns_116 rfl (by decide) (by decide) ?_
            rw [nI_1]
            refine g_goto Z 102 dX7_readsRuns_119 (by decide) ?_
            exact g_lv (by (repeat (first | exact trivial | refine And.intro rfl ?_)); done) (ih2 (q + 1) g3 (by omega) ⟨by omega, by omega, hC2.wdT hT, fun l hl => by rw [hb3' l hl, show q + 1 - f = (q - f) + 1 by omega]; show _ = cb (rg 0 (f + 1 * (q - f)) (f + 1 * (q - f)) (sw 0 W f 1 (q - f))) 0 l; rw [show f + 1 * (q - f) = q by omega]⟩)
      refine g_iload Z dX7_readsRuns_24 rfl ?_
      refine g_iload_n Z dX7_readsRuns_26 rfl ?_
      refine g_icmp_ge Z 148 dX7_readsRuns_27 (by decide) (fun h27 => ?_) (fun h27 => ?_)
      · have he : k = rr := by have := ge_t (i := k) (N := rr) (by omega) (by omega) h27; omega
        subst he
        rw [show k - k = 0 by omega] at hO
        refine g_aload_n Z dX7_readsRuns_148 rfl ?_
        refine m_ref_sz Z in6 lk19 dX7_readsRuns_149 ?_
        refine g_iload_n Z dX7_readsRuns_152 rfl ?_
        refine m_ald_sz Z ho dX7_readsRuns_153 (by exact vp_in_nI (by omega) (by decide)) ?_
        rw [nI_clamp (by omega), show (C5.sz ((C.s_wd g).s_sz (upd C.sz c (nI (tot W))))) c = nI (tot W) from pk_us]
        refine g_iload_n Z dX7_readsRuns_154 rfl ?_
        refine g_icmp_eq Z 171 dX7_readsRuns_155 (by decide) (fun h155 => ?_) (fun h155 => ?_)
        · have hte : tot W = h := (nI_eq (by omega) (by omega)).mp h155
          refine g_iconst (v := 1) Z dX7_readsRuns_171 (by decide) ?_
          refine g_goto Z 176 dX7_readsRuns_172 (by decide) ?_
          exact g_zret Z dX7_readsRuns_176 (by rfl) (by omega) (by omega) (RsP.y (hO.symm.trans (show (if tot W = h then Sum.inr (b, W) else Sum.inl (8, b) : Rw) = _ from if_pos hte)) rfl (hCs _ _ hC) rfl rfl pk_us hbits)
        · have hte : ¬ tot W = h := fun q => h155 (by rw [q])
          refine g_aload_n Z dX7_readsRuns_158 rfl ?_
          refine g_bipush (v := 8) Z dX7_readsRuns_159 (by decide) ?_
          refine g_aload_n Z dX7_readsRuns_161 rfl ?_
          refine m_get_aa Z in6 lk183 dX7_readsRuns_162 ?_
          refine g_cvI Z (c_X7_fails F.l F.D F.cy F.nw A x ho _ _ _ _) 2 gX7_readsRuns_X7_fails rfl (by decide +kernel) (by rw [hRf, hRl]; decide) (by exact mP_x) (κ := 6) (by exact mP_Kx) rfl (by decide) rfl rfl (Nat.le_of_ble_eq_true rfl) dX7_readsRuns_165 (by rw [hRc, hRs]; omega) (fun r T6 hp => ?_)
          obtain ⟨rfl, rfl⟩ := hp
          refine g_if_eq Z 175 dX7_readsRuns_168 (by decide) (fun h168 => ?_) (fun h168 => absurd (rfl) h168)
          refine g_iconst (v := 0) Z dX7_readsRuns_175 (by decide) ?_
          exact g_zret Z dX7_readsRuns_176 (by rfl) (by omega) (by omega) (RsP.f (hO.symm.trans (show (if tot W = h then Sum.inr (b, W) else Sum.inl (8, b) : Rw) = _ from if_neg hte)) rfl ⟨rfl, rfl, rfl⟩ rfl rfl (hCs _ _ hC))
      · have hlt : k < rr := ge_f (by omega) (by omega) h27
        obtain ⟨m2, hm2⟩ : ∃ m2, rr - k = m2 + 1 := ⟨rr - k - 1, by omega⟩
        have hm3 : rr - (k + 1) = m2 := by omega
        rw [hm2] at hO
        refine g_aload_n Z dX7_readsRuns_30 rfl ?_
        refine g_iconst (v := 2) Z dX7_readsRuns_31 (by decide) ?_
        refine g_cvI Z (f_X7_are F.l F.D F.cy F.nw A x ho _ (R.s_aa (nI b)) N B (hby _) b rfl (by omega) 2 (by omega)) 1 gX7_readsRuns_X7_are rfl (by decide +kernel) (by rw [hRf, hRl]; decide) (by exact mP_x) (κ := 6) (by exact mP_Kx) rfl (by decide) rfl rfl (Nat.le_of_ble_eq_true rfl) dX7_readsRuns_32 (by rw [hRc, hRs]; omega) (fun r T1 hp => ?_)
        rcases hp with ⟨rfl, hle, rfl⟩ | ⟨rfl, hle, rfl⟩
        · refine g_if_ne Z 40 dX7_readsRuns_35 (by decide) (fun h35 => ?_) (fun h35 => absurd h35 (by decide))
          refine g_aload_n Z dX7_readsRuns_40 rfl ?_
          refine g_iconst (v := 2) Z dX7_readsRuns_41 (by decide) ?_
          refine g_cvL Z (f_X7_taken F.l F.D F.cy F.nw A x ho _ (R.s_aa (nI b)) N B (hby _) b rfl 2 (by decide) (by omega)) 1 gX7_readsRuns_X7_taken rfl (by decide +kernel) (by rw [hRf, hRl]; decide) (by exact mP_x) (κ := 6) (by exact mP_Kx) rfl (by decide) rfl rfl (Nat.le_of_ble_eq_true rfl) dX7_readsRuns_42 (by rw [hRc, hRs]; omega) (fun r T2 hp => ?_)
          obtain ⟨rfl, rfl⟩ := hp
          refine g_l2i Z dX7_readsRuns_45 ?_
          rw [lN_i]
          have hf : nuB B b 2 < 65536 := nu2 (fun i hi => (hB.2.2 _ (by omega)).1)
          refine g_istore Z dX7_readsRuns_46 (by decide) ?_
          refine g_aload_n Z dX7_readsRuns_48 rfl ?_
          refine g_iconst (v := 2) Z dX7_readsRuns_49 (by decide) ?_
          refine g_cvI Z (f_X7_are F.l F.D F.cy F.nw A x ho _ (R.s_aa (nI (b + 2))) N B (hby _) (b + 2) rfl (by omega) 2 (by omega)) 1 gX7_readsRuns_X7_are rfl (by decide +kernel) (by rw [hRf, hRl]; decide) (by exact mP_x) (κ := 6) (by exact mP_Kx) rfl (by decide) rfl rfl (Nat.le_of_ble_eq_true rfl) dX7_readsRuns_50 (by rw [hRc, hRs]; omega) (fun r T3 hp => ?_)
          rcases hp with ⟨rfl, hle2, rfl⟩ | ⟨rfl, hle2, rfl⟩
          · refine g_if_ne Z 58 dX7_readsRuns_53 (by decide) (fun h53 => ?_) (fun h53 => absurd h53 (by decide))
            refine g_iload Z dX7_readsRuns_58 rfl ?_
            refine g_aload_n Z dX7_readsRuns_60 rfl ?_
            refine g_iconst (v := 2) Z dX7_readsRuns_61 (by decide) ?_
            refine g_cvL Z (f_X7_taken F.l F.D F.cy F.nw A x ho _ (R.s_aa (nI (b + 2))) N B (hby _) (b + 2) rfl 2 (by decide) (by omega)) 1 gX7_readsRuns_X7_taken rfl (by decide +kernel) (by rw [hRf, hRl]; decide) (by exact mP_x) (κ := 6) (by exact mP_Kx) rfl (by decide) rfl rfl (Nat.le_of_ble_eq_true rfl) dX7_readsRuns_62 (by rw [hRc, hRs]; omega) (fun r T4 hp => ?_)
            obtain ⟨rfl, rfl⟩ := hp
            refine g_l2i Z dX7_readsRuns_65 ?_
            rw [lN_i]
            have hdd : nuB B (b + 2) 2 < 65536 := nu2 (fun i hi => (hB.2.2 _ (by omega)).1)
            refine g_iadd Z dX7_readsRuns_66 ?_
            rw [nI_add]
            refine g_istore Z dX7_readsRuns_67 (by decide) ?_
            refine g_iload Z dX7_readsRuns_69 rfl ?_
            refine g_iload Z dX7_readsRuns_71 rfl ?_
            refine g_iconst (v := 2) Z dX7_readsRuns_73 (by decide) ?_
            refine g_iadd Z dX7_readsRuns_74 ?_
            rw [hy]
            refine g_icmp_lt Z 85 dX7_readsRuns_75 (by decide) (fun h75 => ?_) (fun h75 => ?_)
            · have hbad : nuB B b 2 < L ∨ 65535 < nuB B b 2 + nuB B (b + 2) 2 := Or.inl (lt_t (by omega) (by omega) h75)
              refine g_aload_n Z dX7_readsRuns_85 rfl ?_
              refine g_bipush (v := 7) Z dX7_readsRuns_86 (by decide) ?_
              refine g_aload_n Z dX7_readsRuns_88 rfl ?_
              refine m_get_aa Z in6 lk183 dX7_readsRuns_89 ?_
              refine g_iconst (v := 4) Z dX7_readsRuns_92 (by decide) ?_
              refine g_isub Z dX7_readsRuns_93 ?_
              rw [show nI (b + 2 + 2) - 4 = nI b from (nI_sb (b := 4) (by omega)).trans (congrArg nI (by omega))]
              refine g_cvI Z (c_X7_fails F.l F.D F.cy F.nw A x ho _ _ _ _) 2 gX7_readsRuns_X7_fails rfl (by decide +kernel) (by rw [hRf, hRl]; decide) (by exact mP_x) (κ := 6) (by exact mP_Kx) rfl (by decide) rfl rfl (Nat.le_of_ble_eq_true rfl) dX7_readsRuns_94 (by rw [hRc, hRs]; omega) (fun r T5 hp => ?_)
              obtain ⟨rfl, rfl⟩ := hp
              exact g_zret Z dX7_readsRuns_97 (by rfl) (by omega) (by omega) (RsP.f (hO.symm.trans (by rw [rdRl_b (show b + 4 ≤ N by omega) hbad]; rfl)) rfl ⟨rfl, rfl, rfl⟩ rfl rfl (hCs _ _ hC))
            · have hLf : L ≤ nuB B b 2 := lt_f (by omega) (by omega) h75
              refine g_iload Z dX7_readsRuns_78 rfl ?_
              refine g_ldc (v := 65535) Z dX7_readsRuns_80 ct74 ?_
              refine g_icmp_le Z 98 dX7_readsRuns_82 (by decide) (fun h82 => ?_) (fun h82 => ?_)
              · have hee : nuB B b 2 + nuB B (b + 2) 2 ≤ 65535 := le_t (N := 65535) (by omega) (by decide) h82
                rw [rdRl_y (show b + 4 ≤ N by omega) (show ¬ (nuB B b 2 < L ∨ 65535 < nuB B b 2 + nuB B (b + 2) 2) by omega), ← hm3] at hO
                refine g_iload Z dX7_readsRuns_98 rfl ?_
                refine g_istore Z dX7_readsRuns_100 (by decide) ?_
                exact g_lv (by (repeat (first | exact trivial | refine And.intro rfl ?_)); done) (lay (nuB B b 2) (nuB B b 2 + nuB B (b + 2) 2) (b + 2 + 2) hlt hLf (by omega) hee (by omega) hO (nuB B (b + 2) 2 + 2) (nuB B b 2) g (by omega) ⟨by omega, by omega, hC, fun l hl => by rw [Nat.sub_self]; exact hbits l hl⟩)
              · have hbad : nuB B b 2 < L ∨ 65535 < nuB B b 2 + nuB B (b + 2) 2 := Or.inr (le_f (N := 65535) (by omega) (by decide) h82)
                refine g_aload_n Z dX7_readsRuns_85 rfl ?_
                refine g_bipush (v := 7) Z dX7_readsRuns_86 (by decide) ?_
                refine g_aload_n Z dX7_readsRuns_88 rfl ?_
                refine m_get_aa Z in6 lk183 dX7_readsRuns_89 ?_
                refine g_iconst (v := 4) Z dX7_readsRuns_92 (by decide) ?_
                refine g_isub Z dX7_readsRuns_93 ?_
                rw [show nI (b + 2 + 2) - 4 = nI b from (nI_sb (b := 4) (by omega)).trans (congrArg nI (by omega))]
                refine g_cvI Z (c_X7_fails F.l F.D F.cy F.nw A x ho _ _ _ _) 2 gX7_readsRuns_X7_fails rfl (by decide +kernel) (by rw [hRf, hRl]; decide) (by exact mP_x) (κ := 6) (by exact mP_Kx) rfl (by decide) rfl rfl (Nat.le_of_ble_eq_true rfl) dX7_readsRuns_94 (by rw [hRc, hRs]; omega) (fun r T5 hp => ?_)
                obtain ⟨rfl, rfl⟩ := hp
                exact g_zret Z dX7_readsRuns_97 (by rfl) (by omega) (by omega) (RsP.f (hO.symm.trans (by rw [rdRl_b (show b + 4 ≤ N by omega) hbad]; rfl)) rfl ⟨rfl, rfl, rfl⟩ rfl rfl (hCs _ _ hC))
          · refine g_if_ne Z 58 dX7_readsRuns_53 (by decide) (fun h53 => absurd (rfl) h53) (fun h53 => ?_)
            refine g_iconst (v := 0) Z dX7_readsRuns_56 (by decide) ?_
            exact g_zret Z dX7_readsRuns_57 (by rfl) (by omega) (by omega) (RsP.f (hO.symm.trans (by rw [rdRl_n (show ¬ b + 4 ≤ N by omega)]; rfl)) rfl ⟨rfl, rfl, rfl⟩ rfl rfl (hCs _ _ hC))
        · refine g_if_ne Z 40 dX7_readsRuns_35 (by decide) (fun h35 => absurd (rfl) h35) (fun h35 => ?_)
          refine g_iconst (v := 0) Z dX7_readsRuns_38 (by decide) ?_
          exact g_zret Z dX7_readsRuns_39 (by rfl) (by omega) (by omega) (RsP.f (hO.symm.trans (by rw [rdRl_n (show ¬ b + 4 ≤ N by omega)]; rfl)) rfl ⟨rfl, rfl, rfl⟩ rfl rfl (hCs _ _ hC))
  have e0 : C = (C.s_wd C.wd).s_sz (upd C.sz c (nI (tot zW))) := by
    have e1 : upd C.sz c (nI (tot zW)) = C.sz := by
      funext j
      by_cases e : j = c
      · rw [e, pk_us, hs0, tot_zW]; rfl
      · exact pk_un e
    rw [e1]
  refine g_aload_n Z dX7_readsRuns_0 rfl ?_
  refine g_iconst (v := 2) Z dX7_readsRuns_1 (by decide) ?_
  refine g_cvI Z (f_X7_are F.l F.D F.cy F.nw A x ho _ R N B hB a ea (by omega) 2 (by omega)) 1 gX7_readsRuns_X7_are rfl (by decide +kernel) (by rw [hRf, hRl]; decide) (by exact mP_x) (κ := 6) (by exact mP_Kx) rfl (by decide) rfl rfl (Nat.le_of_ble_eq_true rfl) dX7_readsRuns_2 (by rw [hRc, hRs]; omega) (fun r T1 hp => ?_)
  rcases hp with ⟨rfl, hle, rfl⟩ | ⟨rfl, hle, rfl⟩
  · refine g_if_ne Z 10 dX7_readsRuns_5 (by decide) (fun h5 => ?_) (fun h5 => absurd h5 (by decide))
    refine g_aload_n Z dX7_readsRuns_10 rfl ?_
    refine g_iconst (v := 2) Z dX7_readsRuns_11 (by decide) ?_
    refine g_cvL Z (f_X7_taken F.l F.D F.cy F.nw A x ho _ R N B hB a ea 2 (by decide) (by omega)) 1 gX7_readsRuns_X7_taken rfl (by decide +kernel) (by rw [hRf, hRl]; decide) (by exact mP_x) (κ := 6) (by exact mP_Kx) rfl (by decide) rfl rfl (Nat.le_of_ble_eq_true rfl) dX7_readsRuns_12 (by rw [hRc, hRs]; omega) (fun r T2 hp => ?_)
    obtain ⟨rfl, rfl⟩ := hp
    refine g_l2i Z dX7_readsRuns_15 ?_
    rw [lN_i]
    have hv : nuB B a 2 < 65536 := nu2 (fun i hi => (hB.2.2 _ (by omega)).1)
    refine g_istore_n Z dX7_readsRuns_16 (by decide) ?_
    refine g_bipush (v := (-2)) Z dX7_readsRuns_17 (by decide) ?_
    refine g_istore Z dX7_readsRuns_19 (by decide) ?_
    refine g_iconst (v := 0) Z dX7_readsRuns_21 (by decide) ?_
    refine g_istore Z dX7_readsRuns_22 (by decide) ?_
    have hlp := loop (nuB B a 2) hv 65537 0 0 (a + 2) (-2) C.wd zW (by omega) ⟨by omega, by omega, by decide, by omega, Mb.rf, fun l hl => (hz l hl).trans (zW_bit l).symm, fun l _ => zW_bit l, (if_pos hle).symm⟩
    rw [← e0] at hlp
    exact g_lv (by (repeat (first | exact trivial | refine And.intro rfl ?_)); done) hlp
  · refine g_if_ne Z 10 dX7_readsRuns_5 (by decide) (fun h5 => absurd (rfl) h5) (fun h5 => ?_)
    refine g_iconst (v := 0) Z dX7_readsRuns_8 (by decide) ?_
    exact g_zret Z dX7_readsRuns_9 (by rfl) (by omega) (by omega) (RsP.f (if_neg hle) rfl ⟨rfl, rfl, rfl⟩ rfl rfl Mb.rf)
