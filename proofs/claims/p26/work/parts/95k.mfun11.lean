theorem lN_m1 {v : Nat} (h : v < 2 ^ 32) : lN v ≠ -1 := fun e => by
  have h1 : lN v < 0 := by rw [e]; decide
  have h2 : lN v < lN 0 := h1
  exact absurd ((pk_lLT (a := v) (b := 0) (by omega) (by decide)).mp h2) (Nat.not_lt_zero _)
theorem tl_n {Q : MR} {B : Nat → Nat} {n k N : Nat} {pf : Option Nat} (h : TlP Q B n pf) (hk : k < n) (e : Q.tl k = -1) (hv : ∀ g, pf = some g → nuB B (g + 4 * k) 4 < 2 ^ 32) : pf = none := by
  rcases pf with _ | g
  · rfl
  · exact absurd ((h k hk).1.symm.trans e) (lN_m1 (hv g rfl))
theorem tl_s {Q : MR} {B : Nat → Nat} {n k : Nat} {pf : Option Nat} (h : TlP Q B n pf) (hk : k < n) (e : ¬ Q.tl k = -1) : ∃ g, pf = some g ∧ Q.tl k = lN (nuB B (g + 4 * k) 4) ∧ Q.pl k = nI (g + 4 * k) := by
  rcases pf with _ | g
  · exact absurd (h k hk) e
  · exact ⟨g, rfl, h k hk⟩
theorem rdPc_in {N p n pl q g : Nat} (h : rdPc N p n pl = .inr (q, some g)) : g + 4 * n ≤ N := by
  unfold rdPc at h
  by_cases h1 : pl = 0 ∧ n < 4
  · rw [if_pos h1] at h; cases h
  · rw [if_neg h1] at h
    by_cases h2 : p + 4 * n ≤ N
    · rw [if_pos h2] at h; cases h; exact h2
    · rw [if_neg h2] at h; cases h
theorem rdPc_le {N p n pl q : Nat} {pf : Option Nat} (hp : p ≤ N) (h : rdPc N p n pl = .inr (q, pf)) : q ≤ N := by
  unfold rdPc at h
  by_cases h1 : pl = 0 ∧ n < 4
  · rw [if_pos h1] at h; cases h; exact hp
  · rw [if_neg h1] at h
    by_cases h2 : p + 4 * n ≤ N
    · rw [if_pos h2] at h; cases h; exact h2
    · rw [if_neg h2] at h; cases h
theorem RsP.no {A : Nat → Nat} {x : Nat} {C : C5} {R : MR} {c : Nat} {o : Rw} {r : Int32} {U : PS} (h : RsP A x C R c o r U) (e : r = 0) : ∃ f g E Q, o = .inl (f, g) ∧ mP A x (E, Q) = U ∧ Rk R Q ∧ Q.fa = nI f ∧ Q.fp = nI g ∧ Mb c C E := by
  rcases o with ⟨f, g⟩ | ⟨q, W⟩
  · obtain ⟨-, E, Q, h⟩ := h
    exact ⟨f, g, E, Q, rfl, h⟩
  · exact absurd (h.1.symm.trans e) (by decide)
theorem RsP.yes {A : Nat → Nat} {x : Nat} {C : C5} {R : MR} {c : Nat} {o : Rw} {r : Int32} {U : PS} (h : RsP A x C R c o r U) (e : ¬ r = 0) : ∃ q W E, o = .inr (q, W) ∧ mP A x (E, R.s_aa (nI q)) = U ∧ Mb c C E ∧ E.ky = C.ky ∧ E.kd = C.kd ∧ E.sz c = nI (tot W) ∧ ∀ l, l < 65536 → cb E.wd c l = cb W 0 l := by
  rcases o with ⟨f, g⟩ | ⟨q, W⟩
  · exact absurd h.1 e
  · obtain ⟨-, E, h⟩ := h
    exact ⟨q, W, E, rfl, h⟩

set_option maxRecDepth 100000 in
set_option maxHeartbeats 2000000 in
/-- a set is read -/
theorem f_X7_readsAll (l : Launch) (D : va_G) (cy : Nat → ClassId) (nw : Nat) (A : Nat → Nat) (x : Nat) (ho : mOk A x) (C : C5) (R : MR) (N : Nat) (B : Nat → Nat) (hB : RBy R N B) (ea : R.aa = nI 0) : kI l yX7_readsAll wsX7_readsAll 4 91 D cy nw [.ref x] (mP A x (C, R)) (fun r T => (r = 0 ∧ ∃ f g, rdSe B N = .inl (f, g) ∧ RfP A x C R f g T) ∨ (r = 1 ∧ ∃ V E Q, rdSe B N = .inr V ∧ mP A x (E, Q) = T ∧ Me 16 C E ∧ Ms E 16 V ∧ Rk R Q ∧ Q.fa = R.fa)) 0 0 := by
  refine enterI (cc := cX7_readsAll) (nL := 5) (ret := (some .boolean)) (by decide +kernel) rfl (Nat.le_of_ble_eq_true rfl) ?_
  intro F Z hl hR hD hcy hnw hnm
  subst hl hD hcy hnw
  have hRf : F.R.frames = 4 := by rw [hR]
  have hRc : F.R.cells = 0 := by rw [hR]
  have hRs : F.R.slots = 0 := by rw [hR]
  have hRl : F.R.locals = 91 := by rw [hR]
  have in6 : ∀ w ∈ u_ws RX7 TX7 16, w ∈ wsX7_readsAll := by decide +kernel
  have lk7 : Cond.fieldLink RX7 7 (TX7 0).1 (TX7 0).2.1 (TX7 0).2.2.1 ∈ wsX7_readsAll := by decide +kernel
  have lk16 : Cond.fieldLink RX7 16 (TX7 2).1 (TX7 2).2.1 (TX7 2).2.2.1 ∈ wsX7_readsAll := by decide +kernel
  have lk19 : Cond.fieldLink RX7 19 (TX7 3).1 (TX7 3).2.1 (TX7 3).2.2.1 ∈ wsX7_readsAll := by decide +kernel
  have lk23 : Cond.fieldLink RX7 23 (TX7 4).1 (TX7 4).2.1 (TX7 4).2.2.1 ∈ wsX7_readsAll := by decide +kernel
  have lk35 : Cond.fieldLink RX7 35 (TX7 12).1 (TX7 12).2.1 (TX7 12).2.2.1 ∈ wsX7_readsAll := by decide +kernel
  have lk38 : Cond.fieldLink RX7 38 (TX7 13).1 (TX7 13).2.1 (TX7 13).2.2.1 ∈ wsX7_readsAll := by decide +kernel
  have lk41 : Cond.fieldLink RX7 41 (TX7 14).1 (TX7 14).2.1 (TX7 14).2.2.1 ∈ wsX7_readsAll := by decide +kernel
  have lk174 : Cond.fieldLink RX7 174 (TX7 6).1 (TX7 6).2.1 (TX7 6).2.2.1 ∈ wsX7_readsAll := by decide +kernel
  have lk183 : Cond.fieldLink RX7 183 (TX7 11).1 (TX7 11).2.1 (TX7 11).2.2.1 ∈ wsX7_readsAll := by decide +kernel
  have lk198 : Cond.fieldLink RX7 198 (TX7 15).1 (TX7 15).2.1 (TX7 15).2.2.1 ∈ wsX7_readsAll := by decide +kernel
  have ct52 : Cond.constantLong RX7 52 (-1) ∈ wsX7_readsAll := by decide +kernel
  have hN := hB.2.1
  have hB8 : ∀ i, i < N → B i < 256 := fun i hi => (hB.2.2 i hi).1
  have loop : ∀ (n rb p0 : Nat) (pf : Option Nat), n ≤ 6 → rb < 256 → p0 + 4 * n ≤ N → (∀ g, pf = some g → g + 4 * n ≤ N) → ∀ (i b : Nat) (D : C5) (W : MR) (V : Sv), n - V.1 < i → (V.1 ≤ n ∧ b ≤ N ∧ Me 16 C D ∧ D.mn 16 = nI n ∧ (∀ j, j < n → D.ky (6 * 16 + j) = nI (kyR B p0 j)) ∧ (∀ j, j < V.1 → Mc D (6 * 16 + j) (V.2 j)) ∧ Rk R W ∧ W.fa = R.fa ∧ W.aa = nI b ∧ W.bi = nI rb ∧ (∀ j, j < n → W.hd j = nI (toR B p0 j)) ∧ TlP W B n pf ∧ rdCs B N p0 rb pf (n - V.1) V.1 b V = rdSe B N) → G F 5 (mP A x (D, W)) 0 0 (QI F (fun r T => (r = 0 ∧ ∃ f g, rdSe B N = .inl (f, g) ∧ RfP A x C R f g T) ∨ (r = 1 ∧ ∃ V E Q, rdSe B N = .inr V ∧ mP A x (E, Q) = T ∧ Me 16 C E ∧ Ms E 16 V ∧ Rk R Q ∧ Q.fa = R.fa)) 0 0) 11 [(0, .ref x), (1, .int (nI V.1))] [] := by
    intro n rb p0 pf hn hrb hp0 hpf i
    induction i with
    | zero => intros; omega
    | succ i ih =>
      intro b D W V hm ⟨hk, hb, hS, hmn, hky, hmc, hR2, hfa, haa, hbi, hhd, htl, hO⟩
      have hby := hR2.by hB
      obtain ⟨w1, w2, w3⟩ := id hR2
      have htt : V.1 < n → toR B p0 V.1 ≤ 65536 := fun h => by have : nuB B (p0 + 4 * V.1 + 2) 2 < 65536 := nu2 (fun q hq => hB8 _ (by omega)); unfold toR; omega
      have j207 : ∀ (D3 : C5) (r : Int32) (U : PS), V.1 < n → rdCt B N rb V.1 (toR B p0 V.1) b pf = (rdCo B N rb V.1 (toR B p0 V.1) b) → Mb (6 * 16 + V.1) D D3 → D3.ky = D.ky → D3.kd (6 * 16 + V.1) = (kdR rb V.1 (toR B p0 V.1)) → RsP A x D3 W (6 * 16 + V.1) (rdCo B N rb V.1 (toR B p0 V.1) b) r U → G F 5 U 0 0 (QI F (fun r T => (r = 0 ∧ ∃ f g, rdSe B N = .inl (f, g) ∧ RfP A x C R f g T) ∨ (r = 1 ∧ ∃ V E Q, rdSe B N = .inr V ∧ mP A x (E, Q) = T ∧ Me 16 C E ∧ Ms E 16 V ∧ Rk R Q ∧ Q.fa = R.fa)) 0 0) 207 [(0, .ref x), (1, .int (nI V.1))] [.int r] := by
        intro D3 r U hlt hct hC hky3 hkd hr
        obtain ⟨m2, hm2⟩ : ∃ m2, n - V.1 = m2 + 1 := ⟨n - V.1 - 1, by omega⟩
        have hm3 : n - (V.1 + 1) = m2 := by omega
        rw [hm2] at hO
        have hrr := hr.r
        by_cases hr0 : r = 0
        · obtain ⟨f, g, E, Q2, ho, rfl, q1, q2, q3, q4⟩ := hr.no hr0
          subst hr0
          rw [rdCs_f (hct.trans ho)] at hO
          refine g_istore Z dX7_readsAll_207 (by decide) ?_
          refine g_iload Z dX7_readsAll_209 rfl ?_
          refine g_if_ne Z 216 dX7_readsAll_211 (by decide) (fun h211 => absurd (rfl) h211) (fun h211 => ?_)
          refine g_iconst (v := 0) Z dX7_readsAll_214 (by decide) ?_
          exact g_zret Z dX7_readsAll_215 (by rfl) (by omega) (by omega) (Or.inl ⟨rfl, f, g, hO.symm, E, Q2, rfl, hR2.tr q1, q2, q3, (hS.tr ((hC.tr q4).me (by omega)))⟩)
        · obtain ⟨q, W2, E, ho, rfl, q1, q2, q3, q4, q5⟩ := hr.yes hr0
          rw [rdCs_y (hct.trans ho)] at hO
          have hC2 := hC.tr q1
          have hq := rdCo_le hb ho
          have hnew : Mc E (6 * 16 + V.1) (kyR B p0 V.1, (kdR rb V.1 (toR B p0 V.1)), W2) := ⟨by rw [q2, hky3]; exact hky V.1 hlt, by rw [q3]; exact hkd, q4, q5⟩
          refine g_istore Z dX7_readsAll_207 (by decide) ?_
          refine g_iload Z dX7_readsAll_209 rfl ?_
          refine g_if_ne Z 216 dX7_readsAll_211 (by decide) (fun h211 => ?_) (fun h211 => absurd h211 (hr0))
          refine g_iinc (c := 1) Z dX7_readsAll_216 rfl (by decide) (by decide) ?_
          rw [nI_1]
          refine g_goto Z 11 dX7_readsAll_219 (by decide) ?_
          exact g_lv (by (repeat (first | exact trivial | refine And.intro rfl ?_)); done) (ih q E _ (V.psh (kyR B p0 V.1, (kdR rb V.1 (toR B p0 V.1)), W2)) (by show n - (V.1 + 1) < i; omega) ⟨hlt, hq, hS.tr (hC2.me (by omega)), by rw [hC2.1]; exact hmn, fun j hj => by rw [q2, hky3]; exact hky j hj, fun j hj => by
            have hj2 : j < V.1 + 1 := hj
            show Mc E (6 * 16 + j) (if j = V.1 then _ else V.2 j)
            by_cases e : j = V.1
            · rw [if_pos e, e]; exact hnew
            · rw [if_neg e]; exact (hC2.2 _ (by omega)).mc (hmc j (by omega)), ⟨w1, w2, w3⟩, hfa, rfl, hbi, hhd, htl, (congrArg (fun z => rdCs B N p0 rb pf z (V.1 + 1) q (V.psh (kyR B p0 V.1, (kdR rb V.1 (toR B p0 V.1)), W2))) hm3).trans hO⟩)
      have rd : ∀ (D3 : C5) (p : Int32), V.1 < n → rdCt B N rb V.1 (toR B p0 V.1) b pf = (rdCo B N rb V.1 (toR B p0 V.1) b) → Mb (6 * 16 + V.1) D D3 → D3.ky = D.ky → D3.kd (6 * 16 + V.1) = (kdR rb V.1 (toR B p0 V.1)) → (∀ l, l < 65536 → cb D3.wd (6 * 16 + V.1) l = 0) → D3.sz (6 * 16 + V.1) = 0 → (p = 0 ↔ rb / 2 ^ V.1 % 2 = 0) → G F 5 (mP A x (D3, W)) 0 0 (QI F (fun r T => (r = 0 ∧ ∃ f g, rdSe B N = .inl (f, g) ∧ RfP A x C R f g T) ∨ (r = 1 ∧ ∃ V E Q, rdSe B N = .inr V ∧ mP A x (E, Q) = T ∧ Me 16 C E ∧ Ms E 16 V ∧ Rk R Q ∧ Q.fa = R.fa)) 0 0) 152 [(0, .ref x), (1, .int (nI V.1)), (2, .int (nI (6 * 16 + V.1))), (3, .int p)] [] := by
        intro D3 p hlt hct hC hky3 hkd hz hs0 hp
        have ht := htt hlt
        refine g_iload_n Z dX7_readsAll_152 rfl ?_
        refine g_if_eq Z 170 dX7_readsAll_153 (by decide) (fun h153 => ?_) (fun h153 => ?_)
        · have hz2 := hp.mp h153
          refine g_aload_n Z dX7_readsAll_170 rfl ?_
          refine m_ref_hd Z in6 lk41 dX7_readsAll_171 ?_
          refine g_iload_n Z dX7_readsAll_174 rfl ?_
          refine m_ald_hd Z ho dX7_readsAll_175 (by exact vp_in_nI (by omega) (by decide)) ?_
          rw [nI_clamp (by omega), hhd V.1 hlt]
          refine g_sipush (v := 4096) Z dX7_readsAll_176 (by decide) ?_
          refine g_icmp_gt Z 196 dX7_readsAll_179 (by decide) (fun h179 => ?_) (fun h179 => ?_)
          · have hgt : ¬ (toR B p0 V.1) ≤ 4096 := fun q => absurd ((nI_ltI (a := 4096) (b := (toR B p0 V.1)) (by decide) (by omega)).mp h179) (by omega)
            refine g_aload_n Z dX7_readsAll_196 rfl ?_
            refine g_iload_n Z dX7_readsAll_197 rfl ?_
            refine g_aload_n Z dX7_readsAll_198 rfl ?_
            refine m_ref_hd Z in6 lk41 dX7_readsAll_199 ?_
            refine g_iload_n Z dX7_readsAll_202 rfl ?_
            refine m_ald_hd Z ho dX7_readsAll_203 (by exact vp_in_nI (by omega) (by decide)) ?_
            rw [nI_clamp (by omega), hhd V.1 hlt]
            refine g_cvI Z (f_X7_readsBitmap F.l F.D F.cy F.nw A x ho D3 W N B hby b haa hb (6 * 16 + V.1) (by omega) hz hs0 (toR B p0 V.1) ht) 2 gX7_readsAll_X7_readsBitmap rfl (by decide +kernel) (by rw [hRf, hRl]; decide) (by exact mP_x) (κ := 6) (by exact mP_Kx) rfl (by decide) rfl rfl (Nat.le_of_ble_eq_true rfl) dX7_readsAll_204 (by rw [hRc, hRs]; omega) (fun r T hq => ?_)
            first | exact g_lv (by (repeat (first | exact trivial | refine And.intro rfl ?_)); done) (j207 D3 _ _ hlt hct hC hky3 hkd (by rw [show (rdCo B N rb V.1 (toR B p0 V.1) b) = rdRn B N (toR B p0 V.1) b zW from if_neg hz2]; exact hq)) | exact g_lv (by (repeat (first | exact trivial | refine And.intro rfl ?_)); done) (j207 D3 _ _ hlt hct hC hky3 hkd (by rw [show (rdCo B N rb V.1 (toR B p0 V.1) b) = rdAr B N (toR B p0 V.1) b 0 zW from (if_pos hz2).trans (if_pos hle)]; exact hq)) | exact g_lv (by (repeat (first | exact trivial | refine And.intro rfl ?_)); done) (j207 D3 _ _ hlt hct hC hky3 hkd (by rw [show (rdCo B N rb V.1 (toR B p0 V.1) b) = rdBm B N (toR B p0 V.1) b zW from (if_pos hz2).trans (if_neg hgt)]; exact hq))
          · have hle : (toR B p0 V.1) ≤ 4096 := Nat.le_of_not_lt (fun q => h179 ((nI_ltI (a := 4096) (b := (toR B p0 V.1)) (by decide) (by omega)).mpr q))
            refine g_aload_n Z dX7_readsAll_182 rfl ?_
            refine g_iload_n Z dX7_readsAll_183 rfl ?_
            refine g_aload_n Z dX7_readsAll_184 rfl ?_
            refine m_ref_hd Z in6 lk41 dX7_readsAll_185 ?_
            refine g_iload_n Z dX7_readsAll_188 rfl ?_
            refine m_ald_hd Z ho dX7_readsAll_189 (by exact vp_in_nI (by omega) (by decide)) ?_
            rw [nI_clamp (by omega), hhd V.1 hlt]
            refine g_cvI Z (f_X7_readsArray F.l F.D F.cy F.nw A x ho D3 W N B hby b haa hb (6 * 16 + V.1) (by omega) hz hs0 (toR B p0 V.1) ht) 2 gX7_readsAll_X7_readsArray rfl (by decide +kernel) (by rw [hRf, hRl]; decide) (by exact mP_x) (κ := 6) (by exact mP_Kx) rfl (by decide) rfl rfl (Nat.le_of_ble_eq_true rfl) dX7_readsAll_190 (by rw [hRc, hRs]; omega) (fun r T hq => ?_)
            refine g_goto Z 207 dX7_readsAll_193 (by decide) ?_
            first | exact g_lv (by (repeat (first | exact trivial | refine And.intro rfl ?_)); done) (j207 D3 _ _ hlt hct hC hky3 hkd (by rw [show (rdCo B N rb V.1 (toR B p0 V.1) b) = rdRn B N (toR B p0 V.1) b zW from if_neg hz2]; exact hq)) | exact g_lv (by (repeat (first | exact trivial | refine And.intro rfl ?_)); done) (j207 D3 _ _ hlt hct hC hky3 hkd (by rw [show (rdCo B N rb V.1 (toR B p0 V.1) b) = rdAr B N (toR B p0 V.1) b 0 zW from (if_pos hz2).trans (if_pos hle)]; exact hq)) | exact g_lv (by (repeat (first | exact trivial | refine And.intro rfl ?_)); done) (j207 D3 _ _ hlt hct hC hky3 hkd (by rw [show (rdCo B N rb V.1 (toR B p0 V.1) b) = rdBm B N (toR B p0 V.1) b zW from (if_pos hz2).trans (if_neg hgt)]; exact hq))
        · have hz2 : ¬ rb / 2 ^ V.1 % 2 = 0 := fun q => h153 (hp.mpr q)
          refine g_aload_n Z dX7_readsAll_156 rfl ?_
          refine g_iload_n Z dX7_readsAll_157 rfl ?_
          refine g_aload_n Z dX7_readsAll_158 rfl ?_
          refine m_ref_hd Z in6 lk41 dX7_readsAll_159 ?_
          refine g_iload_n Z dX7_readsAll_162 rfl ?_
          refine m_ald_hd Z ho dX7_readsAll_163 (by exact vp_in_nI (by omega) (by decide)) ?_
          rw [nI_clamp (by omega), hhd V.1 hlt]
          refine g_cvI Z (f_X7_readsRuns F.l F.D F.cy F.nw A x ho D3 W N B hby b haa hb (6 * 16 + V.1) (by omega) hz hs0 (toR B p0 V.1) ht) 2 gX7_readsAll_X7_readsRuns rfl (by decide +kernel) (by rw [hRf, hRl]; decide) (by exact mP_x) (κ := 6) (by exact mP_Kx) rfl (by decide) rfl rfl (Nat.le_of_ble_eq_true rfl) dX7_readsAll_164 (by rw [hRc, hRs]; omega) (fun r T hq => ?_)
          refine g_goto Z 207 dX7_readsAll_167 (by decide) ?_
          first | exact g_lv (by (repeat (first | exact trivial | refine And.intro rfl ?_)); done) (j207 D3 _ _ hlt hct hC hky3 hkd (by rw [show (rdCo B N rb V.1 (toR B p0 V.1) b) = rdRn B N (toR B p0 V.1) b zW from if_neg hz2]; exact hq)) | exact g_lv (by (repeat (first | exact trivial | refine And.intro rfl ?_)); done) (j207 D3 _ _ hlt hct hC hky3 hkd (by rw [show (rdCo B N rb V.1 (toR B p0 V.1) b) = rdAr B N (toR B p0 V.1) b 0 zW from (if_pos hz2).trans (if_pos hle)]; exact hq)) | exact g_lv (by (repeat (first | exact trivial | refine And.intro rfl ?_)); done) (j207 D3 _ _ hlt hct hC hky3 hkd (by rw [show (rdCo B N rb V.1 (toR B p0 V.1) b) = rdBm B N (toR B p0 V.1) b zW from (if_pos hz2).trans (if_neg hgt)]; exact hq))
      have j151 : ∀ (D2 : C5) (p z : Int32), V.1 < n → rdCt B N rb V.1 (toR B p0 V.1) b pf = (rdCo B N rb V.1 (toR B p0 V.1) b) → Mb (6 * 16 + V.1) D D2 → D2.ky = D.ky → (∀ l, l < 65536 → cb D2.wd (6 * 16 + V.1) l = 0) → D2.sz (6 * 16 + V.1) = 0 → (p = 0 ↔ rb / 2 ^ V.1 % 2 = 0) → z = (kdR rb V.1 (toR B p0 V.1)) → G F 5 (mP A x (D2, W)) 0 0 (QI F (fun r T => (r = 0 ∧ ∃ f g, rdSe B N = .inl (f, g) ∧ RfP A x C R f g T) ∨ (r = 1 ∧ ∃ V E Q, rdSe B N = .inr V ∧ mP A x (E, Q) = T ∧ Me 16 C E ∧ Ms E 16 V ∧ Rk R Q ∧ Q.fa = R.fa)) 0 0) 151 [(0, .ref x), (1, .int (nI V.1)), (2, .int (nI (6 * 16 + V.1))), (3, .int p)] [.int z, .int (nI (6 * 16 + V.1)), .ref (A 2)] := by
        intro D2 p z hlt hct hC hky2 hz hs0 hp hzz
        refine m_ast_kd Z ho dX7_readsAll_151 (by exact vp_in_nI (by omega) (by decide)) ?_
        rw [nI_clamp (by omega)]
        exact g_lv (by (repeat (first | exact trivial | refine And.intro rfl ?_)); done) (rd (D2.s_kd (upd D2.kd (6 * 16 + V.1) z)) p hlt hct (hC.tr ⟨rfl, fun d hd => ⟨rfl, pk_un hd, rfl, fun _ _ => rfl⟩⟩) hky2 (pk_us.trans hzz) hz hs0 hp)
      have j120 : ∀ (D2 : C5) (p : Int32), V.1 < n → rdCt B N rb V.1 (toR B p0 V.1) b pf = (rdCo B N rb V.1 (toR B p0 V.1) b) → Mb (6 * 16 + V.1) D D2 → D2.ky = D.ky → (∀ l, l < 65536 → cb D2.wd (6 * 16 + V.1) l = 0) → D2.sz (6 * 16 + V.1) = 0 → (p = 0 ↔ rb / 2 ^ V.1 % 2 = 0) → G F 5 (mP A x (D2, W)) 0 0 (QI F (fun r T => (r = 0 ∧ ∃ f g, rdSe B N = .inl (f, g) ∧ RfP A x C R f g T) ∨ (r = 1 ∧ ∃ V E Q, rdSe B N = .inr V ∧ mP A x (E, Q) = T ∧ Me 16 C E ∧ Ms E 16 V ∧ Rk R Q ∧ Q.fa = R.fa)) 0 0) 120 [(0, .ref x), (1, .int (nI V.1)), (2, .int (nI (6 * 16 + V.1)))] [.int p] := by
        intro D2 p hlt hct hC hky2 hz hs0 hp
        have ht := htt hlt
        refine g_istore_n Z dX7_readsAll_120 (by decide) ?_
        refine g_aload_n Z dX7_readsAll_121 rfl ?_
        refine m_ref_kd Z in6 lk16 dX7_readsAll_122 ?_
        refine g_iload_n Z dX7_readsAll_125 rfl ?_
        refine g_iload_n Z dX7_readsAll_126 rfl ?_
        refine g_if_eq Z 134 dX7_readsAll_127 (by decide) (fun h127 => ?_) (fun h127 => ?_)
        · have hz2 := hp.mp h127
          refine g_aload_n Z dX7_readsAll_134 rfl ?_
          refine m_ref_hd Z in6 lk41 dX7_readsAll_135 ?_
          refine g_iload_n Z dX7_readsAll_138 rfl ?_
          refine m_ald_hd Z ho dX7_readsAll_139 (by exact vp_in_nI (by omega) (by decide)) ?_
          rw [nI_clamp (by omega), hhd V.1 hlt]
          refine g_sipush (v := 4096) Z dX7_readsAll_140 (by decide) ?_
          refine g_icmp_gt Z 150 dX7_readsAll_143 (by decide) (fun h143 => ?_) (fun h143 => ?_)
          · have hgt : ¬ (toR B p0 V.1) ≤ 4096 := fun q => absurd ((nI_ltI (a := 4096) (b := (toR B p0 V.1)) (by decide) (by omega)).mp h143) (by omega)
            refine g_iconst (v := 1) Z dX7_readsAll_150 (by decide) ?_
            first | exact g_lv (by (repeat (first | exact trivial | refine And.intro rfl ?_)); done) (j151 D2 p _ hlt hct hC hky2 hz hs0 hp (if_neg hz2).symm) | exact g_lv (by (repeat (first | exact trivial | refine And.intro rfl ?_)); done) (j151 D2 p _ hlt hct hC hky2 hz hs0 hp ((if_pos hz2).trans (if_pos hle)).symm) | exact g_lv (by (repeat (first | exact trivial | refine And.intro rfl ?_)); done) (j151 D2 p _ hlt hct hC hky2 hz hs0 hp ((if_pos hz2).trans (if_neg hgt)).symm)
          · have hle : (toR B p0 V.1) ≤ 4096 := Nat.le_of_not_lt (fun q => h143 ((nI_ltI (a := 4096) (b := (toR B p0 V.1)) (by decide) (by omega)).mpr q))
            refine g_iconst (v := 0) Z dX7_readsAll_146 (by decide) ?_
            refine g_goto Z 151 dX7_readsAll_147 (by decide) ?_
            first | exact g_lv (by (repeat (first | exact trivial | refine And.intro rfl ?_)); done) (j151 D2 p _ hlt hct hC hky2 hz hs0 hp (if_neg hz2).symm) | exact g_lv (by (repeat (first | exact trivial | refine And.intro rfl ?_)); done) (j151 D2 p _ hlt hct hC hky2 hz hs0 hp ((if_pos hz2).trans (if_pos hle)).symm) | exact g_lv (by (repeat (first | exact trivial | refine And.intro rfl ?_)); done) (j151 D2 p _ hlt hct hC hky2 hz hs0 hp ((if_pos hz2).trans (if_neg hgt)).symm)
        · have hz2 : ¬ rb / 2 ^ V.1 % 2 = 0 := fun q => h127 (hp.mpr q)
          refine g_iconst (v := 2) Z dX7_readsAll_130 (by decide) ?_
          refine g_goto Z 151 dX7_readsAll_131 (by decide) ?_
          first | exact g_lv (by (repeat (first | exact trivial | refine And.intro rfl ?_)); done) (j151 D2 p _ hlt hct hC hky2 hz hs0 hp (if_neg hz2).symm) | exact g_lv (by (repeat (first | exact trivial | refine And.intro rfl ?_)); done) (j151 D2 p _ hlt hct hC hky2 hz hs0 hp ((if_pos hz2).trans (if_pos hle)).symm) | exact g_lv (by (repeat (first | exact trivial | refine And.intro rfl ?_)); done) (j151 D2 p _ hlt hct hC hky2 hz hs0 hp ((if_pos hz2).trans (if_neg hgt)).symm)
      have zr : ∀ (n2 w : Nat) (g : Nat → Int64), 1024 - w < n2 → (w ≤ 1024 ∧ V.1 < n ∧ rdCt B N rb V.1 (toR B p0 V.1) b pf = (rdCo B N rb V.1 (toR B p0 V.1) b) ∧ (∀ d, d ≠ (6 * 16 + V.1) → ∀ l, l < 65536 → cb g d l = cb D.wd d l) ∧ ∀ l, l < 64 * w → cb g (6 * 16 + V.1) l = 0) → G F 5 (mP A x (D.s_wd g, W)) 0 0 (QI F (fun r T => (r = 0 ∧ ∃ f g, rdSe B N = .inl (f, g) ∧ RfP A x C R f g T) ∨ (r = 1 ∧ ∃ V E Q, rdSe B N = .inr V ∧ mP A x (E, Q) = T ∧ Me 16 C E ∧ Ms E 16 V ∧ Rk R Q ∧ Q.fa = R.fa)) 0 0) 70 [(0, .ref x), (1, .int (nI V.1)), (2, .int (nI (6 * 16 + V.1))), (3, .int (nI w))] [] := by
        intro n2
        induction n2 with
        | zero => intros; omega
        | succ n2 ih2 =>
          intro w g hn2 ⟨hw, hlt, hct, h1, h2⟩
          refine g_iload_n Z dX7_readsAll_70 rfl ?_
          refine g_sipush (v := 1024) Z dX7_readsAll_71 (by decide) ?_
          refine g_icmp_ge Z 96 dX7_readsAll_74 (by decide) (fun h74 => ?_) (fun h74 => ?_)
          · have he : w = 1024 := by have := ge_t (i := w) (N := 1024) (by omega) (by decide) h74; omega
            subst he
            refine g_aload_n Z dX7_readsAll_96 rfl ?_
            refine m_ref_sz Z in6 lk19 dX7_readsAll_97 ?_
            refine g_iload_n Z dX7_readsAll_100 rfl ?_
            refine g_iconst (v := 0) Z dX7_readsAll_101 (by decide) ?_
            refine m_ast_sz Z ho dX7_readsAll_102 (by exact vp_in_nI (by omega) (by decide)) ?_
            rw [nI_clamp (by omega)]
            refine g_aload_n Z dX7_readsAll_103 rfl ?_
            refine m_get_bi Z in6 lk198 dX7_readsAll_104 ?_
            rw [hbi]
            refine g_iload_n Z dX7_readsAll_107 rfl ?_
            refine g_ishr Z dX7_readsAll_108 ?_
            rw [shr_i (v := rb) (k := V.1) (by omega) (by omega)]
            refine g_iconst (v := 1) Z dX7_readsAll_109 (by decide) ?_
            refine g_iand Z dX7_readsAll_110 ?_
            rw [show nI (rb / 2 ^ V.1) &&& 1 = nI (rb / 2 ^ V.1 % 2) from pk_andN (Nat.lt_of_le_of_lt (Nat.div_le_self _ _) (by omega)) 1 (by decide)]
            refine g_iconst (v := 1) Z dX7_readsAll_111 (by decide) ?_
            refine g_icmp_ne Z 119 dX7_readsAll_112 (by decide) (fun h112 => ?_) (fun h112 => ?_)
            · have hz3 : rb / 2 ^ V.1 % 2 = 0 := by have : ¬ rb / 2 ^ V.1 % 2 = 1 := fun q => h112 (by rw [q]; rfl); omega
              refine g_iconst (v := 0) Z dX7_readsAll_119 (by decide) ?_
              first | exact g_lv (by (repeat (first | exact trivial | refine And.intro rfl ?_)); done) (j120 ((D.s_wd g).s_sz (upd D.sz (6 * 16 + V.1) 0)) _ hlt hct ⟨rfl, fun d hd => ⟨rfl, rfl, pk_un hd, h1 d hd⟩⟩ rfl (fun l hl => h2 l (by omega)) pk_us ⟨fun _ => hz3, fun _ => rfl⟩) | exact g_lv (by (repeat (first | exact trivial | refine And.intro rfl ?_)); done) (j120 ((D.s_wd g).s_sz (upd D.sz (6 * 16 + V.1) 0)) _ hlt hct ⟨rfl, fun d hd => ⟨rfl, rfl, pk_un hd, h1 d hd⟩⟩ rfl (fun l hl => h2 l (by omega)) pk_us ⟨fun e => absurd e (by decide), fun e => absurd e hz3⟩)
            · have hz3 : ¬ rb / 2 ^ V.1 % 2 = 0 := by have := (nI_eq (b := 1) (by omega) (by decide)).mp h112; omega
              refine g_iconst (v := 1) Z dX7_readsAll_115 (by decide) ?_
              refine g_goto Z 120 dX7_readsAll_116 (by decide) ?_
              first | exact g_lv (by (repeat (first | exact trivial | refine And.intro rfl ?_)); done) (j120 ((D.s_wd g).s_sz (upd D.sz (6 * 16 + V.1) 0)) _ hlt hct ⟨rfl, fun d hd => ⟨rfl, rfl, pk_un hd, h1 d hd⟩⟩ rfl (fun l hl => h2 l (by omega)) pk_us ⟨fun _ => hz3, fun _ => rfl⟩) | exact g_lv (by (repeat (first | exact trivial | refine And.intro rfl ?_)); done) (j120 ((D.s_wd g).s_sz (upd D.sz (6 * 16 + V.1) 0)) _ hlt hct ⟨rfl, fun d hd => ⟨rfl, rfl, pk_un hd, h1 d hd⟩⟩ rfl (fun l hl => h2 l (by omega)) pk_us ⟨fun e => absurd e (by decide), fun e => absurd e hz3⟩)
          · have hltw : w < 1024 := ge_f (by omega) (by decide) h74
            obtain ⟨k1, k2⟩ := zr_step hltw h1 h2
            refine g_aload_n Z dX7_readsAll_77 rfl ?_
            refine m_ref_wd Z in6 lk23 dX7_readsAll_78 ?_
            refine g_sipush (v := 1024) Z dX7_readsAll_81 (by decide) ?_
            refine g_iload_n Z dX7_readsAll_84 rfl ?_
            refine g_imul Z dX7_readsAll_85 ?_
            refine g_iload_n Z dX7_readsAll_86 rfl ?_
            refine g_iadd Z dX7_readsAll_87 ?_
            rw [ixw]
            refine g_lconst (v := 0) Z dX7_readsAll_88 (by decide) ?_
            refine m_ast_wd Z ho dX7_readsAll_89 (by exact vp_in_nI (by omega) (by decide)) ?_
            rw [nI_clamp (by omega)]
            refine g_iinc (c := 1) Z dX7_readsAll_90 rfl (by decide) (by decide) ?_
            rw [nI_1]
            refine g_goto Z 70 dX7_readsAll_93 (by decide) ?_
            exact g_lv (by (repeat (first | exact trivial | refine And.intro rfl ?_)); done) (ih2 (w + 1) _ (by omega) ⟨by omega, hlt, hct, k1, k2⟩)
      refine g_iload_n Z dX7_readsAll_11 rfl ?_
      refine g_aload_n Z dX7_readsAll_12 rfl ?_
      refine m_ref_mn Z in6 lk7 dX7_readsAll_13 ?_
      refine g_bipush (v := 16) Z dX7_readsAll_16 (by decide) ?_
      refine m_ald_mn Z ho dX7_readsAll_18 (by exact vp_in_nI (n := 16) (by decide) (by decide)) ?_
      rw [show (16 : Int32).toNatClampNeg = 16 by decide, hmn]
      refine g_icmp_ge Z 222 dX7_readsAll_19 (by decide) (fun h19 => ?_) (fun h19 => ?_)
      · have he : V.1 = n := by have := ge_t (i := V.1) (N := n) (by omega) (by omega) h19; omega
        rw [show n - V.1 = 0 by omega] at hO
        refine g_aload_n Z dX7_readsAll_222 rfl ?_
        refine m_get_aa Z in6 lk183 dX7_readsAll_223 ?_
        rw [haa]
        refine g_aload_n Z dX7_readsAll_226 rfl ?_
        refine m_get_si Z in6 lk174 dX7_readsAll_227 ?_
        rw [show W.si = nI N from hby.1]
        refine g_icmp_eq Z 246 dX7_readsAll_230 (by decide) (fun h230 => ?_) (fun h230 => ?_)
        · have hbe : b = N := (nI_eq (by omega) (by omega)).mp h230
          refine g_iconst (v := 1) Z dX7_readsAll_246 (by decide) ?_
          refine g_goto Z 251 dX7_readsAll_247 (by decide) ?_
          exact g_zret Z dX7_readsAll_251 (by rfl) (by omega) (by omega) (Or.inr ⟨rfl, V, D, W, hO.symm.trans (if_pos hbe), rfl, hS, ⟨by omega, by rw [hmn, he], hmc⟩, hR2, hfa⟩)
        · have hbe : ¬ b = N := fun q => h230 (by rw [q])
          refine g_aload_n Z dX7_readsAll_233 rfl ?_
          refine g_bipush (v := 9) Z dX7_readsAll_234 (by decide) ?_
          refine g_aload_n Z dX7_readsAll_236 rfl ?_
          refine m_get_aa Z in6 lk183 dX7_readsAll_237 ?_
          rw [haa]
          refine g_cvI Z (c_X7_fails F.l F.D F.cy F.nw A x ho _ _ _ _) 2 gX7_readsAll_X7_fails rfl (by decide +kernel) (by rw [hRf, hRl]; decide) (by exact mP_x) (κ := 6) (by exact mP_Kx) rfl (by decide) rfl rfl (Nat.le_of_ble_eq_true rfl) dX7_readsAll_240 (by rw [hRc, hRs]; omega) (fun r T2 hp => ?_)
          obtain ⟨rfl, rfl⟩ := hp
          refine g_if_eq Z 250 dX7_readsAll_243 (by decide) (fun h243 => ?_) (fun h243 => absurd (rfl) h243)
          refine g_iconst (v := 0) Z dX7_readsAll_250 (by decide) ?_
          exact g_zret Z dX7_readsAll_251 (by rfl) (by omega) (by omega) (Or.inl ⟨rfl, _, _, hO.symm.trans (if_neg hbe), D, _, rfl, ⟨w1, w2, w3⟩, rfl, rfl, hS⟩)
      · have hlt : V.1 < n := ge_f (by omega) (by omega) h19
        have hvv : ∀ g, pf = some g → nuB B (g + 4 * V.1) 4 < 2 ^ 32 := fun g hg => nuB_lt 4 (fun q hq => hB8 _ (by have := hpf g hg; omega))
        obtain ⟨m2, hm2⟩ : ∃ m2, n - V.1 = m2 + 1 := ⟨n - V.1 - 1, by omega⟩
        refine g_bipush (v := 96) Z dX7_readsAll_22 (by decide) ?_
        refine g_iload_n Z dX7_readsAll_24 rfl ?_
        refine g_iadd Z dX7_readsAll_25 ?_
        rw [ix96]
        refine g_istore_n Z dX7_readsAll_26 (by decide) ?_
        refine g_aload_n Z dX7_readsAll_27 rfl ?_
        refine m_ref_tl Z in6 lk38 dX7_readsAll_28 ?_
        refine g_iload_n Z dX7_readsAll_31 rfl ?_
        refine m_ald_tl Z ho dX7_readsAll_32 (by exact vp_in_nI (by omega) (by decide)) ?_
        rw [nI_clamp (by omega)]
        refine g_ldc2 (v := -1) Z dX7_readsAll_33 ct52 ?_
        refine g_lcmp Z dX7_readsAll_36 ?_
        refine g_if_eq Z 68 dX7_readsAll_37 (by decide) (fun h37 => ?_) (fun h37 => ?_)
        · have hnf := tl_n (N := N) htl hlt (lc_eq.mp h37) hvv
          have hct : rdCt B N rb V.1 (toR B p0 V.1) b pf = (rdCo B N rb V.1 (toR B p0 V.1) b) := by rw [hnf]; rfl
          refine g_iconst (v := 0) Z dX7_readsAll_68 (by decide) ?_
          refine g_istore_n Z dX7_readsAll_69 (by decide) ?_
          exact g_lv (by (repeat (first | exact trivial | refine And.intro rfl ?_)); done) (zr 1025 0 D.wd (by omega) ⟨by omega, hlt, hct, fun _ _ _ _ => rfl, fun l hl => by omega⟩)
        · obtain ⟨g, hg, htg, hpg⟩ := tl_s htl hlt (fun e => h37 (lc_eq.mpr e))
          have hv3 := hvv g hg
          refine g_aload_n Z dX7_readsAll_40 rfl ?_
          refine m_ref_tl Z in6 lk38 dX7_readsAll_41 ?_
          refine g_iload_n Z dX7_readsAll_44 rfl ?_
          refine m_ald_tl Z ho dX7_readsAll_45 (by exact vp_in_nI (by omega) (by decide)) ?_
          rw [nI_clamp (by omega), htg]
          refine g_aload_n Z dX7_readsAll_46 rfl ?_
          refine m_get_aa Z in6 lk183 dX7_readsAll_47 ?_
          rw [haa]
          refine g_i2l Z dX7_readsAll_50 ?_
          rw [nI_l (n := b) (by omega)]
          refine g_lcmp Z dX7_readsAll_51 ?_
          refine g_if_eq Z 68 dX7_readsAll_52 (by decide) (fun h52 => ?_) (fun h52 => ?_)
          · have hpq : nuB B (g + 4 * V.1) 4 = b := lN_jj (by omega) (by omega) (lc_eq.mp h52)
            have hct : rdCt B N rb V.1 (toR B p0 V.1) b pf = (rdCo B N rb V.1 (toR B p0 V.1) b) := by rw [hg]; exact if_pos hpq
            refine g_iconst (v := 0) Z dX7_readsAll_68 (by decide) ?_
            refine g_istore_n Z dX7_readsAll_69 (by decide) ?_
            exact g_lv (by (repeat (first | exact trivial | refine And.intro rfl ?_)); done) (zr 1025 0 D.wd (by omega) ⟨by omega, hlt, hct, fun _ _ _ _ => rfl, fun l hl => by omega⟩)
          · have hpq : ¬ nuB B (g + 4 * V.1) 4 = b := fun e => h52 (lc_eq.mpr (by rw [e]))
            have hct : rdCt B N rb V.1 (toR B p0 V.1) b pf = .inl (6, g + 4 * V.1) := by rw [hg]; exact if_neg hpq
            rw [hm2, rdCs_f hct] at hO
            refine g_aload_n Z dX7_readsAll_55 rfl ?_
            refine g_bipush (v := 6) Z dX7_readsAll_56 (by decide) ?_
            refine g_aload_n Z dX7_readsAll_58 rfl ?_
            refine m_ref_pl Z in6 lk35 dX7_readsAll_59 ?_
            refine g_iload_n Z dX7_readsAll_62 rfl ?_
            refine m_ald_pl Z ho dX7_readsAll_63 (by exact vp_in_nI (by omega) (by decide)) ?_
            rw [nI_clamp (by omega), hpg]
            refine g_cvI Z (c_X7_fails F.l F.D F.cy F.nw A x ho _ _ _ _) 2 gX7_readsAll_X7_fails rfl (by decide +kernel) (by rw [hRf, hRl]; decide) (by exact mP_x) (κ := 6) (by exact mP_Kx) rfl (by decide) rfl rfl (Nat.le_of_ble_eq_true rfl) dX7_readsAll_64 (by rw [hRc, hRs]; omega) (fun r T1 hp => ?_)
            obtain ⟨rfl, rfl⟩ := hp
            exact g_zret Z dX7_readsAll_67 (by rfl) (by omega) (by omega) (Or.inl ⟨rfl, _, _, hO.symm, D, _, rfl, ⟨w1, w2, w3⟩, rfl, rfl, hS⟩)
  refine g_aload_n Z dX7_readsAll_0 rfl ?_
  refine g_cvI Z (f_X7_readsHead F.l F.D F.cy F.nw A x ho C R N B hB ea) 0 gX7_readsAll_X7_readsHead rfl (by decide +kernel) (by rw [hRf, hRl]; decide) (by exact mP_x) (κ := 6) (by exact mP_Kx) rfl (by decide) rfl rfl (Nat.le_of_ble_eq_true rfl) dX7_readsAll_1 (by rw [hRc, hRs]; omega) (fun r T hp => ?_)
  have hq := hp
  refine g_if_ne Z 9 dX7_readsAll_4 (by decide) (fun h4 => ?_) (fun h4 => ?_)
  · obtain ⟨n, pl, rb, p, q, pf, E, W, hmk, hhs, hpc, rfl, hS, hmn, hky, hR2, hfa, haa, hbi, hhd, htl⟩ := (hq.resolve_left (fun z => h4 z.1)).2
    obtain ⟨hn, -, hrb, hpN⟩ := rdMk_ok hB8 hmk
    have hp4 := rdHs_le n 0 (by omega) hhs
    rw [Nat.zero_add] at hp4
    refine g_iconst (v := 0) Z dX7_readsAll_9 (by decide) ?_
    refine g_istore_n Z dX7_readsAll_10 (by decide) ?_
    exact g_lv (by (repeat (first | exact trivial | refine And.intro rfl ?_)); done) (loop n rb p pf hn hrb hp4 (fun g hg => by subst hg; exact rdPc_in hpc) (n + 1) q E W eS (by show n - 0 < n + 1; omega) ⟨Nat.zero_le _, rdPc_le hp4 hpc, hS, hmn, hky, fun j hj => absurd hj (Nat.not_lt_zero _), hR2, hfa, haa, hbi, hhd, htl, (rdSe_4 hmk hhs hpc).symm⟩)
  · obtain ⟨f, g, hrs, hrf⟩ : ∃ f g, rdSe B N = .inl (f, g) ∧ RfP A x C R f g T := by
      rcases hq with ⟨-, h⟩ | ⟨h, -⟩
      · exact h
      · rw [h] at h4; exact absurd h4 (by decide)
    refine g_iconst (v := 0) Z dX7_readsAll_7 (by decide) ?_
    exact g_zret Z dX7_readsAll_8 (by rfl) (by omega) (by omega) (Or.inl ⟨rfl, f, g, hrs, hrf⟩)

set_option maxRecDepth 100000 in
set_option maxHeartbeats 2000000 in
/-- bytes are read into a set -/
theorem f_X7_read_w (l : Launch) (D : va_G) (cy : Nat → ClassId) (nw : Nat) (A : Nat → Nat) (x : Nat) (ho : mOk A x) (C : C5) (R : MR) (V : Nat → Sv) (hM : MV C V) (hV : ∀ s, s < 8 → Vok (V s)) (w : Nat) (hw : w ≤ 300) (ew : R.wk = nI w) (N : Nat) (B : Nat → Nat) (hB : RBy R N B) (jt : Nat) (hjt : jt < 8) (hw1 : 1 ≤ w) : kI l yX7_read wsX7_read 5 115 D cy nw [.ref x, .int (nI jt)] (mP A x (C, R)) (fun r T => ∃ E Q V2, mP A x (E, Q) = T ∧ Q.wk = nI (w - 1) ∧ RBy Q N B ∧ MV E V2 ∧ ((∃ f g, rdSe B N = .inl (f, g) ∧ Q.fa = nI f ∧ r = -100 - nI g ∧ V2 = V) ∨ (∃ W, rdSe B N = .inr W ∧ Q.fa = nI 0 ∧ r = nI (sT W W.1) ∧ V2 = va_up V jt W))) 0 0 := by
  refine enterI (cc := cX7_read) (nL := 2) (ret := (some .int)) (by decide +kernel) rfl (Nat.le_of_ble_eq_true rfl) ?_
  intro F Z hl hR hD hcy hnw hnm
  subst hl hD hcy hnw
  have hRf : F.R.frames = 5 := by rw [hR]
  have hRc : F.R.cells = 0 := by rw [hR]
  have hRs : F.R.slots = 0 := by rw [hR]
  have hRl : F.R.locals = 115 := by rw [hR]
  have in6 : ∀ w ∈ u_ws RX7 TX7 16, w ∈ wsX7_read := by decide +kernel
  have lk27 : Cond.fieldLink RX7 27 (TX7 5).1 (TX7 5).2.1 (TX7 5).2.2.1 ∈ wsX7_read := by decide +kernel
  have lk177 : Cond.fieldLink RX7 177 (TX7 9).1 (TX7 9).2.1 (TX7 9).2.2.1 ∈ wsX7_read := by decide +kernel
  have lk180 : Cond.fieldLink RX7 180 (TX7 10).1 (TX7 10).2.1 (TX7 10).2.2.1 ∈ wsX7_read := by decide +kernel
  have lk183 : Cond.fieldLink RX7 183 (TX7 11).1 (TX7 11).2.1 (TX7 11).2.2.1 ∈ wsX7_read := by decide +kernel
  refine g_iload_n Z dX7_read_0 rfl ?_
  refine g_csI Z (c_X7_isSet F.l F.D F.cy F.nw _ _) 1 gX7_read_X7_isSet rfl (by decide +kernel) (by rw [hRf, hRl]; decide) rfl rfl (Nat.le_of_ble_eq_true rfl) dX7_read_1 (by rw [hRc, hRs]; omega) (fun r T hp => ?_)
  obtain ⟨rfl, his⟩ := hp
  refine g_if_ne Z 10 dX7_read_4 (by decide) (fun h4 => ?_) (fun h4 => absurd h4 (inR.y his (by omega)))
  refine g_aload_n Z dX7_read_10 rfl ?_
  refine m_get_wk Z in6 lk27 dX7_read_11 ?_
  rw [ew]
  refine g_iconst (v := 1) Z dX7_read_14 (by decide) ?_
  refine g_icmp_ge Z 21 dX7_read_15 (by decide) (fun h15 => ?_) (fun h15 => absurd (nI_le (a := 1) hw1 (by omega)) h15)
  refine g_aload_n Z dX7_read_21 rfl ?_
  refine g_dup Z dX7_read_22 rfl ?_
  refine m_get_wk Z in6 lk27 dX7_read_23 ?_
  rw [ew]
  refine g_iconst (v := 1) Z dX7_read_26 (by decide) ?_
  refine g_isub Z dX7_read_27 ?_
  rw [s1' hw1]
  refine m_put_wk Z in6 lk27 dX7_read_28 ?_
  refine g_aload_n Z dX7_read_31 rfl ?_
  refine g_iconst (v := 0) Z dX7_read_32 (by decide) ?_
  refine m_put_fa Z in6 lk177 dX7_read_33 ?_
  refine g_aload_n Z dX7_read_36 rfl ?_
  refine g_iconst (v := 0) Z dX7_read_37 (by decide) ?_
  refine m_put_aa Z in6 lk183 dX7_read_38 ?_
  refine g_aload_n Z dX7_read_41 rfl ?_
  refine g_cvI Z (f_X7_readsAll F.l F.D F.cy F.nw A x ho C (((R.s_wk (nI (w - 1))).s_fa 0).s_aa 0) N B hB rfl) 0 gX7_read_X7_readsAll rfl (by decide +kernel) (by rw [hRf, hRl]; decide) (by exact mP_x) (κ := 6) (by exact mP_Kx) rfl (by decide) rfl rfl (Nat.le_of_ble_eq_true rfl) dX7_read_42 (by rw [hRc, hRs]; omega) (fun r2 T2 hp => ?_)
  have hq := hp
  refine g_if_ne Z 56 dX7_read_45 (by decide) (fun h45 => ?_) (fun h45 => ?_)
  · obtain ⟨W, E, Q, hrs, rfl, hS, hms, hR2, hfa⟩ := (hq.resolve_left (fun z => h45 z.1)).2
    have hME := hM.oth (s := 16) (by omega) hS
    refine g_aload_n Z dX7_read_56 rfl ?_
    refine g_bipush (v := 16) Z dX7_read_57 (by decide) ?_
    refine g_iload_n Z dX7_read_59 rfl ?_
    refine g_cvV Z (f_X7_copySet F.l F.D F.cy F.nw A x ho _ _ 16 jt (by decide) (by omega) (by omega) W hms) 2 gX7_read_X7_copySet rfl (by decide +kernel) (by rw [hRf, hRl]; decide) (by exact mP_x) (κ := 6) (by exact mP_Kx) rfl (by decide) rfl rfl (Nat.le_of_ble_eq_true rfl) dX7_read_60 (by rw [hRc, hRs]; omega) (fun T5 hp => ?_)
    obtain ⟨E2, rfl, k1, k2⟩ := hp
    refine g_aload_n Z dX7_read_63 rfl ?_
    refine g_iload_n Z dX7_read_64 rfl ?_
    refine g_cvI Z (f_X7_all F.l F.D F.cy F.nw A x ho _ _ jt (by omega) W k2) 1 gX7_read_X7_all rfl (by decide +kernel) (by rw [hRf, hRl]; decide) (by exact mP_x) (κ := 6) (by exact mP_Kx) rfl (by decide) rfl rfl (Nat.le_of_ble_eq_true rfl) dX7_read_65 (by rw [hRc, hRs]; omega) (fun r6 T6 hp => ?_)
    obtain ⟨rfl, rfl⟩ := hp
    exact g_iret Z dX7_read_68 (by omega) (by omega) (⟨E2, Q, _, rfl, hR2.1, hR2.by (R := (((R.s_wk (nI (w - 1))).s_fa 0).s_aa 0)) hB, hME.one k1 k2, Or.inr ⟨W, hrs, hfa, rfl, rfl⟩⟩)
  · obtain ⟨f, g, hrs, E, Q, rfl, hR2, hfa, hfp, hS⟩ : ∃ f g, rdSe B N = .inl (f, g) ∧ RfP A x C (((R.s_wk (nI (w - 1))).s_fa 0).s_aa 0) f g T2 := by
      rcases hq with ⟨-, h⟩ | ⟨h, -⟩
      · exact h
      · rw [h] at h45; exact absurd h45 (by decide)
    have hME := hM.oth (s := 16) (by omega) hS
    refine g_bipush (v := (-100)) Z dX7_read_48 (by decide) ?_
    refine g_aload_n Z dX7_read_50 rfl ?_
    refine m_get_fp Z in6 lk180 dX7_read_51 ?_
    rw [hfp]
    refine g_isub Z dX7_read_54 ?_
    exact g_iret Z dX7_read_55 (by omega) (by omega) (⟨E, Q, V, rfl, hR2.1, hR2.by (R := (((R.s_wk (nI (w - 1))).s_fa 0).s_aa 0)) hB, hME, Or.inl ⟨f, g, hrs, hfa, rfl, rfl⟩⟩)

set_option maxRecDepth 100000 in
set_option maxHeartbeats 2000000 in
/-- a reading that is refused -/
theorem f_X7_read_n (l : Launch) (D : va_G) (cy : Nat → ClassId) (nw : Nat) (A : Nat → Nat) (x : Nat) (ho : mOk A x) (C : C5) (R : MR) (w : Nat) (hw : w ≤ 300) (ew : R.wk = nI w) (a : Int32) (hno : ¬ (isS a ∧ 1 ≤ w)) : kI l yX7_read wsX7_read 2 45 D cy nw [.ref x, .int a] (mP A x (C, R)) (fun r T => (mP A x (C, R)) = T ∧ ((isS a ∧ r = -5) ∨ (¬ isS a ∧ r = -2))) 0 0 := by
  refine enterI (cc := cX7_read) (nL := 2) (ret := (some .int)) (by decide +kernel) rfl (Nat.le_of_ble_eq_true rfl) ?_
  intro F Z hl hR hD hcy hnw hnm
  subst hl hD hcy hnw
  have hRf : F.R.frames = 2 := by rw [hR]
  have hRc : F.R.cells = 0 := by rw [hR]
  have hRs : F.R.slots = 0 := by rw [hR]
  have hRl : F.R.locals = 45 := by rw [hR]
  have in6 : ∀ w ∈ u_ws RX7 TX7 16, w ∈ wsX7_read := by decide +kernel
  have lk27 : Cond.fieldLink RX7 27 (TX7 5).1 (TX7 5).2.1 (TX7 5).2.2.1 ∈ wsX7_read := by decide +kernel
  refine g_iload_n Z dX7_read_0 rfl ?_
  refine g_csI Z (c_X7_isSet F.l F.D F.cy F.nw _ _) 1 gX7_read_X7_isSet rfl (by decide +kernel) (by rw [hRf, hRl]; decide) rfl rfl (Nat.le_of_ble_eq_true rfl) dX7_read_1 (by rw [hRc, hRs]; omega) (fun r T hp => ?_)
  obtain ⟨rfl, his⟩ := hp
  refine g_if_ne Z 10 dX7_read_4 (by decide) (fun h4 => ?_) (fun h4 => ?_)
  · obtain ⟨s, hs, rfl⟩ := his.is h4
    refine g_aload_n Z dX7_read_10 rfl ?_
    refine m_get_wk Z in6 lk27 dX7_read_11 ?_
    rw [ew]
    refine g_iconst (v := 1) Z dX7_read_14 (by decide) ?_
    refine g_icmp_ge Z 21 dX7_read_15 (by decide) (fun h15 => ?_) (fun h15 => ?_)
    · exact absurd ⟨isS_of hs, ge_t (N := 1) (by omega) (by decide) h15⟩ hno
    · refine g_bipush (v := (-5)) Z dX7_read_18 (by decide) ?_
      exact g_iret Z dX7_read_20 (by omega) (by omega) (⟨rfl, Or.inl ⟨isS_of hs, rfl⟩⟩)
  · refine g_bipush (v := (-2)) Z dX7_read_7 (by decide) ?_
    exact g_iret Z dX7_read_9 (by omega) (by omega) (⟨rfl, Or.inr ⟨his.nS h4, rfl⟩⟩)

set_option maxRecDepth 100000 in
set_option maxHeartbeats 2000000 in
/-- fault -/
theorem f_X7_fault (l : Launch) (D : va_G) (cy : Nat → ClassId) (nw : Nat) (A : Nat → Nat) (x : Nat) (ho : mOk A x) (C : C5) (R : MR)  : kI l yX7_fault wsX7_fault 0 0 D cy nw [.ref x] (mP A x (C, R)) (fun r T => (mP A x (C, R)) = T ∧ r = R.fa) 0 0 := by
  refine enterI (cc := cX7_fault) (nL := 1) (ret := (some .int)) (by decide +kernel) rfl (Nat.le_of_ble_eq_true rfl) ?_
  intro F Z hl hR hD hcy hnw hnm
  subst hl hD hcy hnw
  have hRf : F.R.frames = 0 := by rw [hR]
  have hRc : F.R.cells = 0 := by rw [hR]
  have hRs : F.R.slots = 0 := by rw [hR]
  have hRl : F.R.locals = 0 := by rw [hR]
  have in6 : ∀ w ∈ u_ws RX7 TX7 16, w ∈ wsX7_fault := by decide +kernel
  have lk177 : Cond.fieldLink RX7 177 (TX7 9).1 (TX7 9).2.1 (TX7 9).2.2.1 ∈ wsX7_fault := by decide +kernel
  refine g_aload_n Z dX7_fault_0 rfl ?_
  refine m_get_fa Z in6 lk177 dX7_fault_1 ?_
  exact g_iret Z dX7_fault_4 (by omega) (by omega) (⟨rfl, rfl⟩)

set_option maxRecDepth 100000 in
set_option maxHeartbeats 2000000 in
/-- size -/
theorem f_X7_size (l : Launch) (D : va_G) (cy : Nat → ClassId) (nw : Nat) (A : Nat → Nat) (x : Nat) (ho : mOk A x) (C : C5) (R : MR)  : kI l yX7_size wsX7_size 0 0 D cy nw [.ref x] (mP A x (C, R)) (fun r T => (mP A x (C, R)) = T ∧ r = R.si) 0 0 := by
  refine enterI (cc := cX7_size) (nL := 1) (ret := (some .int)) (by decide +kernel) rfl (Nat.le_of_ble_eq_true rfl) ?_
  intro F Z hl hR hD hcy hnw hnm
  subst hl hD hcy hnw
  have hRf : F.R.frames = 0 := by rw [hR]
  have hRc : F.R.cells = 0 := by rw [hR]
  have hRs : F.R.slots = 0 := by rw [hR]
  have hRl : F.R.locals = 0 := by rw [hR]
  have in6 : ∀ w ∈ u_ws RX7 TX7 16, w ∈ wsX7_size := by decide +kernel
  have lk174 : Cond.fieldLink RX7 174 (TX7 6).1 (TX7 6).2.1 (TX7 6).2.2.1 ∈ wsX7_size := by decide +kernel
  refine g_aload_n Z dX7_size_0 rfl ?_
  refine m_get_si Z in6 lk174 dX7_size_1 ?_
  exact g_iret Z dX7_size_4 (by omega) (by omega) (⟨rfl, rfl⟩)

set_option maxRecDepth 100000 in
set_option maxHeartbeats 2000000 in
/-- work -/
theorem f_X7_work (l : Launch) (D : va_G) (cy : Nat → ClassId) (nw : Nat) (A : Nat → Nat) (x : Nat) (ho : mOk A x) (C : C5) (R : MR)  : kI l yX7_work wsX7_work 0 0 D cy nw [.ref x] (mP A x (C, R)) (fun r T => (mP A x (C, R)) = T ∧ r = R.wk) 0 0 := by
  refine enterI (cc := cX7_work) (nL := 1) (ret := (some .int)) (by decide +kernel) rfl (Nat.le_of_ble_eq_true rfl) ?_
  intro F Z hl hR hD hcy hnw hnm
  subst hl hD hcy hnw
  have hRf : F.R.frames = 0 := by rw [hR]
  have hRc : F.R.cells = 0 := by rw [hR]
  have hRs : F.R.slots = 0 := by rw [hR]
  have hRl : F.R.locals = 0 := by rw [hR]
  have in6 : ∀ w ∈ u_ws RX7 TX7 16, w ∈ wsX7_work := by decide +kernel
  have lk27 : Cond.fieldLink RX7 27 (TX7 5).1 (TX7 5).2.1 (TX7 5).2.2.1 ∈ wsX7_work := by decide +kernel
  refine g_aload_n Z dX7_work_0 rfl ?_
  refine m_get_wk Z in6 lk27 dX7_work_1 ?_
  exact g_iret Z dX7_work_4 (by omega) (by omega) (⟨rfl, rfl⟩)

set_option maxRecDepth 100000 in
set_option maxHeartbeats 2000000 in
/-- bytes are cut off -/
theorem f_X7_cut (l : Launch) (D : va_G) (cy : Nat → ClassId) (nw : Nat) (A : Nat → Nat) (x : Nat) (ho : mOk A x) (C : C5) (R : MR) (N : Nat) (B : Nat → Nat) (hB : RBy R N B) (a : Int32) : kI l yX7_cut wsX7_cut 1 25 D cy nw [.ref x, .int a] (mP A x (C, R)) (fun r T => (∃ k, k ≤ N ∧ a = nI k ∧ r = nI (N - k) ∧ ∃ Q, mP A x (C, Q) = T ∧ Q.wk = R.wk ∧ Q.fa = R.fa ∧ RBy Q k B) ∨ ((¬ ∃ k : Nat, k ≤ N ∧ a = nI k) ∧ r = -2 ∧ (mP A x (C, R)) = T)) 0 0 := by
  refine enterI (cc := cX7_cut) (nL := 3) (ret := (some .int)) (by decide +kernel) rfl (Nat.le_of_ble_eq_true rfl) ?_
  intro F Z hl hR hD hcy hnw hnm
  subst hl hD hcy hnw
  have hRf : F.R.frames = 1 := by rw [hR]
  have hRc : F.R.cells = 0 := by rw [hR]
  have hRs : F.R.slots = 0 := by rw [hR]
  have hRl : F.R.locals = 25 := by rw [hR]
  have in6 : ∀ w ∈ u_ws RX7 TX7 16, w ∈ wsX7_cut := by decide +kernel
  have lk174 : Cond.fieldLink RX7 174 (TX7 6).1 (TX7 6).2.1 (TX7 6).2.2.1 ∈ wsX7_cut := by decide +kernel
  obtain ⟨eN, hN, hBB⟩ := id hB
  refine g_iload_n Z dX7_cut_0 rfl ?_
  refine g_i2l Z dX7_cut_1 ?_
  refine g_lconst (v := 0) Z dX7_cut_2 (by decide) ?_
  refine g_aload_n Z dX7_cut_3 rfl ?_
  refine m_get_si Z in6 lk174 dX7_cut_4 ?_
  rw [eN]
  refine g_i2l Z dX7_cut_7 ?_
  rw [nI_l (by omega)]
  refine g_csI Z (c_X7_in F.l F.D F.cy F.nw _ _ _ _) 3 gX7_cut_X7_in rfl (by decide +kernel) (by rw [hRf, hRl]; decide) rfl rfl (Nat.le_of_ble_eq_true rfl) dX7_cut_8 (by rw [hRc, hRs]; omega) (fun r T hp => ?_)
  obtain ⟨rfl, hi0⟩ := hp
  have hi := in_R (x := a) (a := 0) (b := N) (by decide) (by omega) hi0
  refine g_if_ne Z 17 dX7_cut_11 (by decide) (fun h11 => ?_) (fun h11 => ?_)
  · obtain ⟨j, hj, rfl⟩ := hi.is h11
    refine g_aload_n Z dX7_cut_17 rfl ?_
    refine m_get_si Z in6 lk174 dX7_cut_18 ?_
    rw [eN]
    refine g_iload_n Z dX7_cut_21 rfl ?_
    refine g_isub Z dX7_cut_22 ?_
    rw [nI_sb hj]
    refine g_istore_n Z dX7_cut_23 (by decide) ?_
    refine g_aload_n Z dX7_cut_24 rfl ?_
    refine g_iload_n Z dX7_cut_25 rfl ?_
    refine m_put_si Z in6 lk174 dX7_cut_26 ?_
    refine g_iload_n Z dX7_cut_29 rfl ?_
    exact g_iret Z dX7_cut_30 (by omega) (by omega) (Or.inl ⟨j, hj, rfl, rfl, _, rfl, rfl, rfl, rfl, by omega, fun i hi => hBB i (by omega)⟩)
  · have hbad : ¬ ∃ k : Nat, k ≤ N ∧ a = nI k := fun ⟨k, h2, h3⟩ => hi.f h11 ⟨k, by omega, h2, h3⟩
    refine g_bipush (v := (-2)) Z dX7_cut_14 (by decide) ?_
    exact g_iret Z dX7_cut_16 (by omega) (by omega) (Or.inr ⟨hbad, rfl, rfl⟩)

theorem sg_bys (y : Int64) {k : Nat} (hk : k < 8) : sg y k = bys (wv y) k := by
  have h : lsr (lN (wv y)) (8 * nI k) = lN (wv y / 2 ^ (8 * k)) := by
    rw [show (8 : Int32) * nI k = nI (8 * k) from pk_mul 8 k]
    exact lsr_n (wv_lt y) (8 * k) (by omega)
  rw [lN_wv] at h
  unfold sg
  rw [h]
  show wv (lN (wv y / 2 ^ (8 * k))) % 256 = _
  rw [wv_lN (Nat.lt_of_le_of_lt (Nat.div_le_self _ _) (wv_lt y))]
  rfl
theorem RBy.put {R : MR} {N k v : Nat} {B : Nat → Nat} (h : RBy R (N + k) (ptB B N v)) (hl : N + k < 60000) : RBy ((R.s_bt (upd R.bt (N + k) (nI (bys v k)))).s_si (nI (N + k + 1))) (N + (k + 1)) (ptB B N v) := by
  obtain ⟨h1, h2, h3⟩ := h
  refine ⟨rfl, by omega, fun i hi => ?_⟩
  show _ ∧ upd R.bt (N + k) (nI (bys v k)) i = _
  by_cases e : i = N + k
  · subst e; rw [pk_us, ptB_hi]; exact ⟨bys_lt _ _, rfl⟩
  · rw [pk_un e]; exact h3 i (by omega)

set_option maxRecDepth 100000 in
set_option maxHeartbeats 2000000 in
/-- bytes are typed -/
theorem f_X7_type (l : Launch) (D : va_G) (cy : Nat → ClassId) (nw : Nat) (A : Nat → Nat) (x : Nat) (ho : mOk A x) (C : C5) (R : MR) (N : Nat) (B : Nat → Nat) (hB : RBy R N B) (y : Int64) (a : Int32) : kI l yX7_type wsX7_type 1 25 D cy nw [.ref x, .long y, .int a] (mP A x (C, R)) (fun r T => (∃ k, k ≤ 8 ∧ N + k ≤ 60000 ∧ a = nI k ∧ r = nI (N + k) ∧ ∃ Q, mP A x (C, Q) = T ∧ Q.wk = R.wk ∧ Q.fa = R.fa ∧ RBy Q (N + k) (ptB B N (wv y))) ∨ ((¬ ∃ k : Nat, k ≤ 8 ∧ N + k ≤ 60000 ∧ a = nI k) ∧ (mP A x (C, R)) = T ∧ (((∃ k : Nat, k ≤ 8 ∧ a = nI k) ∧ r = -4) ∨ ((¬ ∃ k : Nat, k ≤ 8 ∧ a = nI k) ∧ r = -2)))) 0 0 := by
  refine enterI (cc := cX7_type) (nL := 5) (ret := (some .int)) (by decide +kernel) rfl (Nat.le_of_ble_eq_true rfl) ?_
  intro F Z hl hR hD hcy hnw hnm
  subst hl hD hcy hnw
  have hRf : F.R.frames = 1 := by rw [hR]
  have hRc : F.R.cells = 0 := by rw [hR]
  have hRs : F.R.slots = 0 := by rw [hR]
  have hRl : F.R.locals = 25 := by rw [hR]
  have in6 : ∀ w ∈ u_ws RX7 TX7 16, w ∈ wsX7_type := by decide +kernel
  have lk32 : Cond.fieldLink RX7 32 (TX7 7).1 (TX7 7).2.1 (TX7 7).2.2.1 ∈ wsX7_type := by decide +kernel
  have lk174 : Cond.fieldLink RX7 174 (TX7 6).1 (TX7 6).2.1 (TX7 6).2.2.1 ∈ wsX7_type := by decide +kernel
  have ct31 : Cond.constant RX7 31 (60000) ∈ wsX7_type := by decide +kernel
  have ct124 : Cond.constantLong RX7 124 (255) ∈ wsX7_type := by decide +kernel
  have ct130 : Cond.constantLong RX7 130 (8) ∈ wsX7_type := by decide +kernel
  obtain ⟨eN, hN, hBB⟩ := id hB
  have loop : ∀ (n0 : Nat), a = nI n0 → n0 ≤ 8 → N + n0 ≤ 60000 → ∀ (i k : Nat) (W : MR), n0 - k < i → (k ≤ n0 ∧ W.wk = R.wk ∧ W.fa = R.fa ∧ RBy W (N + k) (ptB B N (wv y))) → G F 5 (mP A x (C, W)) 0 0 (QI F (fun r T => (∃ k, k ≤ 8 ∧ N + k ≤ 60000 ∧ a = nI k ∧ r = nI (N + k) ∧ ∃ Q, mP A x (C, Q) = T ∧ Q.wk = R.wk ∧ Q.fa = R.fa ∧ RBy Q (N + k) (ptB B N (wv y))) ∨ ((¬ ∃ k : Nat, k ≤ 8 ∧ N + k ≤ 60000 ∧ a = nI k) ∧ (mP A x (C, R)) = T ∧ (((∃ k : Nat, k ≤ 8 ∧ a = nI k) ∧ r = -4) ∨ ((¬ ∃ k : Nat, k ≤ 8 ∧ a = nI k) ∧ r = -2)))) 0 0) 32 [(0, .ref x), (1, .long y), (3, .int (nI n0)), (4, .int (nI k))] [] := by
    intro n0 ea hn0 hNn i
    induction i with
    | zero => intros; omega
    | succ i ih =>
      intro k W hm ⟨hk, w1, w2, w3⟩
      refine g_iload Z dX7_type_32 rfl ?_
      refine g_iload_n Z dX7_type_34 rfl ?_
      refine g_icmp_ge Z 75 dX7_type_35 (by decide) (fun h35 => ?_) (fun h35 => ?_)
      · have he : k = n0 := by have := ge_t (i := k) (N := n0) (by omega) (by omega) h35; omega
        subst he
        refine g_aload_n Z dX7_type_75 rfl ?_
        refine m_get_si Z in6 lk174 dX7_type_76 ?_
        rw [w3.1]
        exact g_iret Z dX7_type_79 (by omega) (by omega) (Or.inl ⟨k, hn0, hNn, ea, rfl, W, rfl, w1, w2, w3⟩)
      · have hlt : k < n0 := ge_f (by omega) (by omega) h35
        have hst := w3.put (by omega)
        refine g_aload_n Z dX7_type_38 rfl ?_
        refine m_ref_bt Z in6 lk32 dX7_type_39 ?_
        refine g_aload_n Z dX7_type_42 rfl ?_
        refine m_get_si Z in6 lk174 dX7_type_43 ?_
        rw [w3.1]
        refine g_lload_n Z dX7_type_46 rfl ?_
        refine g_bipush (v := 8) Z dX7_type_47 (by decide) ?_
        refine g_iload Z dX7_type_49 rfl ?_
        refine g_imul Z dX7_type_51 ?_
        refine g_lushr Z dX7_type_52 ?_
        refine g_ldc2 (v := 255) Z dX7_type_53 ct124 ?_
        refine g_land Z dX7_type_56 ?_
        refine g_l2i Z dX7_type_57 ?_
        rw [sg_m y k, sg_bys y (by omega)]
        refine m_ast_bt Z ho dX7_type_58 (by exact vp_in_nI (by omega) (by decide)) ?_
        rw [nI_clamp (by omega)]
        refine g_aload_n Z dX7_type_59 rfl ?_
        refine g_dup Z dX7_type_60 rfl ?_
        refine m_get_si Z in6 lk174 dX7_type_61 ?_
        rw [show MR.si (W.s_bt (upd W.bt (N + k) (nI (bys (wv y) k)))) = nI (N + k) from w3.1]
        refine g_iconst (v := 1) Z dX7_type_64 (by decide) ?_
        refine g_iadd Z dX7_type_65 ?_
        rw [nI_1]
        refine m_put_si Z in6 lk174 dX7_type_66 ?_
        refine g_iinc (c := 1) Z dX7_type_69 rfl (by decide) (by decide) ?_
        rw [nI_1]
        refine g_goto Z 32 dX7_type_72 (by decide) ?_
        exact g_lv (by (repeat (first | exact trivial | refine And.intro rfl ?_)); done) (ih (k + 1) _ (by omega) ⟨by omega, w1, w2, hst⟩)
  refine g_iload_n Z dX7_type_0 rfl ?_
  refine g_i2l Z dX7_type_1 ?_
  refine g_lconst (v := 0) Z dX7_type_2 (by decide) ?_
  refine g_ldc2 (v := 8) Z dX7_type_3 ct130 ?_
  refine g_csI Z (c_X7_in F.l F.D F.cy F.nw _ _ _ _) 3 gX7_type_X7_in rfl (by decide +kernel) (by rw [hRf, hRl]; decide) rfl rfl (Nat.le_of_ble_eq_true rfl) dX7_type_6 (by rw [hRc, hRs]; omega) (fun r T hp => ?_)
  obtain ⟨rfl, hi0⟩ := hp
  have hi := in_R (x := a) (a := 0) (b := 8) (by decide) (by omega) hi0
  refine g_if_ne Z 15 dX7_type_9 (by decide) (fun h9 => ?_) (fun h9 => ?_)
  · obtain ⟨j, hj, rfl⟩ := hi.is h9
    refine g_aload_n Z dX7_type_15 rfl ?_
    refine m_get_si Z in6 lk174 dX7_type_16 ?_
    rw [eN]
    refine g_iload_n Z dX7_type_19 rfl ?_
    refine g_iadd Z dX7_type_20 ?_
    rw [nI_add]
    refine g_ldc (v := 60000) Z dX7_type_21 ct31 ?_
    refine g_icmp_le Z 29 dX7_type_23 (by decide) (fun h23 => ?_) (fun h23 => ?_)
    · have hle : N + j ≤ 60000 := le_t (N := 60000) (by omega) (by decide) h23
      refine g_iconst (v := 0) Z dX7_type_29 (by decide) ?_
      refine g_istore Z dX7_type_30 (by decide) ?_
      exact g_lv (by (repeat (first | exact trivial | refine And.intro rfl ?_)); done) (loop j rfl hj hle (j + 1) 0 R (by omega) ⟨by omega, rfl, rfl, eN, hN, fun i hi => by rw [ptB_lo (by omega)]; exact hBB i (by omega)⟩)
    · have hle : ¬ N + j ≤ 60000 := fun q => h23 ((nI_leI (b := 60000) (by omega) (by decide)).mpr q)
      refine g_bipush (v := (-4)) Z dX7_type_26 (by decide) ?_
      exact g_iret Z dX7_type_28 (by omega) (by omega) (Or.inr ⟨fun ⟨k, h1, h2, h3⟩ => hle (by rw [(nI_eq (by omega) (by omega)).mp h3]; exact h2), rfl, Or.inl ⟨⟨j, hj, rfl⟩, rfl⟩⟩)
  · have hbad : ¬ ∃ k : Nat, k ≤ 8 ∧ a = nI k := fun ⟨k, h2, h3⟩ => hi.f h9 ⟨k, by omega, h2, h3⟩
    refine g_bipush (v := (-2)) Z dX7_type_12 (by decide) ?_
    exact g_iret Z dX7_type_14 (by omega) (by omega) (Or.inr ⟨fun ⟨k, h1, _, h3⟩ => hbad ⟨k, h1, h3⟩, rfl, Or.inr ⟨hbad, rfl⟩⟩)

theorem in_mNf {k r : Int32} {n0 : Nat} (hn : n0 ≤ 60000) (h : (r = 1 ∧ (0 : Int64) ≤ k.toInt64 ∧ k.toInt64 ≤ (nI n0 - 1).toInt64) ∨ (r = 0 ∧ ¬ ((0 : Int64) ≤ k.toInt64 ∧ k.toInt64 ≤ (nI n0 - 1).toInt64))) (h0 : r = 0) : ¬ ∃ j, j < n0 ∧ k = nI j := by
  rintro ⟨j, hj, rfl⟩
  rcases h with ⟨h1, -⟩ | ⟨-, h1⟩
  · exact absurd (h1.symm.trans h0) (by decide)
  · apply h1
    rw [Int64.le_iff_toInt_le, Int64.le_iff_toInt_le, Int32.toInt_toInt64, Int32.toInt_toInt64, show nI n0 - 1 = nI n0 - nI 1 from rfl, pk_sub_toInt (by omega) (by decide), nI_toInt (by omega)]
    have e : (0 : Int64).toInt = 0 := rfl
    rw [e]
    omega

set_option maxRecDepth 100000 in
set_option maxHeartbeats 2000000 in
/-- a byte -/
theorem f_X7_at (l : Launch) (D : va_G) (cy : Nat → ClassId) (nw : Nat) (A : Nat → Nat) (x : Nat) (ho : mOk A x) (C : C5) (R : MR) (N : Nat) (B : Nat → Nat) (hB : RBy R N B) (a : Int32) : kI l yX7_at wsX7_at 1 25 D cy nw [.ref x, .int a] (mP A x (C, R)) (fun r T => (mP A x (C, R)) = T ∧ ((∃ j, j < N ∧ a = nI j ∧ r = nI (B j)) ∨ ((¬ ∃ j : Nat, j < N ∧ a = nI j) ∧ r = -2))) 0 0 := by
  refine enterI (cc := cX7_at) (nL := 2) (ret := (some .int)) (by decide +kernel) rfl (Nat.le_of_ble_eq_true rfl) ?_
  intro F Z hl hR hD hcy hnw hnm
  subst hl hD hcy hnw
  have hRf : F.R.frames = 1 := by rw [hR]
  have hRc : F.R.cells = 0 := by rw [hR]
  have hRs : F.R.slots = 0 := by rw [hR]
  have hRl : F.R.locals = 25 := by rw [hR]
  have in6 : ∀ w ∈ u_ws RX7 TX7 16, w ∈ wsX7_at := by decide +kernel
  have lk32 : Cond.fieldLink RX7 32 (TX7 7).1 (TX7 7).2.1 (TX7 7).2.2.1 ∈ wsX7_at := by decide +kernel
  have lk174 : Cond.fieldLink RX7 174 (TX7 6).1 (TX7 6).2.1 (TX7 6).2.2.1 ∈ wsX7_at := by decide +kernel
  obtain ⟨eN, hN, hBB⟩ := id hB
  refine g_iload_n Z dX7_at_0 rfl ?_
  refine g_i2l Z dX7_at_1 ?_
  refine g_lconst (v := 0) Z dX7_at_2 (by decide) ?_
  refine g_aload_n Z dX7_at_3 rfl ?_
  refine m_get_si Z in6 lk174 dX7_at_4 ?_
  rw [eN]
  refine g_iconst (v := 1) Z dX7_at_7 (by decide) ?_
  refine g_isub Z dX7_at_8 ?_
  refine g_i2l Z dX7_at_9 ?_
  refine g_csI Z (c_X7_in F.l F.D F.cy F.nw _ _ _ _) 3 gX7_at_X7_in rfl (by decide +kernel) (by rw [hRf, hRl]; decide) rfl rfl (Nat.le_of_ble_eq_true rfl) dX7_at_10 (by rw [hRc, hRs]; omega) (fun r T hp => ?_)
  obtain ⟨rfl, hi0⟩ := hp
  refine g_if_eq Z 25 dX7_at_13 (by decide) (fun h13 => ?_) (fun h13 => ?_)
  · have hbad := in_mNf hN hi0 h13
    refine g_bipush (v := (-2)) Z dX7_at_25 (by decide) ?_
    exact g_iret Z dX7_at_27 (by omega) (by omega) (⟨rfl, by first | exact Or.inl ⟨j, hj, rfl, rfl⟩ | exact Or.inr ⟨hbad, rfl⟩⟩)
  · obtain ⟨j, hj, rfl⟩ := in_mN hN hi0 h13
    refine g_aload_n Z dX7_at_16 rfl ?_
    refine m_ref_bt Z in6 lk32 dX7_at_17 ?_
    refine g_iload_n Z dX7_at_20 rfl ?_
    refine m_ald_bt Z ho dX7_at_21 (by exact vp_in_nI (by omega) (by decide)) ?_
    rw [nI_clamp (by omega), (hBB j hj).2]
    refine g_goto Z 27 dX7_at_22 (by decide) ?_
    exact g_iret Z dX7_at_27 (by omega) (by omega) (⟨rfl, by first | exact Or.inl ⟨j, hj, rfl, rfl⟩ | exact Or.inr ⟨hbad, rfl⟩⟩)

set_option maxRecDepth 100000 in
set_option maxHeartbeats 2000000 in
/-- a byte is altered -/
theorem f_X7_alter (l : Launch) (D : va_G) (cy : Nat → ClassId) (nw : Nat) (A : Nat → Nat) (x : Nat) (ho : mOk A x) (C : C5) (R : MR) (N : Nat) (B : Nat → Nat) (hB : RBy R N B) (a v : Int32) : kI l yX7_alter wsX7_alter 1 25 D cy nw [.ref x, .int a, .int v] (mP A x (C, R)) (fun r T => (∃ j q, j < N ∧ a = nI j ∧ q < 256 ∧ v = nI q ∧ r = nI (B j) ∧ ∃ Q, mP A x (C, Q) = T ∧ Q.wk = R.wk ∧ Q.fa = R.fa ∧ RBy Q N (va_up B j q)) ∨ ((¬ ∃ j q : Nat, j < N ∧ a = nI j ∧ q < 256 ∧ v = nI q) ∧ r = -2 ∧ (mP A x (C, R)) = T)) 0 0 := by
  refine enterI (cc := cX7_alter) (nL := 4) (ret := (some .int)) (by decide +kernel) rfl (Nat.le_of_ble_eq_true rfl) ?_
  intro F Z hl hR hD hcy hnw hnm
  subst hl hD hcy hnw
  have hRf : F.R.frames = 1 := by rw [hR]
  have hRc : F.R.cells = 0 := by rw [hR]
  have hRs : F.R.slots = 0 := by rw [hR]
  have hRl : F.R.locals = 25 := by rw [hR]
  have in6 : ∀ w ∈ u_ws RX7 TX7 16, w ∈ wsX7_alter := by decide +kernel
  have lk32 : Cond.fieldLink RX7 32 (TX7 7).1 (TX7 7).2.1 (TX7 7).2.2.1 ∈ wsX7_alter := by decide +kernel
  have lk174 : Cond.fieldLink RX7 174 (TX7 6).1 (TX7 6).2.1 (TX7 6).2.2.1 ∈ wsX7_alter := by decide +kernel
  have ct124 : Cond.constantLong RX7 124 (255) ∈ wsX7_alter := by decide +kernel
  obtain ⟨eN, hN, hBB⟩ := id hB
  refine g_iload_n Z dX7_alter_0 rfl ?_
  refine g_i2l Z dX7_alter_1 ?_
  refine g_lconst (v := 0) Z dX7_alter_2 (by decide) ?_
  refine g_aload_n Z dX7_alter_3 rfl ?_
  refine m_get_si Z in6 lk174 dX7_alter_4 ?_
  rw [eN]
  refine g_iconst (v := 1) Z dX7_alter_7 (by decide) ?_
  refine g_isub Z dX7_alter_8 ?_
  refine g_i2l Z dX7_alter_9 ?_
  refine g_csI Z (c_X7_in F.l F.D F.cy F.nw _ _ _ _) 3 gX7_alter_X7_in rfl (by decide +kernel) (by rw [hRf, hRl]; decide) rfl rfl (Nat.le_of_ble_eq_true rfl) dX7_alter_10 (by rw [hRc, hRs]; omega) (fun r T hp => ?_)
  obtain ⟨rfl, hi0⟩ := hp
  refine g_if_eq Z 28 dX7_alter_13 (by decide) (fun h13 => ?_) (fun h13 => ?_)
  · have hbad : ¬ ∃ j q : Nat, j < N ∧ a = nI j ∧ q < 256 ∧ v = nI q := fun ⟨j, q, h2, h3, _⟩ => in_mNf hN hi0 h13 ⟨j, h2, h3⟩
    refine g_bipush (v := (-2)) Z dX7_alter_28 (by decide) ?_
    exact g_iret Z dX7_alter_30 (by omega) (by omega) (Or.inr ⟨hbad, rfl, rfl⟩)
  · obtain ⟨j, hj, rfl⟩ := in_mN hN hi0 h13
    refine g_iload_n Z dX7_alter_16 rfl ?_
    refine g_i2l Z dX7_alter_17 ?_
    refine g_lconst (v := 0) Z dX7_alter_18 (by decide) ?_
    refine g_ldc2 (v := 255) Z dX7_alter_19 ct124 ?_
    refine g_csI Z (c_X7_in F.l F.D F.cy F.nw _ _ _ _) 3 gX7_alter_X7_in rfl (by decide +kernel) (by rw [hRf, hRl]; decide) rfl rfl (Nat.le_of_ble_eq_true rfl) dX7_alter_22 (by rw [hRc, hRs]; omega) (fun r2 T2 hp => ?_)
    obtain ⟨rfl, hi1⟩ := hp
    have hi := in_R (x := v) (a := 0) (b := 255) (by decide) (by omega) hi1
    refine g_if_ne Z 31 dX7_alter_25 (by decide) (fun h25 => ?_) (fun h25 => ?_)
    · obtain ⟨b, hb, rfl⟩ := hi.is h25
      refine g_aload_n Z dX7_alter_31 rfl ?_
      refine m_ref_bt Z in6 lk32 dX7_alter_32 ?_
      refine g_iload_n Z dX7_alter_35 rfl ?_
      refine m_ald_bt Z ho dX7_alter_36 (by exact vp_in_nI (by omega) (by decide)) ?_
      rw [nI_clamp (by omega), (hBB j hj).2]
      refine g_istore_n Z dX7_alter_37 (by decide) ?_
      refine g_aload_n Z dX7_alter_38 rfl ?_
      refine m_ref_bt Z in6 lk32 dX7_alter_39 ?_
      refine g_iload_n Z dX7_alter_42 rfl ?_
      refine g_iload_n Z dX7_alter_43 rfl ?_
      refine m_ast_bt Z ho dX7_alter_44 (by exact vp_in_nI (by omega) (by decide)) ?_
      rw [nI_clamp (by omega)]
      refine g_iload_n Z dX7_alter_45 rfl ?_
      exact g_iret Z dX7_alter_46 (by omega) (by omega) (Or.inl ⟨j, b, hj, rfl, by omega, rfl, rfl, _, rfl, rfl, rfl, eN, hN, fun i hi => by
        show va_up B j b i < 256 ∧ upd R.bt j (nI b) i = nI (va_up B j b i)
        by_cases e : i = j
        · subst e; rw [va_up_self, pk_us]; exact ⟨by omega, rfl⟩
        · rw [va_up_ne _ _ e, pk_un e]; exact hBB i hi⟩)
    · have hbad : ¬ ∃ j' q : Nat, j' < N ∧ nI j = nI j' ∧ q < 256 ∧ v = nI q := fun ⟨_, q, _, _, h4, h5⟩ => hi.f h25 ⟨q, by omega, by omega, h5⟩
      refine g_bipush (v := (-2)) Z dX7_alter_28 (by decide) ?_
      exact g_iret Z dX7_alter_30 (by omega) (by omega) (Or.inr ⟨hbad, rfl, rfl⟩)
