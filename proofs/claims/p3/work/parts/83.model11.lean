theorem upd_upd {f : Nat → Int32} {k : Nat} {x y : Int32} : upd (upd f k x) k y = upd f k y := by
  funext j
  by_cases e : j = k
  · rw [e, pk_us, pk_us]
  · rw [pk_un e, pk_un e, pk_un e]

set_option maxRecDepth 100000 in
set_option maxHeartbeats 2000000 in
/-- runs are read -/
theorem c_X7_readsRuns (l : Launch) (D : va_G) (cy : Nat → ClassId) (nw : Nat) (A : Nat → Nat) (x : Nat) (ho : mOk A x) (C : C5) (R : MR) (N : Nat) (hN : N ≤ 60000) (eN : R.si = nI N) (hB : Bt R) (a : Nat) (ea : R.aa = nI a) (haN : a ≤ N) (c : Nat) (hc : c < 102) (hz : ∀ l, l < 65536 → cb C.wd c l = 0) (hs0 : C.sz c = 0) (h : Nat) (hh : h ≤ 65536) : kI l yX7_readsRuns wsX7_readsRuns 2 43 D cy nw [.ref x, .int (nI c), .int (nI h)] (mP A x (C, R)) (fun r T => ∃ E Q b, mP A x (E, Q) = T ∧ Rq R Q b ∧ b ≤ N ∧ Ce c C E ∧ E.ky = C.ky ∧ (r = 0 ∨ (r = 1 ∧ gc E c))) 0 0 := by
  refine enterI (cc := cX7_readsRuns) (nL := 9) (ret := (some .boolean)) (by decide +kernel) rfl (Nat.le_of_ble_eq_true rfl) ?_
  intro F Z hl hR hD hcy hnw hnm
  subst hl hD hcy hnw
  have hRf : F.R.frames = 2 := by rw [hR]
  have hRc : F.R.cells = 0 := by rw [hR]
  have hRs : F.R.slots = 0 := by rw [hR]
  have hRl : F.R.locals = 43 := by rw [hR]
  have in6 : ∀ w ∈ u_ws RX7 TX7 16, w ∈ wsX7_readsRuns := by decide +kernel
  have lk19 : Cond.fieldLink RX7 19 (TX7 3).1 (TX7 3).2.1 (TX7 3).2.2.1 ∈ wsX7_readsRuns := by decide +kernel
  have lk183 : Cond.fieldLink RX7 183 (TX7 11).1 (TX7 11).2.1 (TX7 11).2.2.1 ∈ wsX7_readsRuns := by decide +kernel
  have ct74 : Cond.constant RX7 74 (65535) ∈ wsX7_readsRuns := by decide +kernel
  have loop : ∀ (rr : Nat), rr < 65536 → ∀ (i : Nat) (k L t : Nat) (y : Int32) (g : Nat → Int64) (W : MR) (b : Nat), rr - k < i → (k ≤ rr ∧ Rq R W b ∧ b ≤ N ∧ Ce c C (C.s_wd g) ∧ y + 2 = nI L ∧ L ≤ 65537 ∧ (∀ l, L ≤ l → l < 65536 → cb g c l = 0) ∧ ct g c 65536 = t) → G F 9 (mP A x ((C.s_wd g).s_sz (upd C.sz c (nI t)), W)) 0 0 (QI F (fun r T => ∃ E Q b, mP A x (E, Q) = T ∧ Rq R Q b ∧ b ≤ N ∧ Ce c C E ∧ E.ky = C.ky ∧ (r = 0 ∨ (r = 1 ∧ gc E c))) 0 0) 24 [(0, .ref x), (1, .int (nI c)), (2, .int (nI h)), (3, .int (nI rr)), (4, .int y), (5, .int (nI k))] [] := by
    intro rr hrr i
    induction i with
    | zero => intros; omega
    | succ i ih =>
      intro k L t y g W b hm ⟨hk, ⟨z1, z2, z3, z4, z5⟩, hb, hC, hy, hL, h0, hct⟩
      have hctle := ct_le g c 65536
      have hCs : ∀ (g' : Nat → Int64) (t' : Int32), Ce c C (C.s_wd g') → Ce c C ((C.s_wd g').s_sz (upd C.sz c t')) := fun g' t' hg => ⟨rfl, fun d hd => ⟨rfl, pk_un hd, (hg.2 d hd).2.2⟩⟩
      have lay : ∀ (f e : Nat) (W3 : MR) (b3 : Nat), k < rr → L ≤ f → f ≤ e → e ≤ 65535 → Rq R W3 b3 → b3 ≤ N → ∀ (n q : Nat) (g2 : Nat → Int64), e + 1 - q < n → (f ≤ q ∧ q ≤ e + 1 ∧ Ce c C (C.s_wd g2) ∧ (∀ l, q ≤ l → l < 65536 → cb g2 c l = 0) ∧ ct g2 c 65536 = t + (q - f)) → G F 9 (mP A x ((C.s_wd g2).s_sz (upd C.sz c (nI t)), W3)) 0 0 (QI F (fun r T => ∃ E Q b, mP A x (E, Q) = T ∧ Rq R Q b ∧ b ≤ N ∧ Ce c C E ∧ E.ky = C.ky ∧ (r = 0 ∨ (r = 1 ∧ gc E c))) 0 0) 102 [(0, .ref x), (1, .int (nI c)), (2, .int (nI h)), (3, .int (nI rr)), (4, .int y), (5, .int (nI k)), (6, .int (nI f)), (7, .int (nI e)), (8, .int (nI q))] [] := by
        intro f e W3 b3 hlt hLf hfe he hz3 hb3 n
        induction n with
        | zero => intros; omega
        | succ n ih2 =>
          intro q g2 hn ⟨hfq, hqe, hC2, h02, hct2⟩
          refine g_iload Z dX7_readsRuns_102 rfl ?_
          refine g_iload Z dX7_readsRuns_104 rfl ?_
          refine g_icmp_gt Z 122 dX7_readsRuns_106 (by decide) (fun h106 => ?_) (fun h106 => ?_)
          · have hq1 : q = e + 1 := by have := lt_t (i := e) (N := q) (by omega) (by omega) h106; omega
            subst hq1
            refine g_aload_n Z dX7_readsRuns_122 rfl ?_
            refine m_ref_sz Z in6 lk19 dX7_readsRuns_123 ?_
            refine g_iload_n Z dX7_readsRuns_126 rfl ?_
            refine g_dup2 Z dX7_readsRuns_127 rfl rfl ?_
            refine m_ald_sz Z ho dX7_readsRuns_128 (by exact vp_in_nI (by omega) (by decide)) ?_
            rw [nI_clamp (by omega), show (C5.sz ((C.s_wd g2).s_sz (upd C.sz c (nI t)))) c = nI t from pk_us]
            refine g_iload Z dX7_readsRuns_129 rfl ?_
            refine g_iload Z dX7_readsRuns_131 rfl ?_
            refine g_isub Z dX7_readsRuns_133 ?_
            rw [pk_sub hfe]
            refine g_iconst (v := 1) Z dX7_readsRuns_134 (by decide) ?_
            refine g_iadd Z dX7_readsRuns_135 ?_
            rw [nI_1]
            refine g_iadd Z dX7_readsRuns_136 ?_
            rw [nI_add]
            refine m_ast_sz Z ho dX7_readsRuns_137 (by exact vp_in_nI (by omega) (by decide)) ?_
            rw [nI_clamp (by omega), show upd (C5.sz ((C.s_wd g2).s_sz (upd C.sz c (nI t)))) c (nI (t + (e - f + 1))) = upd C.sz c (nI (t + (e - f + 1))) from upd_upd]
            refine g_iload Z dX7_readsRuns_138 rfl ?_
            refine g_istore Z dX7_readsRuns_140 (by decide) ?_
            refine g_iinc (c := 1) Z dX7_readsRuns_142 rfl (by decide) (by decide) ?_
            rw [nI_1]
            refine g_goto Z 24 dX7_readsRuns_145 (by decide) ?_
            exact g_lv (by (repeat (first | exact trivial | refine And.intro rfl ?_)); done) (ih (k + 1) (e + 2) (t + (e - f + 1)) _ g2 W3 b3 (by omega) ⟨by omega, hz3, hb3, hC2, nI_add e 2, by omega, fun l h1 h2 => h02 l (by omega) h2, by rw [hct2]; omega⟩)
          · have hqe2 : q ≤ e := gt_f (by omega) (by omega) h106
            refine g_aload_n Z dX7_readsRuns_109 rfl ?_
            refine g_iload_n Z dX7_readsRuns_110 rfl ?_
            refine g_iload Z dX7_readsRuns_111 rfl ?_
            refine g_cvV Z (c_X7_turn F.l F.D F.cy F.nw A x ho _ _ _ _ hc (by omega)) 2 gX7_readsRuns_X7_turn rfl (by decide +kernel) (by rw [hRf, hRl]; decide) (by exact mP_x) (κ := 6) (by exact mP_Kx) rfl (by decide) rfl rfl (Nat.le_of_ble_eq_true rfl) dX7_readsRuns_113 (by rw [hRc, hRs]; omega) (fun T4 hp => ?_)
            obtain ⟨g3, rfl, hT⟩ := hp
            obtain ⟨t1, t2⟩ := tn_new (L := q) hT (by omega) (Nat.le_refl _) h02
            refine g_iinc (c := 1) Z dX7_readsRuns_116 rfl (by decide) (by decide) ?_
            rw [nI_1]
            refine g_goto Z 102 dX7_readsRuns_119 (by decide) ?_
            exact g_lv (by (repeat (first | exact trivial | refine And.intro rfl ?_)); done) (ih2 (q + 1) g3 (by omega) ⟨by omega, by omega, hC2.wdT hT, t2, t1.trans (by rw [show ct (C5.wd ((C.s_wd g2).s_sz (upd C.sz c (nI t)))) c 65536 = t + (q - f) from hct2]; omega)⟩)
      refine g_iload Z dX7_readsRuns_24 rfl ?_
      refine g_iload_n Z dX7_readsRuns_26 rfl ?_
      refine g_icmp_ge Z 148 dX7_readsRuns_27 (by decide) (fun h27 => ?_) (fun h27 => ?_)
      · refine g_aload_n Z dX7_readsRuns_148 rfl ?_
        refine m_ref_sz Z in6 lk19 dX7_readsRuns_149 ?_
        refine g_iload_n Z dX7_readsRuns_152 rfl ?_
        refine m_ald_sz Z ho dX7_readsRuns_153 (by exact vp_in_nI (by omega) (by decide)) ?_
        rw [nI_clamp (by omega)]
        refine g_iload_n Z dX7_readsRuns_154 rfl ?_
        refine g_icmp_eq Z 171 dX7_readsRuns_155 (by decide) (fun h155 => ?_) (fun h155 => ?_)
        · refine g_iconst (v := 1) Z dX7_readsRuns_171 (by decide) ?_
          refine g_goto Z 176 dX7_readsRuns_172 (by decide) ?_
          exact g_zret Z dX7_readsRuns_176 (by rfl) (by omega) (by omega) (⟨_, W, b, rfl, ⟨z1, z2, z3, z4, z5⟩, hb, hCs _ _ hC, rfl, Or.inr ⟨rfl, by show upd C.sz c (nI t) c = nI (ct g c 65536); rw [pk_us, hct]⟩⟩)
        · refine g_aload_n Z dX7_readsRuns_158 rfl ?_
          refine g_bipush (v := 8) Z dX7_readsRuns_159 (by decide) ?_
          refine g_aload_n Z dX7_readsRuns_161 rfl ?_
          refine m_get_aa Z in6 lk183 dX7_readsRuns_162 ?_
          refine g_cvI Z (c_X7_fails F.l F.D F.cy F.nw A x ho _ _ _ _) 2 gX7_readsRuns_X7_fails rfl (by decide +kernel) (by rw [hRf, hRl]; decide) (by exact mP_x) (κ := 6) (by exact mP_Kx) rfl (by decide) rfl rfl (Nat.le_of_ble_eq_true rfl) dX7_readsRuns_165 (by rw [hRc, hRs]; omega) (fun r T6 hp => ?_)
          obtain ⟨rfl, rfl⟩ := hp
          refine g_if_eq Z 175 dX7_readsRuns_168 (by decide) (fun h168 => ?_) (fun h168 => absurd (rfl) h168)
          refine g_iconst (v := 0) Z dX7_readsRuns_175 (by decide) ?_
          exact g_zret Z dX7_readsRuns_176 (by rfl) (by omega) (by omega) (⟨_, _, b, rfl, ⟨z1, z2, z3, z4, z5⟩, by omega, hCs _ _ hC, rfl, Or.inl rfl⟩)
      · have hlt : k < rr := ge_f (by omega) (by omega) h27
        refine g_aload_n Z dX7_readsRuns_30 rfl ?_
        refine g_iconst (v := 2) Z dX7_readsRuns_31 (by decide) ?_
        refine g_cvI Z (c_X7_are F.l F.D F.cy F.nw A x ho _ _ N hN (z2.trans eN) b z4 hb 2 (by omega)) 1 gX7_readsRuns_X7_are rfl (by decide +kernel) (by rw [hRf, hRl]; decide) (by exact mP_x) (κ := 6) (by exact mP_Kx) rfl (by decide) rfl rfl (Nat.le_of_ble_eq_true rfl) dX7_readsRuns_32 (by rw [hRc, hRs]; omega) (fun r T1 hp => ?_)
        rcases hp with ⟨rfl, hle, rfl⟩ | ⟨rfl, W3, rfl, q⟩
        · refine g_if_ne Z 40 dX7_readsRuns_35 (by decide) (fun h35 => ?_) (fun h35 => absurd h35 (by decide))
          refine g_aload_n Z dX7_readsRuns_40 rfl ?_
          refine g_iconst (v := 2) Z dX7_readsRuns_41 (by decide) ?_
          refine g_cvL Z (c_X7_taken F.l F.D F.cy F.nw A x ho _ _ (hB.of z3) b z4 2 (by omega) (by omega)) 1 gX7_readsRuns_X7_taken rfl (by decide +kernel) (by rw [hRf, hRl]; decide) (by exact mP_x) (κ := 6) (by exact mP_Kx) rfl (by decide) rfl rfl (Nat.le_of_ble_eq_true rfl) dX7_readsRuns_42 (by rw [hRc, hRs]; omega) (fun r T2 hp => ?_)
          obtain ⟨W2, f, rfl, q, rfl, hf⟩ := hp
          obtain ⟨y1, y2, y3, y4, y5⟩ : Rq R W2 (b + 2) := ⟨q.1.trans z1, q.2.1.trans z2, q.2.2.1.trans z3, q.2.2.2.1, q.2.2.2.2.trans z5⟩
          refine g_l2i Z dX7_readsRuns_45 ?_
          rw [lN_i]
          refine g_istore Z dX7_readsRuns_46 (by decide) ?_
          refine g_aload_n Z dX7_readsRuns_48 rfl ?_
          refine g_iconst (v := 2) Z dX7_readsRuns_49 (by decide) ?_
          refine g_cvI Z (c_X7_are F.l F.D F.cy F.nw A x ho _ _ N hN (y2.trans eN) (b + 2) y4 (by omega) 2 (by omega)) 1 gX7_readsRuns_X7_are rfl (by decide +kernel) (by rw [hRf, hRl]; decide) (by exact mP_x) (κ := 6) (by exact mP_Kx) rfl (by decide) rfl rfl (Nat.le_of_ble_eq_true rfl) dX7_readsRuns_50 (by rw [hRc, hRs]; omega) (fun r T3 hp => ?_)
          rcases hp with ⟨rfl, hle2, rfl⟩ | ⟨rfl, W3, rfl, q3⟩
          · refine g_if_ne Z 58 dX7_readsRuns_53 (by decide) (fun h53 => ?_) (fun h53 => absurd h53 (by decide))
            refine g_iload Z dX7_readsRuns_58 rfl ?_
            refine g_aload_n Z dX7_readsRuns_60 rfl ?_
            refine g_iconst (v := 2) Z dX7_readsRuns_61 (by decide) ?_
            refine g_cvL Z (c_X7_taken F.l F.D F.cy F.nw A x ho _ _ (hB.of y3) (b + 2) y4 2 (by omega) (by omega)) 1 gX7_readsRuns_X7_taken rfl (by decide +kernel) (by rw [hRf, hRl]; decide) (by exact mP_x) (κ := 6) (by exact mP_Kx) rfl (by decide) rfl rfl (Nat.le_of_ble_eq_true rfl) dX7_readsRuns_62 (by rw [hRc, hRs]; omega) (fun r T4 hp => ?_)
            obtain ⟨W3, dd, rfl, q3, rfl, hdd⟩ := hp
            have hz3 : Rq R W3 (b + 2 + 2) := ⟨q3.1.trans y1, q3.2.1.trans y2, q3.2.2.1.trans y3, q3.2.2.2.1, q3.2.2.2.2.trans y5⟩
            refine g_l2i Z dX7_readsRuns_65 ?_
            rw [lN_i]
            refine g_iadd Z dX7_readsRuns_66 ?_
            rw [nI_add]
            refine g_istore Z dX7_readsRuns_67 (by decide) ?_
            refine g_iload Z dX7_readsRuns_69 rfl ?_
            refine g_iload Z dX7_readsRuns_71 rfl ?_
            refine g_iconst (v := 2) Z dX7_readsRuns_73 (by decide) ?_
            refine g_iadd Z dX7_readsRuns_74 ?_
            rw [hy]
            refine g_icmp_lt Z 85 dX7_readsRuns_75 (by decide) (fun h75 => ?_) (fun h75 => ?_)
            · refine g_aload_n Z dX7_readsRuns_85 rfl ?_
              refine g_bipush (v := 7) Z dX7_readsRuns_86 (by decide) ?_
              refine g_aload_n Z dX7_readsRuns_88 rfl ?_
              refine m_get_aa Z in6 lk183 dX7_readsRuns_89 ?_
              refine g_iconst (v := 4) Z dX7_readsRuns_92 (by decide) ?_
              refine g_isub Z dX7_readsRuns_93 ?_
              refine g_cvI Z (c_X7_fails F.l F.D F.cy F.nw A x ho _ _ _ _) 2 gX7_readsRuns_X7_fails rfl (by decide +kernel) (by rw [hRf, hRl]; decide) (by exact mP_x) (κ := 6) (by exact mP_Kx) rfl (by decide) rfl rfl (Nat.le_of_ble_eq_true rfl) dX7_readsRuns_94 (by rw [hRc, hRs]; omega) (fun r T5 hp => ?_)
              obtain ⟨rfl, rfl⟩ := hp
              exact g_zret Z dX7_readsRuns_97 (by rfl) (by omega) (by omega) (⟨_, _, (b + 2 + 2), rfl, hz3, by omega, hCs _ _ hC, rfl, Or.inl rfl⟩)
            · have hLf : L ≤ f := lt_f (by omega) (by omega) h75
              refine g_iload Z dX7_readsRuns_78 rfl ?_
              refine g_ldc (v := 65535) Z dX7_readsRuns_80 ct74 ?_
              refine g_icmp_le Z 98 dX7_readsRuns_82 (by decide) (fun h82 => ?_) (fun h82 => ?_)
              · have hee : f + dd ≤ 65535 := le_t (N := 65535) (by omega) (by decide) h82
                refine g_iload Z dX7_readsRuns_98 rfl ?_
                refine g_istore Z dX7_readsRuns_100 (by decide) ?_
                exact g_lv (by (repeat (first | exact trivial | refine And.intro rfl ?_)); done) (lay f (f + dd) W3 (b + 2 + 2) hlt hLf (by omega) hee hz3 (by omega) (dd + 2) f g (by omega) ⟨by omega, by omega, hC, fun l h1 h2 => h0 l (by omega) h2, by rw [hct]; omega⟩)
              · refine g_aload_n Z dX7_readsRuns_85 rfl ?_
                refine g_bipush (v := 7) Z dX7_readsRuns_86 (by decide) ?_
                refine g_aload_n Z dX7_readsRuns_88 rfl ?_
                refine m_get_aa Z in6 lk183 dX7_readsRuns_89 ?_
                refine g_iconst (v := 4) Z dX7_readsRuns_92 (by decide) ?_
                refine g_isub Z dX7_readsRuns_93 ?_
                refine g_cvI Z (c_X7_fails F.l F.D F.cy F.nw A x ho _ _ _ _) 2 gX7_readsRuns_X7_fails rfl (by decide +kernel) (by rw [hRf, hRl]; decide) (by exact mP_x) (κ := 6) (by exact mP_Kx) rfl (by decide) rfl rfl (Nat.le_of_ble_eq_true rfl) dX7_readsRuns_94 (by rw [hRc, hRs]; omega) (fun r T5 hp => ?_)
                obtain ⟨rfl, rfl⟩ := hp
                exact g_zret Z dX7_readsRuns_97 (by rfl) (by omega) (by omega) (⟨_, _, (b + 2 + 2), rfl, hz3, by omega, hCs _ _ hC, rfl, Or.inl rfl⟩)
          · refine g_if_ne Z 58 dX7_readsRuns_53 (by decide) (fun h53 => absurd (rfl) h53) (fun h53 => ?_)
            refine g_iconst (v := 0) Z dX7_readsRuns_56 (by decide) ?_
            exact g_zret Z dX7_readsRuns_57 (by rfl) (by omega) (by omega) (⟨_, W3, (b + 2), rfl, ⟨q3.1.trans y1, q3.2.1.trans y2, q3.2.2.1.trans y3, q3.2.2.2.1, q3.2.2.2.2.trans y5⟩, by omega, hCs _ _ hC, rfl, Or.inl rfl⟩)
        · refine g_if_ne Z 40 dX7_readsRuns_35 (by decide) (fun h35 => absurd (rfl) h35) (fun h35 => ?_)
          refine g_iconst (v := 0) Z dX7_readsRuns_38 (by decide) ?_
          exact g_zret Z dX7_readsRuns_39 (by rfl) (by omega) (by omega) (⟨_, W3, b, rfl, ⟨q.1.trans z1, q.2.1.trans z2, q.2.2.1.trans z3, q.2.2.2.1, q.2.2.2.2.trans z5⟩, by omega, hCs _ _ hC, rfl, Or.inl rfl⟩)
  have e0 : C = (C.s_wd C.wd).s_sz (upd C.sz c (nI 0)) := by
    have e1 : upd C.sz c (nI 0) = C.sz := by funext j; by_cases e : j = c; rw [e, pk_us, hs0]; rfl; exact pk_un e
    rw [e1]
  refine g_aload_n Z dX7_readsRuns_0 rfl ?_
  refine g_iconst (v := 2) Z dX7_readsRuns_1 (by decide) ?_
  refine g_cvI Z (c_X7_are F.l F.D F.cy F.nw A x ho _ _ N hN eN a ea haN 2 (by omega)) 1 gX7_readsRuns_X7_are rfl (by decide +kernel) (by rw [hRf, hRl]; decide) (by exact mP_x) (κ := 6) (by exact mP_Kx) rfl (by decide) rfl rfl (Nat.le_of_ble_eq_true rfl) dX7_readsRuns_2 (by rw [hRc, hRs]; omega) (fun r T1 hp => ?_)
  rcases hp with ⟨rfl, hle, rfl⟩ | ⟨rfl, W3, rfl, q⟩
  · refine g_if_ne Z 10 dX7_readsRuns_5 (by decide) (fun h5 => ?_) (fun h5 => absurd h5 (by decide))
    refine g_aload_n Z dX7_readsRuns_10 rfl ?_
    refine g_iconst (v := 2) Z dX7_readsRuns_11 (by decide) ?_
    refine g_cvL Z (c_X7_taken F.l F.D F.cy F.nw A x ho _ _ hB a ea 2 (by omega) (by omega)) 1 gX7_readsRuns_X7_taken rfl (by decide +kernel) (by rw [hRf, hRl]; decide) (by exact mP_x) (κ := 6) (by exact mP_Kx) rfl (by decide) rfl rfl (Nat.le_of_ble_eq_true rfl) dX7_readsRuns_12 (by rw [hRc, hRs]; omega) (fun r T2 hp => ?_)
    obtain ⟨W3, v, rfl, q, rfl, hv⟩ := hp
    refine g_l2i Z dX7_readsRuns_15 ?_
    rw [lN_i]
    refine g_istore_n Z dX7_readsRuns_16 (by decide) ?_
    refine g_bipush (v := (-2)) Z dX7_readsRuns_17 (by decide) ?_
    refine g_istore Z dX7_readsRuns_19 (by decide) ?_
    refine g_iconst (v := 0) Z dX7_readsRuns_21 (by decide) ?_
    refine g_istore Z dX7_readsRuns_22 (by decide) ?_
    have hlp := loop v (by omega) 65537 0 0 0 (-2) C.wd W3 (a + 2) (by omega) ⟨by omega, q, by omega, Ce.rf, by decide, by omega, fun l _ hl => hz l hl, ct_zero 65536 hz⟩
    rw [← e0] at hlp
    exact g_lv (by (repeat (first | exact trivial | refine And.intro rfl ?_)); done) hlp
  · refine g_if_ne Z 10 dX7_readsRuns_5 (by decide) (fun h5 => absurd (rfl) h5) (fun h5 => ?_)
    refine g_iconst (v := 0) Z dX7_readsRuns_8 (by decide) ?_
    exact g_zret Z dX7_readsRuns_9 (by rfl) (by omega) (by omega) (⟨C, W3, a, rfl, q, haN, Ce.rf, rfl, Or.inl rfl⟩)

set_option maxRecDepth 100000 in
set_option maxHeartbeats 2000000 in
/-- a set is read -/
theorem c_X7_readsAll (l : Launch) (D : va_G) (cy : Nat → ClassId) (nw : Nat) (A : Nat → Nat) (x : Nat) (ho : mOk A x) (C : C5) (R : MR) (hO : Okc C) (N : Nat) (hN : N ≤ 60000) (eN : R.si = nI N) (hB : Bt R) (a : Nat) (ea : R.aa = nI a) (haN : a ≤ N)  : kI l yX7_readsAll wsX7_readsAll 4 91 D cy nw [.ref x] (mP A x (C, R)) (fun r T => ∃ E Q b, mP A x (E, Q) = T ∧ Rz R Q b ∧ Se 16 C E ∧ Okc E ∧ (r = 0 ∨ (r = 1 ∧ Gd E 16))) 0 0 := by
  refine enterI (cc := cX7_readsAll) (nL := 5) (ret := (some .boolean)) (by decide +kernel) rfl (Nat.le_of_ble_eq_true rfl) ?_
  intro F Z hl hR hD hcy hnw hnm
  subst hl hD hcy hnw
  have hRf : F.R.frames = 4 := by rw [hR]
  have hRc : F.R.cells = 0 := by rw [hR]
  have hRs : F.R.slots = 0 := by rw [hR]
  have hRl : F.R.locals = 91 := by rw [hR]
  have in6 : ∀ w ∈ u_ws RX7 TX7 16, w ∈ wsX7_readsAll := by decide +kernel
  have lk7 : Cond.fieldLink RX7 7 (TX7 0).1 (TX7 0).2.1 (TX7 0).2.2.1 ∈ wsX7_readsAll := by decide +kernel
  have lk16 : Cond.fieldLink RX7 16 (TX7 2).1 (TX7 2).2.1 (TX7 2).2.2.1 ∈ wsX7_readsAll := by decide +kernel
  have lk19 : Cond.fieldLink RX7 19 (TX7 3).1 (TX7 3).2.1 (TX7 3).2.2.1 ∈ wsX7_readsAll := by decide +kernel
  have lk23 : Cond.fieldLink RX7 23 (TX7 4).1 (TX7 4).2.1 (TX7 4).2.2.1 ∈ wsX7_readsAll := by decide +kernel
  have lk35 : Cond.fieldLink RX7 35 (TX7 12).1 (TX7 12).2.1 (TX7 12).2.2.1 ∈ wsX7_readsAll := by decide +kernel
  have lk38 : Cond.fieldLink RX7 38 (TX7 13).1 (TX7 13).2.1 (TX7 13).2.2.1 ∈ wsX7_readsAll := by decide +kernel
  have lk41 : Cond.fieldLink RX7 41 (TX7 14).1 (TX7 14).2.1 (TX7 14).2.2.1 ∈ wsX7_readsAll := by decide +kernel
  have lk174 : Cond.fieldLink RX7 174 (TX7 6).1 (TX7 6).2.1 (TX7 6).2.2.1 ∈ wsX7_readsAll := by decide +kernel
  have lk183 : Cond.fieldLink RX7 183 (TX7 11).1 (TX7 11).2.1 (TX7 11).2.2.1 ∈ wsX7_readsAll := by decide +kernel
  have lk198 : Cond.fieldLink RX7 198 (TX7 15).1 (TX7 15).2.1 (TX7 15).2.2.1 ∈ wsX7_readsAll := by decide +kernel
  have ct52 : Cond.constantLong RX7 52 (-1) ∈ wsX7_readsAll := by decide +kernel
  have loop : ∀ (n : Nat), n ≤ 6 → ∀ (i k : Nat) (D : C5) (W : MR) (b : Nat), n - k < i → (k ≤ n ∧ Rz R W b ∧ b ≤ N ∧ Se 16 C D ∧ Okc D ∧ D.mn 16 = nI n ∧ (∀ j, j < n → ∃ h, h ≤ 65536 ∧ W.hd j = nI h) ∧ ∀ j, j < k → gc D (6 * 16 + j)) → G F 5 (mP A x (D, W)) 0 0 (QI F (fun r T => ∃ E Q b, mP A x (E, Q) = T ∧ Rz R Q b ∧ Se 16 C E ∧ Okc E ∧ (r = 0 ∨ (r = 1 ∧ Gd E 16))) 0 0) 11 [(0, .ref x), (1, .int (nI k))] [] := by
    intro n hn i
    induction i with
    | zero => intros; omega
    | succ i ih =>
      intro k D W b hm ⟨hk, ⟨z1, z2, z3, z4⟩, hb, hS, hD, hmn, hh, hg⟩
      have j207 : ∀ (D2 E : C5) (W2 : MR) (b2 : Nat) (r : Int32), k < n → Ce (6 * 16 + k) D D2 → D2.ky = D.ky → Rq W W2 b2 → b2 ≤ N → Ce (6 * 16 + k) D2 E → E.ky = D2.ky → (r = 0 ∨ (r = 1 ∧ gc E (6 * 16 + k))) → G F 5 (mP A x (E, W2)) 0 0 (QI F (fun r T => ∃ E Q b, mP A x (E, Q) = T ∧ Rz R Q b ∧ Se 16 C E ∧ Okc E ∧ (r = 0 ∨ (r = 1 ∧ Gd E 16))) 0 0) 207 [(0, .ref x), (1, .int (nI k))] [.int r] := by
        intro D2 E W2 b2 r hlt hC hky q hb2 hC2 hky2 hr
        have hC3 := hC.tr hC2
        have hE : Okc E := hC3.okk (hky2.trans hky) hD
        have hS3 := hS.tr (hC3.se (by omega))
        refine g_istore Z dX7_readsAll_207 (by decide) ?_
        refine g_iload Z dX7_readsAll_209 rfl ?_
        refine g_if_ne Z 216 dX7_readsAll_211 (by decide) (fun h211 => ?_) (fun h211 => ?_)
        · have hgc : gc E (6 * 16 + k) := by rcases hr with e | e; exact absurd e h211; exact e.2
          refine g_iinc (c := 1) Z dX7_readsAll_216 rfl (by decide) (by decide) ?_
          rw [nI_1]
          refine g_goto Z 11 dX7_readsAll_219 (by decide) ?_
          exact g_lv (by (repeat (first | exact trivial | refine And.intro rfl ?_)); done) (ih (k + 1) E W2 b2 (by omega) ⟨by omega, ⟨q.1.trans z1, q.2.1.trans z2, q.2.2.1.trans z3, q.2.2.2.1⟩, hb2, hS3, hE, by rw [hC3.1]; exact hmn, fun j hj => by rw [q.2.2.2.2]; exact hh j hj, fun j hj => by
            by_cases e : j = k
            · subst e; exact hgc
            · exact hC3.gc (by omega) (hg j (by omega))⟩)
        · refine g_iconst (v := 0) Z dX7_readsAll_214 (by decide) ?_
          exact g_zret Z dX7_readsAll_215 (by rfl) (by omega) (by omega) (⟨E, W2, b2, rfl, ⟨q.1.trans z1, q.2.1.trans z2, q.2.2.1.trans z3, q.2.2.2.1⟩, hS3, hE, Or.inl rfl⟩)
      have rd : ∀ (D2 : C5) (p : Int32), k < n → Ce (6 * 16 + k) D D2 → D2.ky = D.ky → (∀ l, l < 65536 → cb D2.wd (6 * 16 + k) l = 0) → D2.sz (6 * 16 + k) = 0 → G F 5 (mP A x (D2, W)) 0 0 (QI F (fun r T => ∃ E Q b, mP A x (E, Q) = T ∧ Rz R Q b ∧ Se 16 C E ∧ Okc E ∧ (r = 0 ∨ (r = 1 ∧ Gd E 16))) 0 0) 152 [(0, .ref x), (1, .int (nI k)), (2, .int (nI (6 * 16 + k))), (3, .int p)] [] := by
        intro D2 p hlt hC hky hz hs0
        obtain ⟨hd, hhd, ehd⟩ := hh k hlt
        refine g_iload_n Z dX7_readsAll_152 rfl ?_
        refine g_if_eq Z 170 dX7_readsAll_153 (by decide) (fun h153 => ?_) (fun h153 => ?_)
        · refine g_aload_n Z dX7_readsAll_170 rfl ?_
          refine m_ref_hd Z in6 lk41 dX7_readsAll_171 ?_
          refine g_iload_n Z dX7_readsAll_174 rfl ?_
          refine m_ald_hd Z ho dX7_readsAll_175 (by exact vp_in_nI (by omega) (by decide)) ?_
          rw [nI_clamp (by omega), ehd]
          refine g_sipush (v := 4096) Z dX7_readsAll_176 (by decide) ?_
          refine g_icmp_gt Z 196 dX7_readsAll_179 (by decide) (fun h179 => ?_) (fun h179 => ?_)
          · refine g_aload_n Z dX7_readsAll_196 rfl ?_
            refine g_iload_n Z dX7_readsAll_197 rfl ?_
            refine g_aload_n Z dX7_readsAll_198 rfl ?_
            refine m_ref_hd Z in6 lk41 dX7_readsAll_199 ?_
            refine g_iload_n Z dX7_readsAll_202 rfl ?_
            refine m_ald_hd Z ho dX7_readsAll_203 (by exact vp_in_nI (by omega) (by decide)) ?_
            rw [nI_clamp (by omega), ehd]
            refine g_cvI Z (c_X7_readsBitmap F.l F.D F.cy F.nw A x ho _ _ N hN (z2.trans eN) (hB.of z3) b z4 hb _ (by omega) hz hs0 hd hhd) 2 gX7_readsAll_X7_readsBitmap rfl (by decide +kernel) (by rw [hRf, hRl]; decide) (by exact mP_x) (κ := 6) (by exact mP_Kx) rfl (by decide) rfl rfl (Nat.le_of_ble_eq_true rfl) dX7_readsAll_204 (by rw [hRc, hRs]; omega) (fun r T hp => ?_)
            obtain ⟨E, W2, b2, rfl, q, hb2, hC2, hky2, hr⟩ := hp
            exact g_lv (by (repeat (first | exact trivial | refine And.intro rfl ?_)); done) (j207 D2 E W2 b2 _ hlt hC hky q hb2 hC2 hky2 hr)
          · refine g_aload_n Z dX7_readsAll_182 rfl ?_
            refine g_iload_n Z dX7_readsAll_183 rfl ?_
            refine g_aload_n Z dX7_readsAll_184 rfl ?_
            refine m_ref_hd Z in6 lk41 dX7_readsAll_185 ?_
            refine g_iload_n Z dX7_readsAll_188 rfl ?_
            refine m_ald_hd Z ho dX7_readsAll_189 (by exact vp_in_nI (by omega) (by decide)) ?_
            rw [nI_clamp (by omega), ehd]
            refine g_cvI Z (c_X7_readsArray F.l F.D F.cy F.nw A x ho _ _ N hN (z2.trans eN) (hB.of z3) b z4 hb _ (by omega) hz hs0 hd hhd) 2 gX7_readsAll_X7_readsArray rfl (by decide +kernel) (by rw [hRf, hRl]; decide) (by exact mP_x) (κ := 6) (by exact mP_Kx) rfl (by decide) rfl rfl (Nat.le_of_ble_eq_true rfl) dX7_readsAll_190 (by rw [hRc, hRs]; omega) (fun r T hp => ?_)
            obtain ⟨E, W2, b2, rfl, q, hb2, hC2, hky2, hr⟩ := hp
            refine g_goto Z 207 dX7_readsAll_193 (by decide) ?_
            exact g_lv (by (repeat (first | exact trivial | refine And.intro rfl ?_)); done) (j207 D2 E W2 b2 _ hlt hC hky q hb2 hC2 hky2 hr)
        · refine g_aload_n Z dX7_readsAll_156 rfl ?_
          refine g_iload_n Z dX7_readsAll_157 rfl ?_
          refine g_aload_n Z dX7_readsAll_158 rfl ?_
          refine m_ref_hd Z in6 lk41 dX7_readsAll_159 ?_
          refine g_iload_n Z dX7_readsAll_162 rfl ?_
          refine m_ald_hd Z ho dX7_readsAll_163 (by exact vp_in_nI (by omega) (by decide)) ?_
          rw [nI_clamp (by omega), ehd]
          refine g_cvI Z (c_X7_readsRuns F.l F.D F.cy F.nw A x ho _ _ N hN (z2.trans eN) (hB.of z3) b z4 hb _ (by omega) hz hs0 hd hhd) 2 gX7_readsAll_X7_readsRuns rfl (by decide +kernel) (by rw [hRf, hRl]; decide) (by exact mP_x) (κ := 6) (by exact mP_Kx) rfl (by decide) rfl rfl (Nat.le_of_ble_eq_true rfl) dX7_readsAll_164 (by rw [hRc, hRs]; omega) (fun r T hp => ?_)
          obtain ⟨E, W2, b2, rfl, q, hb2, hC2, hky2, hr⟩ := hp
          refine g_goto Z 207 dX7_readsAll_167 (by decide) ?_
          exact g_lv (by (repeat (first | exact trivial | refine And.intro rfl ?_)); done) (j207 D2 E W2 b2 _ hlt hC hky q hb2 hC2 hky2 hr)
      have j151 : ∀ (D2 : C5) (p z : Int32), k < n → Ce (6 * 16 + k) D D2 → D2.ky = D.ky → (∀ l, l < 65536 → cb D2.wd (6 * 16 + k) l = 0) → D2.sz (6 * 16 + k) = 0 → G F 5 (mP A x (D2, W)) 0 0 (QI F (fun r T => ∃ E Q b, mP A x (E, Q) = T ∧ Rz R Q b ∧ Se 16 C E ∧ Okc E ∧ (r = 0 ∨ (r = 1 ∧ Gd E 16))) 0 0) 151 [(0, .ref x), (1, .int (nI k)), (2, .int (nI (6 * 16 + k))), (3, .int p)] [.int z, .int (nI (6 * 16 + k)), .ref (A 2)] := by
        intro D2 p z hlt hC hky hz hs0
        refine m_ast_kd Z ho dX7_readsAll_151 (by exact vp_in_nI (by omega) (by decide)) ?_
        rw [nI_clamp (by omega)]
        exact g_lv (by (repeat (first | exact trivial | refine And.intro rfl ?_)); done) (rd _ p hlt ⟨hC.1, hC.2⟩ hky hz hs0)
      have j120 : ∀ (D2 : C5) (p : Int32), k < n → Ce (6 * 16 + k) D D2 → D2.ky = D.ky → (∀ l, l < 65536 → cb D2.wd (6 * 16 + k) l = 0) → D2.sz (6 * 16 + k) = 0 → G F 5 (mP A x (D2, W)) 0 0 (QI F (fun r T => ∃ E Q b, mP A x (E, Q) = T ∧ Rz R Q b ∧ Se 16 C E ∧ Okc E ∧ (r = 0 ∨ (r = 1 ∧ Gd E 16))) 0 0) 120 [(0, .ref x), (1, .int (nI k)), (2, .int (nI (6 * 16 + k)))] [.int p] := by
        intro D2 p hlt hC hky hz hs0
        refine g_istore_n Z dX7_readsAll_120 (by decide) ?_
        refine g_aload_n Z dX7_readsAll_121 rfl ?_
        refine m_ref_kd Z in6 lk16 dX7_readsAll_122 ?_
        refine g_iload_n Z dX7_readsAll_125 rfl ?_
        refine g_iload_n Z dX7_readsAll_126 rfl ?_
        refine g_if_eq Z 134 dX7_readsAll_127 (by decide) (fun h127 => ?_) (fun h127 => ?_)
        · refine g_aload_n Z dX7_readsAll_134 rfl ?_
          refine m_ref_hd Z in6 lk41 dX7_readsAll_135 ?_
          refine g_iload_n Z dX7_readsAll_138 rfl ?_
          refine m_ald_hd Z ho dX7_readsAll_139 (by exact vp_in_nI (by omega) (by decide)) ?_
          refine g_sipush (v := 4096) Z dX7_readsAll_140 (by decide) ?_
          refine g_icmp_gt Z 150 dX7_readsAll_143 (by decide) (fun h143 => ?_) (fun h143 => ?_)
          · refine g_iconst (v := 1) Z dX7_readsAll_150 (by decide) ?_
            exact g_lv (by (repeat (first | exact trivial | refine And.intro rfl ?_)); done) (j151 D2 p _ hlt hC hky hz hs0)
          · refine g_iconst (v := 0) Z dX7_readsAll_146 (by decide) ?_
            refine g_goto Z 151 dX7_readsAll_147 (by decide) ?_
            exact g_lv (by (repeat (first | exact trivial | refine And.intro rfl ?_)); done) (j151 D2 p _ hlt hC hky hz hs0)
        · refine g_iconst (v := 2) Z dX7_readsAll_130 (by decide) ?_
          refine g_goto Z 151 dX7_readsAll_131 (by decide) ?_
          exact g_lv (by (repeat (first | exact trivial | refine And.intro rfl ?_)); done) (j151 D2 p _ hlt hC hky hz hs0)
      have zr : ∀ (n2 w : Nat) (g : Nat → Int64), 1024 - w < n2 → (w ≤ 1024 ∧ k < n ∧ (∀ d, d ≠ (6 * 16 + k) → ∀ l, l < 65536 → cb g d l = cb D.wd d l) ∧ ∀ l, l < 64 * w → cb g (6 * 16 + k) l = 0) → G F 5 (mP A x (D.s_wd g, W)) 0 0 (QI F (fun r T => ∃ E Q b, mP A x (E, Q) = T ∧ Rz R Q b ∧ Se 16 C E ∧ Okc E ∧ (r = 0 ∨ (r = 1 ∧ Gd E 16))) 0 0) 70 [(0, .ref x), (1, .int (nI k)), (2, .int (nI (6 * 16 + k))), (3, .int (nI w))] [] := by
        intro n2
        induction n2 with
        | zero => intros; omega
        | succ n2 ih2 =>
          intro w g hn2 ⟨hw, hlt, h1, h2⟩
          refine g_iload_n Z dX7_readsAll_70 rfl ?_
          refine g_sipush (v := 1024) Z dX7_readsAll_71 (by decide) ?_
          refine g_icmp_ge Z 96 dX7_readsAll_74 (by decide) (fun h74 => ?_) (fun h74 => ?_)
          · have he : w = 1024 := by have := ge_t (i := w) (N := 1024) (by omega) (by decide) h74; omega
            subst he
            refine g_aload_n Z dX7_readsAll_96 rfl ?_
            refine m_ref_sz Z in6 lk19 dX7_readsAll_97 ?_
            refine g_iload_n Z dX7_readsAll_100 rfl ?_
            refine g_iconst (v := 0) Z dX7_readsAll_101 (by decide) ?_
            refine m_ast_sz Z ho dX7_readsAll_102 (by exact vp_in_nI (by omega) (by decide)) ?_
            rw [nI_clamp (by omega)]
            refine g_aload_n Z dX7_readsAll_103 rfl ?_
            refine m_get_bi Z in6 lk198 dX7_readsAll_104 ?_
            refine g_iload_n Z dX7_readsAll_107 rfl ?_
            refine g_ishr Z dX7_readsAll_108 ?_
            refine g_iconst (v := 1) Z dX7_readsAll_109 (by decide) ?_
            refine g_iand Z dX7_readsAll_110 ?_
            refine g_iconst (v := 1) Z dX7_readsAll_111 (by decide) ?_
            refine g_icmp_ne Z 119 dX7_readsAll_112 (by decide) (fun h112 => ?_) (fun h112 => ?_)
            · refine g_iconst (v := 0) Z dX7_readsAll_119 (by decide) ?_
              exact g_lv (by (repeat (first | exact trivial | refine And.intro rfl ?_)); done) (j120 ((D.s_wd g).s_sz (upd D.sz (6 * 16 + k) 0)) _ hlt ⟨rfl, fun d hd => ⟨rfl, pk_un hd, h1 d hd⟩⟩ rfl (fun l hl => h2 l (by omega)) pk_us)
            · refine g_iconst (v := 1) Z dX7_readsAll_115 (by decide) ?_
              refine g_goto Z 120 dX7_readsAll_116 (by decide) ?_
              exact g_lv (by (repeat (first | exact trivial | refine And.intro rfl ?_)); done) (j120 ((D.s_wd g).s_sz (upd D.sz (6 * 16 + k) 0)) _ hlt ⟨rfl, fun d hd => ⟨rfl, pk_un hd, h1 d hd⟩⟩ rfl (fun l hl => h2 l (by omega)) pk_us)
          · have hltw : w < 1024 := ge_f (by omega) (by decide) h74
            obtain ⟨k1, k2⟩ := zr_step hltw h1 h2
            refine g_aload_n Z dX7_readsAll_77 rfl ?_
            refine m_ref_wd Z in6 lk23 dX7_readsAll_78 ?_
            refine g_sipush (v := 1024) Z dX7_readsAll_81 (by decide) ?_
            refine g_iload_n Z dX7_readsAll_84 rfl ?_
            refine g_imul Z dX7_readsAll_85 ?_
            refine g_iload_n Z dX7_readsAll_86 rfl ?_
            refine g_iadd Z dX7_readsAll_87 ?_
            rw [ixw]
            refine g_lconst (v := 0) Z dX7_readsAll_88 (by decide) ?_
            refine m_ast_wd Z ho dX7_readsAll_89 (by exact vp_in_nI (by omega) (by decide)) ?_
            rw [nI_clamp (by omega)]
            refine g_iinc (c := 1) Z dX7_readsAll_90 rfl (by decide) (by decide) ?_
            rw [nI_1]
            refine g_goto Z 70 dX7_readsAll_93 (by decide) ?_
            exact g_lv (by (repeat (first | exact trivial | refine And.intro rfl ?_)); done) (ih2 (w + 1) _ (by omega) ⟨by omega, hlt, k1, k2⟩)
      refine g_iload_n Z dX7_readsAll_11 rfl ?_
      refine g_aload_n Z dX7_readsAll_12 rfl ?_
      refine m_ref_mn Z in6 lk7 dX7_readsAll_13 ?_
      refine g_bipush (v := 16) Z dX7_readsAll_16 (by decide) ?_
      refine m_ald_mn Z ho dX7_readsAll_18 (by exact vp_in_nI (n := 16) (by decide) (by decide)) ?_
      rw [show (16 : Int32).toNatClampNeg = 16 by decide, hmn]
      refine g_icmp_ge Z 222 dX7_readsAll_19 (by decide) (fun h19 => ?_) (fun h19 => ?_)
      · have he : k = n := by have := ge_t (i := k) (N := n) (by omega) (by omega) h19; omega
        subst he
        refine g_aload_n Z dX7_readsAll_222 rfl ?_
        refine m_get_aa Z in6 lk183 dX7_readsAll_223 ?_
        refine g_aload_n Z dX7_readsAll_226 rfl ?_
        refine m_get_si Z in6 lk174 dX7_readsAll_227 ?_
        refine g_icmp_eq Z 246 dX7_readsAll_230 (by decide) (fun h230 => ?_) (fun h230 => ?_)
        · refine g_iconst (v := 1) Z dX7_readsAll_246 (by decide) ?_
          refine g_goto Z 251 dX7_readsAll_247 (by decide) ?_
          exact g_zret Z dX7_readsAll_251 (by rfl) (by omega) (by omega) (⟨D, W, b, rfl, ⟨z1, z2, z3, z4⟩, hS, hD, Or.inr ⟨rfl, k, hn, hmn, hg⟩⟩)
        · refine g_aload_n Z dX7_readsAll_233 rfl ?_
          refine g_bipush (v := 9) Z dX7_readsAll_234 (by decide) ?_
          refine g_aload_n Z dX7_readsAll_236 rfl ?_
          refine m_get_aa Z in6 lk183 dX7_readsAll_237 ?_
          refine g_cvI Z (c_X7_fails F.l F.D F.cy F.nw A x ho _ _ _ _) 2 gX7_readsAll_X7_fails rfl (by decide +kernel) (by rw [hRf, hRl]; decide) (by exact mP_x) (κ := 6) (by exact mP_Kx) rfl (by decide) rfl rfl (Nat.le_of_ble_eq_true rfl) dX7_readsAll_240 (by rw [hRc, hRs]; omega) (fun r T2 hp => ?_)
          obtain ⟨rfl, rfl⟩ := hp
          refine g_if_eq Z 250 dX7_readsAll_243 (by decide) (fun h243 => ?_) (fun h243 => absurd (rfl) h243)
          refine g_iconst (v := 0) Z dX7_readsAll_250 (by decide) ?_
          exact g_zret Z dX7_readsAll_251 (by rfl) (by omega) (by omega) (⟨D, _, b, rfl, ⟨z1, z2, z3, z4⟩, hS, hD, Or.inl rfl⟩)
      · have hlt : k < n := ge_f (by omega) (by omega) h19
        refine g_bipush (v := 96) Z dX7_readsAll_22 (by decide) ?_
        refine g_iload_n Z dX7_readsAll_24 rfl ?_
        refine g_iadd Z dX7_readsAll_25 ?_
        rw [ix96]
        refine g_istore_n Z dX7_readsAll_26 (by decide) ?_
        refine g_aload_n Z dX7_readsAll_27 rfl ?_
        refine m_ref_tl Z in6 lk38 dX7_readsAll_28 ?_
        refine g_iload_n Z dX7_readsAll_31 rfl ?_
        refine m_ald_tl Z ho dX7_readsAll_32 (by exact vp_in_nI (by omega) (by decide)) ?_
        refine g_ldc2 (v := -1) Z dX7_readsAll_33 ct52 ?_
        refine g_lcmp Z dX7_readsAll_36 ?_
        refine g_if_eq Z 68 dX7_readsAll_37 (by decide) (fun h37 => ?_) (fun h37 => ?_)
        · refine g_iconst (v := 0) Z dX7_readsAll_68 (by decide) ?_
          refine g_istore_n Z dX7_readsAll_69 (by decide) ?_
          exact g_lv (by (repeat (first | exact trivial | refine And.intro rfl ?_)); done) (zr 1025 0 D.wd (by omega) ⟨by omega, hlt, fun _ _ _ _ => rfl, fun l hl => by omega⟩)
        · refine g_aload_n Z dX7_readsAll_40 rfl ?_
          refine m_ref_tl Z in6 lk38 dX7_readsAll_41 ?_
          refine g_iload_n Z dX7_readsAll_44 rfl ?_
          refine m_ald_tl Z ho dX7_readsAll_45 (by exact vp_in_nI (by omega) (by decide)) ?_
          refine g_aload_n Z dX7_readsAll_46 rfl ?_
          refine m_get_aa Z in6 lk183 dX7_readsAll_47 ?_
          refine g_i2l Z dX7_readsAll_50 ?_
          refine g_lcmp Z dX7_readsAll_51 ?_
          refine g_if_eq Z 68 dX7_readsAll_52 (by decide) (fun h52 => ?_) (fun h52 => ?_)
          · refine g_iconst (v := 0) Z dX7_readsAll_68 (by decide) ?_
            refine g_istore_n Z dX7_readsAll_69 (by decide) ?_
            exact g_lv (by (repeat (first | exact trivial | refine And.intro rfl ?_)); done) (zr 1025 0 D.wd (by omega) ⟨by omega, hlt, fun _ _ _ _ => rfl, fun l hl => by omega⟩)
          · refine g_aload_n Z dX7_readsAll_55 rfl ?_
            refine g_bipush (v := 6) Z dX7_readsAll_56 (by decide) ?_
            refine g_aload_n Z dX7_readsAll_58 rfl ?_
            refine m_ref_pl Z in6 lk35 dX7_readsAll_59 ?_
            refine g_iload_n Z dX7_readsAll_62 rfl ?_
            refine m_ald_pl Z ho dX7_readsAll_63 (by exact vp_in_nI (by omega) (by decide)) ?_
            refine g_cvI Z (c_X7_fails F.l F.D F.cy F.nw A x ho _ _ _ _) 2 gX7_readsAll_X7_fails rfl (by decide +kernel) (by rw [hRf, hRl]; decide) (by exact mP_x) (κ := 6) (by exact mP_Kx) rfl (by decide) rfl rfl (Nat.le_of_ble_eq_true rfl) dX7_readsAll_64 (by rw [hRc, hRs]; omega) (fun r T1 hp => ?_)
            obtain ⟨rfl, rfl⟩ := hp
            exact g_zret Z dX7_readsAll_67 (by rfl) (by omega) (by omega) (⟨D, _, b, rfl, ⟨z1, z2, z3, z4⟩, hS, hD, Or.inl rfl⟩)
  refine g_aload_n Z dX7_readsAll_0 rfl ?_
  refine g_cvI Z (c_X7_readsHead F.l F.D F.cy F.nw A x ho _ _ hO N hN eN hB a ea haN) 0 gX7_readsAll_X7_readsHead rfl (by decide +kernel) (by rw [hRf, hRl]; decide) (by exact mP_x) (κ := 6) (by exact mP_Kx) rfl (by decide) rfl rfl (Nat.le_of_ble_eq_true rfl) dX7_readsAll_1 (by rw [hRc, hRs]; omega) (fun r T hp => ?_)
  obtain ⟨E, W, b, rfl, z, hb, hS, hE, hr⟩ := hp
  refine g_if_ne Z 9 dX7_readsAll_4 (by decide) (fun h4 => ?_) (fun h4 => ?_)
  · obtain ⟨n, hn, hmn, hh⟩ : ∃ n, n ≤ 6 ∧ E.mn 16 = nI n ∧ ∀ k, k < n → ∃ h, h ≤ 65536 ∧ W.hd k = nI h := by rcases hr with e | e; exact absurd e h4; exact e.2
    refine g_iconst (v := 0) Z dX7_readsAll_9 (by decide) ?_
    refine g_istore_n Z dX7_readsAll_10 (by decide) ?_
    exact g_lv (by (repeat (first | exact trivial | refine And.intro rfl ?_)); done) (loop n hn (n + 1) 0 E W b (by omega) ⟨by omega, z, hb, hS, hE, hmn, hh, fun j hj => by omega⟩)
  · refine g_iconst (v := 0) Z dX7_readsAll_7 (by decide) ?_
    exact g_zret Z dX7_readsAll_8 (by rfl) (by omega) (by omega) (⟨E, W, b, rfl, z, hS, hE, Or.inl rfl⟩)

set_option maxRecDepth 100000 in
set_option maxHeartbeats 2000000 in
/-- bytes are read into a set -/
theorem c_X7_read (l : Launch) (D : va_G) (cy : Nat → ClassId) (nw : Nat) (A : Nat → Nat) (x : Nat) (ho : mOk A x) (C : C5) (R : MR) (hI : InvC C) (hRi : InvR R) (w : Nat) (hw : w ≤ 300) (ew : R.wk = nI w) (a : Int32) : kI l yX7_read wsX7_read 5 115 D cy nw [.ref x, .int a] (mP A x (C, R)) (fun _ T => ∃ E Q w2, mP A x (E, Q) = T ∧ InvC E ∧ InvR Q ∧ Q.wk = nI w2 ∧ WK (isS a) 1 w w2) 0 0 := by
  refine enterI (cc := cX7_read) (nL := 2) (ret := (some .int)) (by decide +kernel) rfl (Nat.le_of_ble_eq_true rfl) ?_
  intro F Z hl hR hD hcy hnw hnm
  subst hl hD hcy hnw
  have hRf : F.R.frames = 5 := by rw [hR]
  have hRc : F.R.cells = 0 := by rw [hR]
  have hRs : F.R.slots = 0 := by rw [hR]
  have hRl : F.R.locals = 115 := by rw [hR]
  have in6 : ∀ w ∈ u_ws RX7 TX7 16, w ∈ wsX7_read := by decide +kernel
  have lk27 : Cond.fieldLink RX7 27 (TX7 5).1 (TX7 5).2.1 (TX7 5).2.2.1 ∈ wsX7_read := by decide +kernel
  have lk177 : Cond.fieldLink RX7 177 (TX7 9).1 (TX7 9).2.1 (TX7 9).2.2.1 ∈ wsX7_read := by decide +kernel
  have lk180 : Cond.fieldLink RX7 180 (TX7 10).1 (TX7 10).2.1 (TX7 10).2.2.1 ∈ wsX7_read := by decide +kernel
  have lk183 : Cond.fieldLink RX7 183 (TX7 11).1 (TX7 11).2.1 (TX7 11).2.2.1 ∈ wsX7_read := by decide +kernel
  refine g_iload_n Z dX7_read_0 rfl ?_
  refine g_csI Z (c_X7_isSet F.l F.D F.cy F.nw _ _) 1 gX7_read_X7_isSet rfl (by decide +kernel) (by rw [hRf, hRl]; decide) rfl rfl (Nat.le_of_ble_eq_true rfl) dX7_read_1 (by rw [hRc, hRs]; omega) (fun r T hp => ?_)
  obtain ⟨rfl, his⟩ := hp
  refine g_if_ne Z 10 dX7_read_4 (by decide) (fun h4 => ?_) (fun h4 => ?_)
  · obtain ⟨s, hs, rfl⟩ := his.is h4
    obtain ⟨⟨N, hN, eN⟩, hB⟩ := id hRi
    refine g_aload_n Z dX7_read_10 rfl ?_
    refine m_get_wk Z in6 lk27 dX7_read_11 ?_
    rw [ew]
    refine g_iconst (v := 1) Z dX7_read_14 (by decide) ?_
    refine g_icmp_ge Z 21 dX7_read_15 (by decide) (fun h15 => ?_) (fun h15 => ?_)
    · have hw1 : 1 ≤ w := ge_t (N := 1) (by omega) (by decide) h15
      refine g_aload_n Z dX7_read_21 rfl ?_
      refine g_dup Z dX7_read_22 rfl ?_
      refine m_get_wk Z in6 lk27 dX7_read_23 ?_
      rw [ew]
      refine g_iconst (v := 1) Z dX7_read_26 (by decide) ?_
      refine g_isub Z dX7_read_27 ?_
      rw [s1' hw1]
      refine m_put_wk Z in6 lk27 dX7_read_28 ?_
      refine g_aload_n Z dX7_read_31 rfl ?_
      refine g_iconst (v := 0) Z dX7_read_32 (by decide) ?_
      refine m_put_fa Z in6 lk177 dX7_read_33 ?_
      refine g_aload_n Z dX7_read_36 rfl ?_
      refine g_iconst (v := 0) Z dX7_read_37 (by decide) ?_
      refine m_put_aa Z in6 lk183 dX7_read_38 ?_
      refine g_aload_n Z dX7_read_41 rfl ?_
      refine g_cvI Z (c_X7_readsAll F.l F.D F.cy F.nw A x ho C (((R.s_wk (nI (w - 1))).s_fa 0).s_aa 0) hI.1 N hN eN hB 0 rfl (by omega)) 0 gX7_read_X7_readsAll rfl (by decide +kernel) (by rw [hRf, hRl]; decide) (by exact mP_x) (κ := 6) (by exact mP_Kx) rfl (by decide) rfl rfl (Nat.le_of_ble_eq_true rfl) dX7_read_42 (by rw [hRc, hRs]; omega) (fun r T hp => ?_)
      obtain ⟨E, W, b, rfl, ⟨z1, z2, z3, z4⟩, hS, hE, hr⟩ := hp
      have hIE := hI.s16 hS hE
      have hRW : InvR W := ⟨⟨N, hN, z2.trans eN⟩, hB.of z3⟩
      refine g_if_ne Z 56 dX7_read_45 (by decide) (fun h45 => ?_) (fun h45 => ?_)
      · obtain ⟨n, hn, en, hg⟩ : Gd E 16 := by rcases hr with e | e; exact absurd e h45; exact e.2
        refine g_aload_n Z dX7_read_56 rfl ?_
        refine g_bipush (v := 16) Z dX7_read_57 (by decide) ?_
        refine g_iload_n Z dX7_read_59 rfl ?_
        refine g_cvV Z (c_X7_copySet F.l F.D F.cy F.nw A x ho _ _ hE 16 s (by omega) (by omega) (by omega) n hn en) 2 gX7_read_X7_copySet rfl (by decide +kernel) (by rw [hRf, hRl]; decide) (by exact mP_x) (κ := 6) (by exact mP_Kx) rfl (by decide) rfl rfl (Nat.le_of_ble_eq_true rfl) dX7_read_60 (by rw [hRc, hRs]; omega) (fun T5 hp => ?_)
        obtain ⟨E2, rfl, k1, k2, k3, k4⟩ := hp
        refine g_aload_n Z dX7_read_63 rfl ?_
        refine g_iload_n Z dX7_read_64 rfl ?_
        refine g_cvI Z (c_X7_all F.l F.D F.cy F.nw A x ho _ _ k2 _ (by omega)) 1 gX7_read_X7_all rfl (by decide +kernel) (by rw [hRf, hRl]; decide) (by exact mP_x) (κ := 6) (by exact mP_Kx) rfl (by decide) rfl rfl (Nat.le_of_ble_eq_true rfl) dX7_read_65 (by rw [hRc, hRs]; omega) (fun r6 T6 hp => ?_)
        subst hp
        exact g_iret Z dX7_read_68 (by omega) (by omega) (⟨E2, W, w - 1, rfl, hIE.of k1 k2 (k4 ⟨n, hn, en, hg⟩), hRW, z1, wk_yes (isS_of hs) hw1⟩)
      · refine g_bipush (v := (-100)) Z dX7_read_48 (by decide) ?_
        refine g_aload_n Z dX7_read_50 rfl ?_
        refine m_get_fp Z in6 lk180 dX7_read_51 ?_
        refine g_isub Z dX7_read_54 ?_
        exact g_iret Z dX7_read_55 (by omega) (by omega) (⟨E, W, w - 1, rfl, hIE, hRW, z1, wk_yes (isS_of hs) hw1⟩)
    · have hw0 : ¬ 1 ≤ w := fun q => h15 (nI_le (a := 1) q (by omega))
      refine g_bipush (v := (-5)) Z dX7_read_18 (by decide) ?_
      exact g_iret Z dX7_read_20 (by omega) (by omega) (⟨C, R, w, rfl, hI, hRi, ew, wk_no (fun q => hw0 q.2)⟩)
  · refine g_bipush (v := (-2)) Z dX7_read_7 (by decide) ?_
    exact g_iret Z dX7_read_9 (by omega) (by omega) (⟨C, R, w, rfl, hI, hRi, ew, wk_no (fun q => his.nS h4 q.1)⟩)
