theorem le6 {v : Nat} (hv : v < 2 ^ 62) (h : lg_cmp (lN v) 6 ≤ 0) : v ≤ 6 := by
  refine Nat.not_lt.mp fun q => ?_
  exact absurd (lc_gt.mpr ((pk_lLT (a := 6) (b := v) (by decide) (by omega)).mpr q)) (Int32.not_lt.mpr h)

set_option maxRecDepth 100000 in
set_option maxHeartbeats 2000000 in
/-- the head is read -/
theorem c_X7_readsHead (l : Launch) (D : va_G) (cy : Nat → ClassId) (nw : Nat) (A : Nat → Nat) (x : Nat) (ho : mOk A x) (C : C5) (R : MR) (hO : Okc C) (N : Nat) (hN : N ≤ 60000) (eN : R.si = nI N) (hB : Bt R) (a : Nat) (ea : R.aa = nI a) (haN : a ≤ N)  : kI l yX7_readsHead wsX7_readsHead 3 66 D cy nw [.ref x] (mP A x (C, R)) (fun r T => ∃ E Q b, mP A x (E, Q) = T ∧ Rz R Q b ∧ b ≤ N ∧ Se 16 C E ∧ Okc E ∧ (r = 0 ∨ (r = 1 ∧ ∃ n, n ≤ 6 ∧ E.mn 16 = nI n ∧ ∀ k, k < n → ∃ h, h ≤ 65536 ∧ Q.hd k = nI h))) 0 0 := by
  refine enterI (cc := cX7_readsHead) (nL := 6) (ret := (some .boolean)) (by decide +kernel) rfl (Nat.le_of_ble_eq_true rfl) ?_
  intro F Z hl hR hD hcy hnw hnm
  subst hl hD hcy hnw
  have hRf : F.R.frames = 3 := by rw [hR]
  have hRc : F.R.cells = 0 := by rw [hR]
  have hRs : F.R.slots = 0 := by rw [hR]
  have hRl : F.R.locals = 66 := by rw [hR]
  have in6 : ∀ w ∈ u_ws RX7 TX7 16, w ∈ wsX7_readsHead := by decide +kernel
  have lk198 : Cond.fieldLink RX7 198 (TX7 15).1 (TX7 15).2.1 (TX7 15).2.2.1 ∈ wsX7_readsHead := by decide +kernel
  have ct140 : Cond.constantLong RX7 140 (65536) ∈ wsX7_readsHead := by decide +kernel
  have ct148 : Cond.constantLong RX7 148 (4) ∈ wsX7_readsHead := by decide +kernel
  have ct196 : Cond.constantLong RX7 196 (12346) ∈ wsX7_readsHead := by decide +kernel
  have ct201 : Cond.constantLong RX7 201 (12347) ∈ wsX7_readsHead := by decide +kernel
  have ct203 : Cond.constantLong RX7 203 (6) ∈ wsX7_readsHead := by decide +kernel
  have keys : ∀ (n : Nat) (p : Int32) (W : MR) (b : Nat), n ≤ 6 → Rz R W b → b ≤ N → G F 6 (mP A x (C, W)) 0 0 (QI F (fun r T => ∃ E Q b, mP A x (E, Q) = T ∧ Rz R Q b ∧ b ≤ N ∧ Se 16 C E ∧ Okc E ∧ (r = 0 ∨ (r = 1 ∧ ∃ n, n ≤ 6 ∧ E.mn 16 = nI n ∧ ∀ k, k < n → ∃ h, h ≤ 65536 ∧ Q.hd k = nI h))) 0 0) 156 [(0, .ref x), (3, .int p), (4, .long (lN n))] [] := by
    intro n p W b hn ⟨z1, z2, z3, z4⟩ hb
    have j188 : ∀ (E : C5) (W2 : MR) (b2 : Nat) (y : Int32), Rz R W2 b2 → b2 ≤ N → Se 16 C E → Okc E → E.mn 16 = nI n → (∀ k, k < n → ∃ h, h ≤ 65536 ∧ W2.hd k = nI h) → G F 6 (mP A x (E, W2)) 0 0 (QI F (fun r T => ∃ E Q b, mP A x (E, Q) = T ∧ Rz R Q b ∧ b ≤ N ∧ Se 16 C E ∧ Okc E ∧ (r = 0 ∨ (r = 1 ∧ ∃ n, n ≤ 6 ∧ E.mn 16 = nI n ∧ ∀ k, k < n → ∃ h, h ≤ 65536 ∧ Q.hd k = nI h))) 0 0) 188 [(0, .ref x)] [.int y, .int (nI n), .ref x] := by
      intro E W2 b2 y ⟨y1, y2, y3, y4⟩ hb2 hS hE hm hh
      refine g_cvI Z (c_X7_readsPlaces F.l F.D F.cy F.nw A x ho _ _ N hN (y2.trans eN) (hB.of y3) b2 y4 hb2 n hn _) 2 gX7_readsHead_X7_readsPlaces rfl (by decide +kernel) (by rw [hRf, hRl]; decide) (by exact mP_x) (κ := 6) (by exact mP_Kx) rfl (by decide) rfl rfl (Nat.le_of_ble_eq_true rfl) dX7_readsHead_188 (by rw [hRc, hRs]; omega) (fun r T hp => ?_)
      obtain ⟨hr, W3, b3, rfl, q, hb3⟩ := hp
      refine g_if_eq Z 198 dX7_readsHead_191 (by decide) (fun h191 => ?_) (fun h191 => ?_)
      · refine g_iconst (v := 0) Z dX7_readsHead_198 (by decide) ?_
        exact g_zret Z dX7_readsHead_199 (by rfl) (by omega) (by omega) (⟨E, W3, b3, rfl, ⟨q.1.trans y1, q.2.1.trans y2, q.2.2.1.trans y3, q.2.2.2.1⟩, hb3, hS, hE, Or.inl rfl⟩)
      · refine g_iconst (v := 1) Z dX7_readsHead_194 (by decide) ?_
        refine g_goto Z 199 dX7_readsHead_195 (by decide) ?_
        exact g_zret Z dX7_readsHead_199 (by rfl) (by omega) (by omega) (⟨E, W3, b3, rfl, ⟨q.1.trans y1, q.2.1.trans y2, q.2.2.1.trans y3, q.2.2.2.1⟩, hb3, hS, hE, Or.inr ⟨rfl, n, hn, hm, fun k hk => by rw [q.2.2.2.2]; exact hh k hk⟩⟩)
    refine g_aload_n Z dX7_readsHead_156 rfl ?_
    refine g_lload Z dX7_readsHead_157 rfl ?_
    refine g_l2i Z dX7_readsHead_159 ?_
    rw [lN_i]
    refine g_cvI Z (c_X7_readsKeys F.l F.D F.cy F.nw A x ho _ _ hO N hN (z2.trans eN) (hB.of z3) b z4 hb n hn) 1 gX7_readsHead_X7_readsKeys rfl (by decide +kernel) (by rw [hRf, hRl]; decide) (by exact mP_x) (κ := 6) (by exact mP_Kx) rfl (by decide) rfl rfl (Nat.le_of_ble_eq_true rfl) dX7_readsHead_160 (by rw [hRc, hRs]; omega) (fun r T hp => ?_)
    obtain ⟨E, W2, b2, rfl, q, hb2, hS, hE, hr⟩ := hp
    refine g_if_eq Z 198 dX7_readsHead_163 (by decide) (fun h163 => ?_) (fun h163 => ?_)
    · refine g_iconst (v := 0) Z dX7_readsHead_198 (by decide) ?_
      exact g_zret Z dX7_readsHead_199 (by rfl) (by omega) (by omega) (⟨E, W2, b2, rfl, ⟨q.1.trans z1, q.2.1.trans z2, q.2.2.1.trans z3, q.2.2.2⟩, hb2, hS, hE, Or.inl rfl⟩)
    · obtain ⟨hm, hh⟩ : E.mn 16 = nI n ∧ ∀ k, k < n → ∃ h, h ≤ 65536 ∧ W2.hd k = nI h := by rcases hr with e | e; exact absurd e h163; exact e.2
      refine g_aload_n Z dX7_readsHead_166 rfl ?_
      refine g_lload Z dX7_readsHead_167 rfl ?_
      refine g_l2i Z dX7_readsHead_169 ?_
      rw [lN_i]
      refine g_iload_n Z dX7_readsHead_170 rfl ?_
      refine g_if_ne Z 183 dX7_readsHead_171 (by decide) (fun h171 => ?_) (fun h171 => ?_)
      · refine g_iconst (v := 1) Z dX7_readsHead_183 (by decide) ?_
        refine g_goto Z 188 dX7_readsHead_184 (by decide) ?_
        exact g_lv (by (repeat (first | exact trivial | refine And.intro rfl ?_)); done) (j188 E W2 b2 _ ⟨q.1.trans z1, q.2.1.trans z2, q.2.2.1.trans z3, q.2.2.2⟩ hb2 hS hE hm hh)
      · refine g_lload Z dX7_readsHead_174 rfl ?_
        refine g_ldc2 (v := 4) Z dX7_readsHead_176 ct148 ?_
        refine g_lcmp Z dX7_readsHead_179 ?_
        refine g_if_lt Z 187 dX7_readsHead_180 (by decide) (fun h180 => ?_) (fun h180 => ?_)
        · refine g_iconst (v := 0) Z dX7_readsHead_187 (by decide) ?_
          exact g_lv (by (repeat (first | exact trivial | refine And.intro rfl ?_)); done) (j188 E W2 b2 _ ⟨q.1.trans z1, q.2.1.trans z2, q.2.2.1.trans z3, q.2.2.2⟩ hb2 hS hE hm hh)
        · refine g_iconst (v := 1) Z dX7_readsHead_183 (by decide) ?_
          refine g_goto Z 188 dX7_readsHead_184 (by decide) ?_
          exact g_lv (by (repeat (first | exact trivial | refine And.intro rfl ?_)); done) (j188 E W2 b2 _ ⟨q.1.trans z1, q.2.1.trans z2, q.2.2.1.trans z3, q.2.2.2⟩ hb2 hS hE hm hh)
  have tot : ∀ (n : Nat) (p : Int32) (W : MR) (b : Nat), n < 2 ^ 62 → Rz R W b → b ≤ N → G F 6 (mP A x (C, W)) 0 0 (QI F (fun r T => ∃ E Q b, mP A x (E, Q) = T ∧ Rz R Q b ∧ b ≤ N ∧ Se 16 C E ∧ Okc E ∧ (r = 0 ∨ (r = 1 ∧ ∃ n, n ≤ 6 ∧ E.mn 16 = nI n ∧ ∀ k, k < n → ∃ h, h ≤ 65536 ∧ Q.hd k = nI h))) 0 0) 90 [(0, .ref x), (3, .int p), (4, .long (lN n))] [] := by
    intro n p W b hn ⟨z1, z2, z3, z4⟩ hb
    refine g_lload Z dX7_readsHead_90 rfl ?_
    refine g_ldc2 (v := 6) Z dX7_readsHead_92 ct203 ?_
    refine g_lcmp Z dX7_readsHead_95 ?_
    refine g_if_le Z 114 dX7_readsHead_96 (by decide) (fun h96 => ?_) (fun h96 => ?_)
    · have hn6 : n ≤ 6 := le6 hn h96
      refine g_iload_n Z dX7_readsHead_114 rfl ?_
      refine g_if_ne Z 156 dX7_readsHead_115 (by decide) (fun h115 => ?_) (fun h115 => ?_)
      · exact g_lv (by (repeat (first | exact trivial | refine And.intro rfl ?_)); done) (keys n p _ b hn6 ⟨z1, z2, z3, z4⟩ hb)
      · refine g_aload_n Z dX7_readsHead_118 rfl ?_
        refine g_iconst (v := 1) Z dX7_readsHead_119 (by decide) ?_
        refine g_cvI Z (c_X7_are F.l F.D F.cy F.nw A x ho _ _ N hN (z2.trans eN) b z4 hb 1 (by omega)) 1 gX7_readsHead_X7_are rfl (by decide +kernel) (by rw [hRf, hRl]; decide) (by exact mP_x) (κ := 6) (by exact mP_Kx) rfl (by decide) rfl rfl (Nat.le_of_ble_eq_true rfl) dX7_readsHead_120 (by rw [hRc, hRs]; omega) (fun r T1 hp => ?_)
        rcases hp with ⟨rfl, hle, rfl⟩ | ⟨rfl, W3, rfl, q⟩
        · refine g_if_ne Z 128 dX7_readsHead_123 (by decide) (fun h123 => ?_) (fun h123 => absurd h123 (by decide))
          refine g_aload_n Z dX7_readsHead_128 rfl ?_
          refine g_aload_n Z dX7_readsHead_129 rfl ?_
          refine g_iconst (v := 1) Z dX7_readsHead_130 (by decide) ?_
          refine g_cvL Z (c_X7_taken F.l F.D F.cy F.nw A x ho _ _ (hB.of z3) b z4 1 (by omega) (by omega)) 1 gX7_readsHead_X7_taken rfl (by decide +kernel) (by rw [hRf, hRl]; decide) (by exact mP_x) (κ := 6) (by exact mP_Kx) rfl (by decide) rfl rfl (Nat.le_of_ble_eq_true rfl) dX7_readsHead_131 (by rw [hRc, hRs]; omega) (fun r T2 hp => ?_)
          obtain ⟨W3, v, rfl, q, rfl, hv⟩ := hp
          refine g_l2i Z dX7_readsHead_134 ?_
          refine m_put_bi Z in6 lk198 dX7_readsHead_135 ?_
          refine g_aload_n Z dX7_readsHead_138 rfl ?_
          refine m_get_bi Z in6 lk198 dX7_readsHead_139 ?_
          refine g_lload Z dX7_readsHead_142 rfl ?_
          refine g_l2i Z dX7_readsHead_144 ?_
          rw [lN_i]
          refine g_ishr Z dX7_readsHead_145 ?_
          refine g_if_eq Z 156 dX7_readsHead_146 (by decide) (fun h146 => ?_) (fun h146 => ?_)
          · exact g_lv (by (repeat (first | exact trivial | refine And.intro rfl ?_)); done) (keys n p _ (b + 1) hn6 ⟨q.1.trans z1, q.2.1.trans z2, q.2.2.1.trans z3, q.2.2.2.1⟩ (by omega))
          · refine g_aload_n Z dX7_readsHead_149 rfl ?_
            refine g_iconst (v := 4) Z dX7_readsHead_150 (by decide) ?_
            refine g_iconst (v := 4) Z dX7_readsHead_151 (by decide) ?_
            refine g_cvI Z (c_X7_fails F.l F.D F.cy F.nw A x ho _ _ _ _) 2 gX7_readsHead_X7_fails rfl (by decide +kernel) (by rw [hRf, hRl]; decide) (by exact mP_x) (κ := 6) (by exact mP_Kx) rfl (by decide) rfl rfl (Nat.le_of_ble_eq_true rfl) dX7_readsHead_152 (by rw [hRc, hRs]; omega) (fun r T3 hp => ?_)
            obtain ⟨rfl, rfl⟩ := hp
            exact g_zret Z dX7_readsHead_155 (by rfl) (by omega) (by omega) (⟨C, _, (b + 1), rfl, ⟨q.1.trans z1, q.2.1.trans z2, q.2.2.1.trans z3, q.2.2.2.1⟩, by omega, Se.rf, hO, Or.inl rfl⟩)
        · refine g_if_ne Z 128 dX7_readsHead_123 (by decide) (fun h123 => absurd (rfl) h123) (fun h123 => ?_)
          refine g_iconst (v := 0) Z dX7_readsHead_126 (by decide) ?_
          exact g_zret Z dX7_readsHead_127 (by rfl) (by omega) (by omega) (⟨C, W3, b, rfl, ⟨q.1.trans z1, q.2.1.trans z2, q.2.2.1.trans z3, q.2.2.2.1⟩, by omega, Se.rf, hO, Or.inl rfl⟩)
    · refine g_aload_n Z dX7_readsHead_99 rfl ?_
      refine g_iconst (v := 3) Z dX7_readsHead_100 (by decide) ?_
      refine g_iload_n Z dX7_readsHead_101 rfl ?_
      refine g_if_eq Z 109 dX7_readsHead_102 (by decide) (fun h102 => ?_) (fun h102 => ?_)
      · refine g_iconst (v := 2) Z dX7_readsHead_109 (by decide) ?_
        refine g_cvI Z (c_X7_fails F.l F.D F.cy F.nw A x ho _ _ _ _) 2 gX7_readsHead_X7_fails rfl (by decide +kernel) (by rw [hRf, hRl]; decide) (by exact mP_x) (κ := 6) (by exact mP_Kx) rfl (by decide) rfl rfl (Nat.le_of_ble_eq_true rfl) dX7_readsHead_110 (by rw [hRc, hRs]; omega) (fun r T1 hp => ?_)
        obtain ⟨rfl, rfl⟩ := hp
        exact g_zret Z dX7_readsHead_113 (by rfl) (by omega) (by omega) (⟨C, _, b, rfl, ⟨z1, z2, z3, z4⟩, by omega, Se.rf, hO, Or.inl rfl⟩)
      · refine g_iconst (v := 4) Z dX7_readsHead_105 (by decide) ?_
        refine g_goto Z 110 dX7_readsHead_106 (by decide) ?_
        refine g_cvI Z (c_X7_fails F.l F.D F.cy F.nw A x ho _ _ _ _) 2 gX7_readsHead_X7_fails rfl (by decide +kernel) (by rw [hRf, hRl]; decide) (by exact mP_x) (κ := 6) (by exact mP_Kx) rfl (by decide) rfl rfl (Nat.le_of_ble_eq_true rfl) dX7_readsHead_110 (by rw [hRc, hRs]; omega) (fun r T1 hp => ?_)
        obtain ⟨rfl, rfl⟩ := hp
        exact g_zret Z dX7_readsHead_113 (by rfl) (by omega) (by omega) (⟨C, _, b, rfl, ⟨z1, z2, z3, z4⟩, by omega, Se.rf, hO, Or.inl rfl⟩)
  have four : ∀ (v : Nat) (p : Int32) (W : MR) (b : Nat), v < 2 ^ (8 * 4) → Rz R W b → b ≤ N → G F 6 (mP A x (C, W)) 0 0 (QI F (fun r T => ∃ E Q b, mP A x (E, Q) = T ∧ Rz R Q b ∧ b ≤ N ∧ Se 16 C E ∧ Okc E ∧ (r = 0 ∨ (r = 1 ∧ ∃ n, n ≤ 6 ∧ E.mn 16 = nI n ∧ ∀ k, k < n → ∃ h, h ≤ 65536 ∧ Q.hd k = nI h))) 0 0) 29 [(0, .ref x), (1, .long (lN v))] [.int p] := by
    intro v p W b hv ⟨z1, z2, z3, z4⟩ hb
    refine g_istore_n Z dX7_readsHead_29 (by decide) ?_
    refine g_aload_n Z dX7_readsHead_30 rfl ?_
    refine g_iconst (v := 0) Z dX7_readsHead_31 (by decide) ?_
    refine m_put_bi Z in6 lk198 dX7_readsHead_32 ?_
    refine g_iload_n Z dX7_readsHead_35 rfl ?_
    refine g_if_eq Z 59 dX7_readsHead_36 (by decide) (fun h36 => ?_) (fun h36 => ?_)
    · refine g_lload_n Z dX7_readsHead_59 rfl ?_
      refine g_ldc2 (v := 65536) Z dX7_readsHead_60 ct140 ?_
      refine g_lrem Z dX7_readsHead_63 (by decide) ?_
      refine g_ldc2 (v := 12347) Z dX7_readsHead_64 ct201 ?_
      refine g_lcmp Z dX7_readsHead_67 ?_
      refine g_if_ne Z 83 dX7_readsHead_68 (by decide) (fun h68 => ?_) (fun h68 => ?_)
      · refine g_aload_n Z dX7_readsHead_83 rfl ?_
        refine g_iconst (v := 2) Z dX7_readsHead_84 (by decide) ?_
        refine g_iconst (v := 0) Z dX7_readsHead_85 (by decide) ?_
        refine g_cvI Z (c_X7_fails F.l F.D F.cy F.nw A x ho _ _ _ _) 2 gX7_readsHead_X7_fails rfl (by decide +kernel) (by rw [hRf, hRl]; decide) (by exact mP_x) (κ := 6) (by exact mP_Kx) rfl (by decide) rfl rfl (Nat.le_of_ble_eq_true rfl) dX7_readsHead_86 (by rw [hRc, hRs]; omega) (fun r T3 hp => ?_)
        obtain ⟨rfl, rfl⟩ := hp
        exact g_zret Z dX7_readsHead_89 (by rfl) (by omega) (by omega) (⟨C, _, b, rfl, ⟨z1, z2, z3, z4⟩, by omega, Se.rf, hO, Or.inl rfl⟩)
      · refine g_lload_n Z dX7_readsHead_71 rfl ?_
        refine g_ldc2 (v := 65536) Z dX7_readsHead_72 ct140 ?_
        refine g_ldiv Z dX7_readsHead_75 (by decide) ?_
        refine g_lconst (v := 1) Z dX7_readsHead_76 (by decide) ?_
        refine g_ladd Z dX7_readsHead_77 ?_
        rw [show lN v / 65536 = lN (v / 65536) from pk_lDiv (b := 65536) (by omega) (by decide) (by decide), show lN (v / 65536) + 1 = lN (v / 65536 + 1) from lN_1 _]
        refine g_lstore Z dX7_readsHead_78 (by decide) ?_
        refine g_goto Z 90 dX7_readsHead_80 (by decide) ?_
        exact g_lv (by (repeat (first | exact trivial | refine And.intro rfl ?_)); done) (tot (v / 65536 + 1) p (W.s_bi 0) b (by omega) ⟨z1, z2, z3, z4⟩ hb)
    · refine g_aload_n Z dX7_readsHead_39 rfl ?_
      refine g_iconst (v := 4) Z dX7_readsHead_40 (by decide) ?_
      refine g_cvI Z (c_X7_are F.l F.D F.cy F.nw A x ho C (W.s_bi 0) N hN (z2.trans eN) b z4 hb 4 (by omega)) 1 gX7_readsHead_X7_are rfl (by decide +kernel) (by rw [hRf, hRl]; decide) (by exact mP_x) (κ := 6) (by exact mP_Kx) rfl (by decide) rfl rfl (Nat.le_of_ble_eq_true rfl) dX7_readsHead_41 (by rw [hRc, hRs]; omega) (fun r T1 hp => ?_)
      rcases hp with ⟨rfl, hle, rfl⟩ | ⟨rfl, W3, rfl, q⟩
      · refine g_if_ne Z 49 dX7_readsHead_44 (by decide) (fun h44 => ?_) (fun h44 => absurd h44 (by decide))
        refine g_aload_n Z dX7_readsHead_49 rfl ?_
        refine g_iconst (v := 4) Z dX7_readsHead_50 (by decide) ?_
        refine g_cvL Z (c_X7_taken F.l F.D F.cy F.nw A x ho C (W.s_bi 0) (hB.of z3) b z4 4 (by omega) (by omega)) 1 gX7_readsHead_X7_taken rfl (by decide +kernel) (by rw [hRf, hRl]; decide) (by exact mP_x) (κ := 6) (by exact mP_Kx) rfl (by decide) rfl rfl (Nat.le_of_ble_eq_true rfl) dX7_readsHead_51 (by rw [hRc, hRs]; omega) (fun r T2 hp => ?_)
        obtain ⟨W3, u, rfl, q, rfl, hu⟩ := hp
        refine g_lstore Z dX7_readsHead_54 (by decide) ?_
        refine g_goto Z 90 dX7_readsHead_56 (by decide) ?_
        exact g_lv (by (repeat (first | exact trivial | refine And.intro rfl ?_)); done) (tot u p W3 (b + 4) (by omega) ⟨q.1.trans z1, q.2.1.trans z2, q.2.2.1.trans z3, q.2.2.2.1⟩ (by omega))
      · refine g_if_ne Z 49 dX7_readsHead_44 (by decide) (fun h44 => absurd (rfl) h44) (fun h44 => ?_)
        refine g_iconst (v := 0) Z dX7_readsHead_47 (by decide) ?_
        exact g_zret Z dX7_readsHead_48 (by rfl) (by omega) (by omega) (⟨C, W3, b, rfl, ⟨q.1.trans z1, q.2.1.trans z2, q.2.2.1.trans z3, q.2.2.2.1⟩, by omega, Se.rf, hO, Or.inl rfl⟩)
  refine g_aload_n Z dX7_readsHead_0 rfl ?_
  refine g_iconst (v := 4) Z dX7_readsHead_1 (by decide) ?_
  refine g_cvI Z (c_X7_are F.l F.D F.cy F.nw A x ho _ _ N hN eN a ea haN 4 (by omega)) 1 gX7_readsHead_X7_are rfl (by decide +kernel) (by rw [hRf, hRl]; decide) (by exact mP_x) (κ := 6) (by exact mP_Kx) rfl (by decide) rfl rfl (Nat.le_of_ble_eq_true rfl) dX7_readsHead_2 (by rw [hRc, hRs]; omega) (fun r T1 hp => ?_)
  rcases hp with ⟨rfl, hle, rfl⟩ | ⟨rfl, W3, rfl, q⟩
  · refine g_if_ne Z 10 dX7_readsHead_5 (by decide) (fun h5 => ?_) (fun h5 => absurd h5 (by decide))
    refine g_aload_n Z dX7_readsHead_10 rfl ?_
    refine g_iconst (v := 4) Z dX7_readsHead_11 (by decide) ?_
    refine g_cvL Z (c_X7_taken F.l F.D F.cy F.nw A x ho _ _ hB a ea 4 (by omega) (by omega)) 1 gX7_readsHead_X7_taken rfl (by decide +kernel) (by rw [hRf, hRl]; decide) (by exact mP_x) (κ := 6) (by exact mP_Kx) rfl (by decide) rfl rfl (Nat.le_of_ble_eq_true rfl) dX7_readsHead_12 (by rw [hRc, hRs]; omega) (fun r T2 hp => ?_)
    obtain ⟨W3, v, rfl, q, rfl, hv⟩ := hp
    refine g_lstore_n Z dX7_readsHead_15 (by decide) ?_
    refine g_lload_n Z dX7_readsHead_16 rfl ?_
    refine g_ldc2 (v := 12346) Z dX7_readsHead_17 ct196 ?_
    refine g_lcmp Z dX7_readsHead_20 ?_
    refine g_if_ne Z 28 dX7_readsHead_21 (by decide) (fun h21 => ?_) (fun h21 => ?_)
    · refine g_iconst (v := 0) Z dX7_readsHead_28 (by decide) ?_
      exact g_lv (by (repeat (first | exact trivial | refine And.intro rfl ?_)); done) (four v _ W3 (a + 4) hv q.z (by omega))
    · refine g_iconst (v := 1) Z dX7_readsHead_24 (by decide) ?_
      refine g_goto Z 29 dX7_readsHead_25 (by decide) ?_
      exact g_lv (by (repeat (first | exact trivial | refine And.intro rfl ?_)); done) (four v _ W3 (a + 4) hv q.z (by omega))
  · refine g_if_ne Z 10 dX7_readsHead_5 (by decide) (fun h5 => absurd (rfl) h5) (fun h5 => ?_)
    refine g_iconst (v := 0) Z dX7_readsHead_8 (by decide) ?_
    exact g_zret Z dX7_readsHead_9 (by rfl) (by omega) (by omega) (⟨C, W3, a, rfl, q.z, by omega, Se.rf, hO, Or.inl rfl⟩)

/-- a bit past all others is set -/
theorem tn_new {f g : Nat → Int64} {c v L : Nat} (hT : Tn f g c v) (hv : v < 65536) (hL : L ≤ v) (h0 : ∀ l, L ≤ l → l < 65536 → cb f c l = 0) : ct g c 65536 = ct f c 65536 + 1 ∧ ∀ l, v + 1 ≤ l → l < 65536 → cb g c l = 0 := by
  have h := tn_all hT hv
  have e := h0 v hL hv
  rw [e] at h
  exact ⟨by omega, fun l h1 h2 => (hT.2 c l h2 (Or.inr (by omega))).trans (h0 l (by omega) h2)⟩
theorem Ce.wdT {c : Nat} {C : C5} {f g : Nat → Int64} {v : Nat} (h : Ce c C (C.s_wd f)) (hT : Tn f g c v) : Ce c C (C.s_wd g) := ⟨rfl, fun d hd => ⟨rfl, rfl, fun l hl => (hT.2 d l hl (Or.inl hd)).trans ((h.2 d hd).2.2 l hl)⟩⟩

set_option maxRecDepth 100000 in
set_option maxHeartbeats 2000000 in
/-- an array is read -/
theorem c_X7_readsArray (l : Launch) (D : va_G) (cy : Nat → ClassId) (nw : Nat) (A : Nat → Nat) (x : Nat) (ho : mOk A x) (C : C5) (R : MR) (N : Nat) (hN : N ≤ 60000) (eN : R.si = nI N) (hB : Bt R) (a : Nat) (ea : R.aa = nI a) (haN : a ≤ N) (c : Nat) (hc : c < 102) (hz : ∀ l, l < 65536 → cb C.wd c l = 0) (hs0 : C.sz c = 0) (h : Nat) (hh : h ≤ 65536) : kI l yX7_readsArray wsX7_readsArray 2 43 D cy nw [.ref x, .int (nI c), .int (nI h)] (mP A x (C, R)) (fun r T => ∃ E Q b, mP A x (E, Q) = T ∧ Rq R Q b ∧ b ≤ N ∧ Ce c C E ∧ E.ky = C.ky ∧ (r = 0 ∨ (r = 1 ∧ gc E c))) 0 0 := by
  refine enterI (cc := cX7_readsArray) (nL := 6) (ret := (some .boolean)) (by decide +kernel) rfl (Nat.le_of_ble_eq_true rfl) ?_
  intro F Z hl hR hD hcy hnw hnm
  subst hl hD hcy hnw
  have hRf : F.R.frames = 2 := by rw [hR]
  have hRc : F.R.cells = 0 := by rw [hR]
  have hRs : F.R.slots = 0 := by rw [hR]
  have hRl : F.R.locals = 43 := by rw [hR]
  have in6 : ∀ w ∈ u_ws RX7 TX7 16, w ∈ wsX7_readsArray := by decide +kernel
  have lk19 : Cond.fieldLink RX7 19 (TX7 3).1 (TX7 3).2.1 (TX7 3).2.2.1 ∈ wsX7_readsArray := by decide +kernel
  have lk183 : Cond.fieldLink RX7 183 (TX7 11).1 (TX7 11).2.1 (TX7 11).2.2.1 ∈ wsX7_readsArray := by decide +kernel
  have loop : ∀ (i : Nat) (k L : Nat) (y : Int32) (g : Nat → Int64) (W : MR) (b : Nat), h - k < i → (k ≤ h ∧ Rq R W b ∧ b ≤ N ∧ Ce c C (C.s_wd g) ∧ ((y = -1 ∧ L = 0) ∨ ∃ l, l < 65536 ∧ y = nI l ∧ L = l + 1) ∧ (∀ l, L ≤ l → l < 65536 → cb g c l = 0) ∧ ct g c 65536 = k) → G F 6 (mP A x (C.s_wd g, W)) 0 0 (QI F (fun r T => ∃ E Q b, mP A x (E, Q) = T ∧ Rq R Q b ∧ b ≤ N ∧ Ce c C E ∧ E.ky = C.ky ∧ (r = 0 ∨ (r = 1 ∧ gc E c))) 0 0) 5 [(0, .ref x), (1, .int (nI c)), (2, .int (nI h)), (3, .int y), (4, .int (nI k))] [] := by
    intro i
    induction i with
    | zero => intros; omega
    | succ i ih =>
      intro k L y g W b hm ⟨hk, ⟨z1, z2, z3, z4, z5⟩, hb, hC, hy, h0, hct⟩
      refine g_iload Z dX7_readsArray_5 rfl ?_
      refine g_iload_n Z dX7_readsArray_7 rfl ?_
      refine g_icmp_ge Z 64 dX7_readsArray_8 (by decide) (fun h8 => ?_) (fun h8 => ?_)
      · have he : k = h := by have := ge_t (i := k) (N := h) (by omega) (by omega) h8; omega
        subst he
        refine g_aload_n Z dX7_readsArray_64 rfl ?_
        refine m_ref_sz Z in6 lk19 dX7_readsArray_65 ?_
        refine g_iload_n Z dX7_readsArray_68 rfl ?_
        refine g_iload_n Z dX7_readsArray_69 rfl ?_
        refine m_ast_sz Z ho dX7_readsArray_70 (by exact vp_in_nI (by omega) (by decide)) ?_
        rw [nI_clamp (by omega)]
        refine g_iconst (v := 1) Z dX7_readsArray_71 (by decide) ?_
        exact g_zret Z dX7_readsArray_72 (by rfl) (by omega) (by omega) (⟨_, W, b, rfl, ⟨z1, z2, z3, z4, z5⟩, hb, ⟨rfl, fun d hd => ⟨rfl, pk_un hd, (hC.2 d hd).2.2⟩⟩, rfl, Or.inr ⟨rfl, by show upd C.sz c (nI k) c = nI (ct g c 65536); rw [pk_us, hct]⟩⟩)
      · have hlt : k < h := ge_f (by omega) (by omega) h8
        refine g_aload_n Z dX7_readsArray_11 rfl ?_
        refine g_iconst (v := 2) Z dX7_readsArray_12 (by decide) ?_
        refine g_cvI Z (c_X7_are F.l F.D F.cy F.nw A x ho _ _ N hN (z2.trans eN) b z4 hb 2 (by omega)) 1 gX7_readsArray_X7_are rfl (by decide +kernel) (by rw [hRf, hRl]; decide) (by exact mP_x) (κ := 6) (by exact mP_Kx) rfl (by decide) rfl rfl (Nat.le_of_ble_eq_true rfl) dX7_readsArray_13 (by rw [hRc, hRs]; omega) (fun r T1 hp => ?_)
        rcases hp with ⟨rfl, hle, rfl⟩ | ⟨rfl, W3, rfl, q⟩
        · refine g_if_ne Z 21 dX7_readsArray_16 (by decide) (fun h16 => ?_) (fun h16 => absurd h16 (by decide))
          refine g_aload_n Z dX7_readsArray_21 rfl ?_
          refine g_iconst (v := 2) Z dX7_readsArray_22 (by decide) ?_
          refine g_cvL Z (c_X7_taken F.l F.D F.cy F.nw A x ho _ _ (hB.of z3) b z4 2 (by omega) (by omega)) 1 gX7_readsArray_X7_taken rfl (by decide +kernel) (by rw [hRf, hRl]; decide) (by exact mP_x) (κ := 6) (by exact mP_Kx) rfl (by decide) rfl rfl (Nat.le_of_ble_eq_true rfl) dX7_readsArray_23 (by rw [hRc, hRs]; omega) (fun r T2 hp => ?_)
          obtain ⟨W3, v, rfl, q, rfl, hv⟩ := hp
          refine g_l2i Z dX7_readsArray_26 ?_
          rw [lN_i]
          refine g_istore Z dX7_readsArray_27 (by decide) ?_
          refine g_iload Z dX7_readsArray_29 rfl ?_
          refine g_iload_n Z dX7_readsArray_31 rfl ?_
          refine g_icmp_gt Z 48 dX7_readsArray_32 (by decide) (fun h32 => ?_) (fun h32 => ?_)
          · have hLv : L ≤ v := by
              rcases hy with ⟨e1, e2⟩ | ⟨l, hl, e1, e2⟩
              · omega
              · rw [e1] at h32; have := lt_t (by omega) (by omega) h32; omega
            refine g_iload Z dX7_readsArray_48 rfl ?_
            refine g_istore_n Z dX7_readsArray_50 (by decide) ?_
            refine g_aload_n Z dX7_readsArray_51 rfl ?_
            refine g_iload_n Z dX7_readsArray_52 rfl ?_
            refine g_iload Z dX7_readsArray_53 rfl ?_
            refine g_cvV Z (c_X7_turn F.l F.D F.cy F.nw A x ho _ _ _ _ hc (by omega)) 2 gX7_readsArray_X7_turn rfl (by decide +kernel) (by rw [hRf, hRl]; decide) (by exact mP_x) (κ := 6) (by exact mP_Kx) rfl (by decide) rfl rfl (Nat.le_of_ble_eq_true rfl) dX7_readsArray_55 (by rw [hRc, hRs]; omega) (fun T4 hp => ?_)
            obtain ⟨g2, rfl, hT⟩ := hp
            obtain ⟨t1, t2⟩ := tn_new hT (by omega) hLv h0
            refine g_iinc (c := 1) Z dX7_readsArray_58 rfl (by decide) (by decide) ?_
            rw [nI_1]
            refine g_goto Z 5 dX7_readsArray_61 (by decide) ?_
            exact g_lv (by (repeat (first | exact trivial | refine And.intro rfl ?_)); done) (ih (k + 1) (v + 1) _ g2 W3 (b + 2) (by omega) ⟨by omega, ⟨q.1.trans z1, q.2.1.trans z2, q.2.2.1.trans z3, q.2.2.2.1, q.2.2.2.2.trans z5⟩, by omega, hC.wdT hT, Or.inr ⟨v, by omega, rfl, rfl⟩, t2, t1.trans (congrArg (fun q => q + 1) hct)⟩)
          · refine g_aload_n Z dX7_readsArray_35 rfl ?_
            refine g_bipush (v := 7) Z dX7_readsArray_36 (by decide) ?_
            refine g_aload_n Z dX7_readsArray_38 rfl ?_
            refine m_get_aa Z in6 lk183 dX7_readsArray_39 ?_
            refine g_iconst (v := 2) Z dX7_readsArray_42 (by decide) ?_
            refine g_isub Z dX7_readsArray_43 ?_
            refine g_cvI Z (c_X7_fails F.l F.D F.cy F.nw A x ho _ _ _ _) 2 gX7_readsArray_X7_fails rfl (by decide +kernel) (by rw [hRf, hRl]; decide) (by exact mP_x) (κ := 6) (by exact mP_Kx) rfl (by decide) rfl rfl (Nat.le_of_ble_eq_true rfl) dX7_readsArray_44 (by rw [hRc, hRs]; omega) (fun r T3 hp => ?_)
            obtain ⟨rfl, rfl⟩ := hp
            exact g_zret Z dX7_readsArray_47 (by rfl) (by omega) (by omega) (⟨C.s_wd g, _, (b + 2), rfl, ⟨q.1.trans z1, q.2.1.trans z2, q.2.2.1.trans z3, q.2.2.2.1, q.2.2.2.2.trans z5⟩, by omega, hC, rfl, Or.inl rfl⟩)
        · refine g_if_ne Z 21 dX7_readsArray_16 (by decide) (fun h16 => absurd (rfl) h16) (fun h16 => ?_)
          refine g_iconst (v := 0) Z dX7_readsArray_19 (by decide) ?_
          exact g_zret Z dX7_readsArray_20 (by rfl) (by omega) (by omega) (⟨C.s_wd g, W3, b, rfl, ⟨q.1.trans z1, q.2.1.trans z2, q.2.2.1.trans z3, q.2.2.2.1, q.2.2.2.2.trans z5⟩, by omega, hC, rfl, Or.inl rfl⟩)
  refine g_iconst (v := (-1)) Z dX7_readsArray_0 (by decide) ?_
  refine g_istore_n Z dX7_readsArray_1 (by decide) ?_
  refine g_iconst (v := 0) Z dX7_readsArray_2 (by decide) ?_
  refine g_istore Z dX7_readsArray_3 (by decide) ?_
  exact g_lv (by (repeat (first | exact trivial | refine And.intro rfl ?_)); done) (loop (h + 1) 0 0 _ C.wd R a (by omega) ⟨by omega, ⟨rfl, rfl, rfl, ea, rfl⟩, haN, Ce.rf, Or.inl ⟨rfl, rfl⟩, fun l _ hl => hz l hl, ct_zero 65536 hz⟩)

set_option maxRecDepth 100000 in
set_option maxHeartbeats 2000000 in
/-- a bitmap is read -/
theorem c_X7_readsBitmap (l : Launch) (D : va_G) (cy : Nat → ClassId) (nw : Nat) (A : Nat → Nat) (x : Nat) (ho : mOk A x) (C : C5) (R : MR) (N : Nat) (hN : N ≤ 60000) (eN : R.si = nI N) (hB : Bt R) (a : Nat) (ea : R.aa = nI a) (haN : a ≤ N) (c : Nat) (hc : c < 102) (hz : ∀ l, l < 65536 → cb C.wd c l = 0) (hs0 : C.sz c = 0) (h : Nat) (hh : h ≤ 65536) : kI l yX7_readsBitmap wsX7_readsBitmap 2 43 D cy nw [.ref x, .int (nI c), .int (nI h)] (mP A x (C, R)) (fun r T => ∃ E Q b, mP A x (E, Q) = T ∧ Rq R Q b ∧ b ≤ N ∧ Ce c C E ∧ E.ky = C.ky ∧ (r = 0 ∨ (r = 1 ∧ gc E c))) 0 0 := by
  refine enterI (cc := cX7_readsBitmap) (nL := 6) (ret := (some .boolean)) (by decide +kernel) rfl (Nat.le_of_ble_eq_true rfl) ?_
  intro F Z hl hR hD hcy hnw hnm
  subst hl hD hcy hnw
  have hRf : F.R.frames = 2 := by rw [hR]
  have hRc : F.R.cells = 0 := by rw [hR]
  have hRs : F.R.slots = 0 := by rw [hR]
  have hRl : F.R.locals = 43 := by rw [hR]
  have in6 : ∀ w ∈ u_ws RX7 TX7 16, w ∈ wsX7_readsBitmap := by decide +kernel
  have lk19 : Cond.fieldLink RX7 19 (TX7 3).1 (TX7 3).2.1 (TX7 3).2.2.1 ∈ wsX7_readsBitmap := by decide +kernel
  have lk23 : Cond.fieldLink RX7 23 (TX7 4).1 (TX7 4).2.1 (TX7 4).2.2.1 ∈ wsX7_readsBitmap := by decide +kernel
  have lk183 : Cond.fieldLink RX7 183 (TX7 11).1 (TX7 11).2.1 (TX7 11).2.2.1 ∈ wsX7_readsBitmap := by decide +kernel
  have loop : ∀ (i : Nat) (k : Nat) (D : C5) (W : MR), 1024 - k < i → (k ≤ 1024 ∧ Rq R W (a + 8 * k) ∧ a + 8192 ≤ N ∧ Ce c C D ∧ D.ky = C.ky ∧ D.sz c = nI (ct D.wd c (64 * k))) → G F 6 (mP A x (D, W)) 0 0 (QI F (fun r T => ∃ E Q b, mP A x (E, Q) = T ∧ Rq R Q b ∧ b ≤ N ∧ Ce c C E ∧ E.ky = C.ky ∧ (r = 0 ∨ (r = 1 ∧ gc E c))) 0 0) 14 [(0, .ref x), (1, .int (nI c)), (2, .int (nI h)), (3, .int (nI k))] [] := by
    intro i
    induction i with
    | zero => intros; omega
    | succ i ih =>
      intro k D W hm ⟨hk, ⟨z1, z2, z3, z4, z5⟩, hb, hC, hky, hsz⟩
      refine g_iload_n Z dX7_readsBitmap_14 rfl ?_
      refine g_sipush (v := 1024) Z dX7_readsBitmap_15 (by decide) ?_
      refine g_icmp_ge Z 81 dX7_readsBitmap_18 (by decide) (fun h18 => ?_) (fun h18 => ?_)
      · have he : k = 1024 := by have := ge_t (i := k) (N := 1024) (by omega) (by decide) h18; omega
        have hgc : gc D c := by show D.sz c = _; rw [hsz, ct_all he]
        refine g_aload_n Z dX7_readsBitmap_81 rfl ?_
        refine m_ref_sz Z in6 lk19 dX7_readsBitmap_82 ?_
        refine g_iload_n Z dX7_readsBitmap_85 rfl ?_
        refine m_ald_sz Z ho dX7_readsBitmap_86 (by exact vp_in_nI (by omega) (by decide)) ?_
        rw [nI_clamp (by omega)]
        refine g_iload_n Z dX7_readsBitmap_87 rfl ?_
        refine g_icmp_eq Z 104 dX7_readsBitmap_88 (by decide) (fun h88 => ?_) (fun h88 => ?_)
        · refine g_iconst (v := 1) Z dX7_readsBitmap_104 (by decide) ?_
          refine g_goto Z 109 dX7_readsBitmap_105 (by decide) ?_
          exact g_zret Z dX7_readsBitmap_109 (by rfl) (by omega) (by omega) (⟨D, W, a + 8 * k, rfl, ⟨z1, z2, z3, z4, z5⟩, by omega, hC, hky, Or.inr ⟨rfl, hgc⟩⟩)
        · refine g_aload_n Z dX7_readsBitmap_91 rfl ?_
          refine g_bipush (v := 8) Z dX7_readsBitmap_92 (by decide) ?_
          refine g_aload_n Z dX7_readsBitmap_94 rfl ?_
          refine m_get_aa Z in6 lk183 dX7_readsBitmap_95 ?_
          refine g_cvI Z (c_X7_fails F.l F.D F.cy F.nw A x ho _ _ _ _) 2 gX7_readsBitmap_X7_fails rfl (by decide +kernel) (by rw [hRf, hRl]; decide) (by exact mP_x) (κ := 6) (by exact mP_Kx) rfl (by decide) rfl rfl (Nat.le_of_ble_eq_true rfl) dX7_readsBitmap_98 (by rw [hRc, hRs]; omega) (fun r T4 hp => ?_)
          obtain ⟨rfl, rfl⟩ := hp
          refine g_if_eq Z 108 dX7_readsBitmap_101 (by decide) (fun h101 => ?_) (fun h101 => absurd (rfl) h101)
          refine g_iconst (v := 0) Z dX7_readsBitmap_108 (by decide) ?_
          exact g_zret Z dX7_readsBitmap_109 (by rfl) (by omega) (by omega) (⟨D, _, a + 8 * k, rfl, ⟨z1, z2, z3, z4, z5⟩, by omega, hC, hky, Or.inl rfl⟩)
      · have hlt : k < 1024 := ge_f (by omega) (by decide) h18
        refine g_aload_n Z dX7_readsBitmap_21 rfl ?_
        refine g_iconst (v := 4) Z dX7_readsBitmap_22 (by decide) ?_
        refine g_cvL Z (c_X7_taken F.l F.D F.cy F.nw A x ho _ _ (hB.of z3) (a + 8 * k) z4 4 (by omega) (by omega)) 1 gX7_readsBitmap_X7_taken rfl (by decide +kernel) (by rw [hRf, hRl]; decide) (by exact mP_x) (κ := 6) (by exact mP_Kx) rfl (by decide) rfl rfl (Nat.le_of_ble_eq_true rfl) dX7_readsBitmap_23 (by rw [hRc, hRs]; omega) (fun r T1 hp => ?_)
        obtain ⟨W2, u, rfl, q, rfl, hu⟩ := hp
        obtain ⟨y1, y2, y3, y4, y5⟩ : Rq R W2 (a + 8 * k + 4) := ⟨q.1.trans z1, q.2.1.trans z2, q.2.2.1.trans z3, q.2.2.2.1, q.2.2.2.2.trans z5⟩
        refine g_lstore Z dX7_readsBitmap_26 (by decide) ?_
        refine g_aload_n Z dX7_readsBitmap_28 rfl ?_
        refine m_ref_wd Z in6 lk23 dX7_readsBitmap_29 ?_
        refine g_sipush (v := 1024) Z dX7_readsBitmap_32 (by decide) ?_
        refine g_iload_n Z dX7_readsBitmap_35 rfl ?_
        refine g_imul Z dX7_readsBitmap_36 ?_
        refine g_iload_n Z dX7_readsBitmap_37 rfl ?_
        refine g_iadd Z dX7_readsBitmap_38 ?_
        rw [ixw]
        refine g_lload Z dX7_readsBitmap_39 rfl ?_
        refine g_aload_n Z dX7_readsBitmap_41 rfl ?_
        refine g_iconst (v := 4) Z dX7_readsBitmap_42 (by decide) ?_
        refine g_cvL Z (c_X7_taken F.l F.D F.cy F.nw A x ho _ _ (hB.of y3) (a + 8 * k + 4) y4 4 (by omega) (by omega)) 1 gX7_readsBitmap_X7_taken rfl (by decide +kernel) (by rw [hRf, hRl]; decide) (by exact mP_x) (κ := 6) (by exact mP_Kx) rfl (by decide) rfl rfl (Nat.le_of_ble_eq_true rfl) dX7_readsBitmap_43 (by rw [hRc, hRs]; omega) (fun r T2 hp => ?_)
        obtain ⟨W3, u2, rfl, q2, rfl, hu2⟩ := hp
        refine g_bipush (v := 32) Z dX7_readsBitmap_46 (by decide) ?_
        refine g_lshl Z dX7_readsBitmap_48 ?_
        refine g_lor Z dX7_readsBitmap_49 ?_
        refine m_ast_wd Z ho dX7_readsBitmap_50 (by exact vp_in_nI (by omega) (by decide)) ?_
        rw [nI_clamp (by omega)]
        refine g_aload_n Z dX7_readsBitmap_51 rfl ?_
        refine m_ref_sz Z in6 lk19 dX7_readsBitmap_52 ?_
        refine g_iload_n Z dX7_readsBitmap_55 rfl ?_
        refine g_dup2 Z dX7_readsBitmap_56 rfl rfl ?_
        refine m_ald_sz Z ho dX7_readsBitmap_57 (by exact vp_in_nI (by omega) (by decide)) ?_
        rw [nI_clamp (by omega)]
        refine g_aload_n Z dX7_readsBitmap_58 rfl ?_
        refine m_ref_wd Z in6 lk23 dX7_readsBitmap_59 ?_
        refine g_sipush (v := 1024) Z dX7_readsBitmap_62 (by decide) ?_
        refine g_iload_n Z dX7_readsBitmap_65 rfl ?_
        refine g_imul Z dX7_readsBitmap_66 ?_
        refine g_iload_n Z dX7_readsBitmap_67 rfl ?_
        refine g_iadd Z dX7_readsBitmap_68 ?_
        rw [ixw]
        refine m_ald_wd Z ho dX7_readsBitmap_69 (by exact vp_in_nI (by omega) (by decide)) ?_
        rw [nI_clamp (by omega)]
        rw [show ∀ (u : Int64), (C5.wd (D.s_wd (vp_updL D.wd (1024 * c + k) u))) (1024 * c + k) = u from fun u => pk_uLs]
        refine g_csI Z (c_X7_bitsOf F.l F.D F.cy F.nw _ _) 1 gX7_readsBitmap_X7_bitsOf rfl (by decide +kernel) (by rw [hRf, hRl]; decide) rfl rfl (Nat.le_of_ble_eq_true rfl) dX7_readsBitmap_70 (by rw [hRc, hRs]; omega) (fun r T3 hp => ?_)
        obtain ⟨rfl, rfl⟩ := hp
        obtain ⟨s1, s2⟩ := wd_step (v := lN u ||| lN u2 <<< ((32 : Int32).toInt64 &&& 63)) hlt hC hsz
        refine g_iadd Z dX7_readsBitmap_73 ?_
        refine m_ast_sz Z ho dX7_readsBitmap_74 (by exact vp_in_nI (by omega) (by decide)) ?_
        rw [nI_clamp (by omega)]
        refine g_iinc (c := 1) Z dX7_readsBitmap_75 rfl (by decide) (by decide) ?_
        rw [nI_1]
        refine g_goto Z 14 dX7_readsBitmap_78 (by decide) ?_
        exact g_lv (by (repeat (first | exact trivial | refine And.intro rfl ?_)); done) (ih (k + 1) _ W3 (by omega) ⟨by omega, ⟨q2.1.trans y1, q2.2.1.trans y2, q2.2.2.1.trans y3, q2.2.2.2.1.trans (congrArg nI (by omega)), q2.2.2.2.2.trans y5⟩, hb, s1, hky, s2⟩)
  refine g_aload_n Z dX7_readsBitmap_0 rfl ?_
  refine g_sipush (v := 8192) Z dX7_readsBitmap_1 (by decide) ?_
  refine g_cvI Z (c_X7_are F.l F.D F.cy F.nw A x ho _ _ N hN eN a ea haN 8192 (by omega)) 1 gX7_readsBitmap_X7_are rfl (by decide +kernel) (by rw [hRf, hRl]; decide) (by exact mP_x) (κ := 6) (by exact mP_Kx) rfl (by decide) rfl rfl (Nat.le_of_ble_eq_true rfl) dX7_readsBitmap_4 (by rw [hRc, hRs]; omega) (fun r T1 hp => ?_)
  rcases hp with ⟨rfl, hle, rfl⟩ | ⟨rfl, W3, rfl, q⟩
  · refine g_if_ne Z 12 dX7_readsBitmap_7 (by decide) (fun h7 => ?_) (fun h7 => absurd h7 (by decide))
    refine g_iconst (v := 0) Z dX7_readsBitmap_12 (by decide) ?_
    refine g_istore_n Z dX7_readsBitmap_13 (by decide) ?_
    exact g_lv (by (repeat (first | exact trivial | refine And.intro rfl ?_)); done) (loop 1025 0 C R (by omega) ⟨by omega, ⟨rfl, rfl, rfl, ea, rfl⟩, hle, Ce.rf, rfl, hs0⟩)
  · refine g_if_ne Z 12 dX7_readsBitmap_7 (by decide) (fun h7 => absurd (rfl) h7) (fun h7 => ?_)
    refine g_iconst (v := 0) Z dX7_readsBitmap_10 (by decide) ?_
    exact g_zret Z dX7_readsBitmap_11 (by rfl) (by omega) (by omega) (⟨C, W3, a, rfl, q, haN, Ce.rf, rfl, Or.inl rfl⟩)
