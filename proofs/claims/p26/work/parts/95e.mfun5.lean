def MkR (y : Int32) (V : Sv) (key : Nat) (oa ob : Option Cn) (r : Int32) (E : C5) : Prop := (r = 0 ∧ V.1 = 6 ∧ 0 < tot (jW y oa ob)) ∨ (r = 1 ∧ ((¬ 0 < tot (jW y oa ob) ∧ Ms E 16 V) ∨ (0 < tot (jW y oa ob) ∧ V.1 < 6 ∧ ∃ k, jKd y oa ob k ∧ Ms E 16 (V.psh (key, k, jW y oa ob)))))
theorem jW_a {y : Int32} {a : Cn} (hy : y = 0 ∨ y = 1 ∨ y = 2 ∨ y = 3) : jW y (some a) none = if y = 0 then zW else a.2.2 := by
  rcases hy with rfl | rfl | rfl | rfl
  · funext j
    show a.2.2 j &&& (0 : Int64) = 0
    exact Int64.and_zero
  · funext j
    show a.2.2 j ||| (0 : Int64) = a.2.2 j
    exact Int64.or_zero
  · funext j
    show a.2.2 j ^^^ (0 : Int64) = a.2.2 j
    exact Int64.xor_zero
  · funext j
    show a.2.2 j &&& ((0 : Int64) ^^^ -1) = a.2.2 j
    rw [show (0 : Int64) ^^^ -1 = -1 from rfl]
    exact Int64.and_neg_one
theorem jW_b {y : Int32} {b : Cn} (hy : y = 0 ∨ y = 1 ∨ y = 2 ∨ y = 3) : jW y none (some b) = if y = 1 ∨ y = 2 then b.2.2 else zW := by
  rcases hy with rfl | rfl | rfl | rfl
  · funext j
    show (0 : Int64) &&& b.2.2 j = 0
    exact Int64.zero_and
  · funext j
    show (0 : Int64) ||| b.2.2 j = b.2.2 j
    exact Int64.zero_or
  · funext j
    show (0 : Int64) ^^^ b.2.2 j = b.2.2 j
    exact Int64.zero_xor
  · funext j
    show (0 : Int64) &&& (b.2.2 j ^^^ -1) = 0
    exact Int64.zero_and
theorem mk_a {y : Int32} {V : Sv} {a : Cn} {r : Int32} {E : C5} (hy : y = 0 ∨ y = 1 ∨ y = 2 ∨ y = 3) (ht : 0 < tot a.2.2) (h : MkR y V a.1 (some a) none r E) : (r = 0 ∧ V.1 = 6 ∧ ¬ y = 0) ∨ (r = 1 ∧ Ms E 16 (if y = 0 then V else V.psh a)) := by
  unfold MkR at h
  by_cases e : y = 0
  · rw [jW_a hy, if_pos e, tot_zW] at h
    rcases h with ⟨-, -, q⟩ | ⟨h1, ⟨-, h2⟩ | ⟨q, -⟩⟩
    · exact absurd q (Nat.lt_irrefl _)
    · exact Or.inr ⟨h1, by rw [if_pos e]; exact h2⟩
    · exact absurd q (Nat.lt_irrefl _)
  · have hj : jW y (some a) none = a.2.2 := by rw [jW_a hy, if_neg e]
    rw [hj] at h
    rcases h with ⟨h1, h2, -⟩ | ⟨h1, ⟨q, -⟩ | ⟨-, -, k, hk, h2⟩⟩
    · exact Or.inl ⟨h1, h2, e⟩
    · exact absurd ht q
    · refine Or.inr ⟨h1, ?_⟩
      rw [if_neg e]
      have hk2 : k = a.2.1 := by
        rcases hk with ⟨v, q1, -, q2⟩ | ⟨q, -⟩
        · cases q1; exact q2
        · exact absurd ⟨a, rfl, fun j _ => by rw [hj]⟩ q
      rw [hk2] at h2
      exact h2
theorem mk_b {y : Int32} {V : Sv} {b : Cn} {r : Int32} {E : C5} (hy : y = 0 ∨ y = 1 ∨ y = 2 ∨ y = 3) (ht : 0 < tot b.2.2) (h : MkR y V b.1 none (some b) r E) : (r = 0 ∧ V.1 = 6 ∧ (y = 1 ∨ y = 2)) ∨ (r = 1 ∧ Ms E 16 (if y = 1 ∨ y = 2 then V.psh b else V)) := by
  unfold MkR at h
  by_cases e : y = 1 ∨ y = 2
  · have hj : jW y none (some b) = b.2.2 := by rw [jW_b hy, if_pos e]
    rw [hj] at h
    rcases h with ⟨h1, h2, -⟩ | ⟨h1, ⟨q, -⟩ | ⟨-, -, k, hk, h2⟩⟩
    · exact Or.inl ⟨h1, h2, e⟩
    · exact absurd ht q
    · refine Or.inr ⟨h1, ?_⟩
      rw [if_pos e]
      have hk2 : k = b.2.1 := by
        rcases hk with ⟨v, q1, -, q2⟩ | ⟨-, ⟨v, q1, -, q2⟩ | ⟨q, -⟩⟩
        · cases q1
        · cases q1; exact q2
        · exact absurd ⟨b, rfl, fun j _ => by rw [hj]⟩ q
      rw [hk2] at h2
      exact h2
  · rw [jW_b hy, if_neg e, tot_zW] at h
    rcases h with ⟨-, -, q⟩ | ⟨h1, ⟨-, h2⟩ | ⟨q, -⟩⟩
    · exact absurd q (Nat.lt_irrefl _)
    · exact Or.inr ⟨h1, by rw [if_neg e]; exact h2⟩
    · exact absurd q (Nat.lt_irrefl _)
theorem mk_c {y : Int32} {V : Sv} {a b : Cn} {r : Int32} {E : C5} (h : MkR y V a.1 (some a) (some b) r E) : (r = 0 ∧ V.1 = 6 ∧ 0 < tot (mxF y a b)) ∨ (r = 1 ∧ Ms E 16 (if 0 < tot (mxF y a b) then V.psh (mxC y a b) else V)) := by
  have hj : jW y (some a) (some b) = mxF y a b := rfl
  unfold MkR at h
  rw [hj] at h
  rcases h with ⟨h1, h2, h3⟩ | ⟨h1, ⟨q, h2⟩ | ⟨q, -, k, hk, h2⟩⟩
  · exact Or.inl ⟨h1, h2, h3⟩
  · exact Or.inr ⟨h1, by rw [if_neg q]; exact h2⟩
  · refine Or.inr ⟨h1, ?_⟩
    rw [if_pos q]
    have hk2 : k = (mxC y a b).2.1 := by
      unfold mxC
      show k = @ite Int32 _ (Classical.propDecidable _) a.2.1 _
      rcases hk with ⟨v, q1, q2, q3⟩ | ⟨q1, hk⟩
      · cases q1
        rw [if_pos (show ∀ j, j < 1024 → mxF y a b j = a.2.2 j from q2)]; exact q3
      · rw [if_neg (show ¬ ∀ j, j < 1024 → mxF y a b j = a.2.2 j from fun z => q1 ⟨a, rfl, z⟩)]
        rcases hk with ⟨v, q3, q4, q5⟩ | ⟨q3, q4⟩
        · cases q3
          rw [if_pos (show ∀ j, j < 1024 → mxF y a b j = b.2.2 j from q4)]; exact q5
        · rw [if_neg (show ¬ ∀ j, j < 1024 → mxF y a b j = b.2.2 j from fun z => q3 ⟨b, rfl, z⟩)]; exact q4
    rw [hk2] at h2
    exact h2
/-! one step of a join, both ways -/
theorem VokP.a {x : Int32} {A B V : Sv} (hA : Vok A) {i j : Nat} (hV : VokP V (min (kyA A i) (kyA B j))) (h : kyA A i < kyA B j) (hi : i < A.1) : VokP (if x = 0 then V else V.psh (A.2 i)) (min (kyA A (i + 1)) (kyA B j)) := by
  have a2 : kyA A i = (A.2 i).1 := if_pos hi
  have a3 := kyA_up hA hi
  obtain ⟨o1, o2, o3⟩ := hA.2.2 i hi
  by_cases q : x = 0
  · rw [if_pos q]; exact hV.mono (by omega)
  · rw [if_neg q]; exact hV.psh (by omega) (by omega) o1 o2 o3
theorem VokP.b {x : Int32} {A B V : Sv} (hB : Vok B) {i j : Nat} (hV : VokP V (min (kyA A i) (kyA B j))) (h : kyA B j < kyA A i) (hj : j < B.1) : VokP (if x = 1 ∨ x = 2 then V.psh (B.2 j) else V) (min (kyA A i) (kyA B (j + 1))) := by
  have b2 : kyA B j = (B.2 j).1 := if_pos hj
  have b3 := kyA_up hB hj
  obtain ⟨p1, p2, p3⟩ := hB.2.2 j hj
  by_cases q : x = 1 ∨ x = 2
  · rw [if_pos q]; exact hV.psh (by omega) (by omega) p1 p2 p3
  · rw [if_neg q]; exact hV.mono (by omega)
theorem VokP.c {x : Int32} {A B V : Sv} (hA : Vok A) (hB : Vok B) {i j : Nat} (hV : VokP V (min (kyA A i) (kyA B j))) (h : kyA A i = kyA B j) (hi : i < A.1) (hj : j < B.1) : VokP (if 0 < tot (mxF x (A.2 i) (B.2 j)) then V.psh (mxC x (A.2 i) (B.2 j)) else V) (min (kyA A (i + 1)) (kyA B (j + 1))) := by
  have a2 : kyA A i = (A.2 i).1 := if_pos hi
  have b2 : kyA B j = (B.2 j).1 := if_pos hj
  have a3 := kyA_up hA hi
  have b3 := kyA_up hB hj
  obtain ⟨o1, o2, o3⟩ := hA.2.2 i hi
  obtain ⟨p1, p2, p3⟩ := hB.2.2 j hj
  by_cases q : 0 < tot (mxF x (A.2 i) (B.2 j))
  · rw [if_pos q]; exact hV.psh (a := mxC x (A.2 i) (B.2 j)) (by show _ ≤ (A.2 i).1; omega) (by show (A.2 i).1 < _; omega) o1 q (mxC_ok o3 p3)
  · rw [if_neg q]; exact hV.mono (by omega)
theorem psh7 {V : Sv} {a : Cn} (h : V.1 = 6) : 6 < (V.psh a).1 := by show 6 < V.1 + 1; omega

set_option maxRecDepth 100000 in
set_option maxHeartbeats 2000000 in
/-- a set is made of two -/
theorem f_X7_make (l : Launch) (D : va_G) (cy : Nat → ClassId) (nw : Nat) (A : Nat → Nat) (x : Nat) (ho : mOk A x) (C : C5) (R : MR) (y : Int32) (hy : y = 0 ∨ y = 1 ∨ y = 2 ∨ y = 3) (a b : Nat) (ha : a < 16) (hb : b < 16) (VA VB : Sv) (hA : Ms C a VA) (hB : Ms C b VB) (hVA : Vok VA) (hVB : Vok VB) : kI l yX7_make wsX7_make 3 76 D cy nw [.ref x, .int y, .int (nI a), .int (nI b)] (mP A x (C, R)) (fun r T => ∃ E, mP A x (E, R) = T ∧ Me 16 C E ∧ ((r = 1 ∧ ∃ W, mgR y VA VB 13 0 0 eS = some W ∧ Ms E 16 W) ∨ (r = 0 ∧ mgR y VA VB 13 0 0 eS = none))) 0 0 := by
  refine enterI (cc := cX7_make) (nL := 9) (ret := (some .boolean)) (by decide +kernel) rfl (Nat.le_of_ble_eq_true rfl) ?_
  intro F Z hl hR hD hcy hnw hnm
  subst hl hD hcy hnw
  have hRf : F.R.frames = 3 := by rw [hR]
  have hRc : F.R.cells = 0 := by rw [hR]
  have hRs : F.R.slots = 0 := by rw [hR]
  have hRl : F.R.locals = 76 := by rw [hR]
  have in6 : ∀ w ∈ u_ws RX7 TX7 16, w ∈ wsX7_make := by decide +kernel
  have lk7 : Cond.fieldLink RX7 7 (TX7 0).1 (TX7 0).2.1 (TX7 0).2.2.1 ∈ wsX7_make := by decide +kernel
  have lk13 : Cond.fieldLink RX7 13 (TX7 1).1 (TX7 1).2.1 (TX7 1).2.2.1 ∈ wsX7_make := by decide +kernel
  have ct107 : Cond.constant RX7 107 (65536) ∈ wsX7_make := by decide +kernel
  have hna := hA.1
  have hnb := hB.1
  have loop : ∀ (n : Nat) (i j : Nat) (E : C5) (V : Sv), (VA.1 - i) + (VB.1 - j) < n → (i ≤ VA.1 ∧ j ≤ VB.1 ∧ Me 16 C E ∧ Ms E 16 V ∧ VokP V (min (kyA VA i) (kyA VB j)) ∧ mgR y VA VB n i j V = mgR y VA VB 13 0 0 eS) → G F 9 (mP A x (E, R)) 0 0 (QI F (fun r T => ∃ E, mP A x (E, R) = T ∧ Me 16 C E ∧ ((r = 1 ∧ ∃ W, mgR y VA VB 13 0 0 eS = some W ∧ Ms E 16 W) ∨ (r = 0 ∧ mgR y VA VB 13 0 0 eS = none))) 0 0) 14 [(0, .ref x), (1, .int y), (2, .int (nI a)), (3, .int (nI b)), (4, .int (nI i)), (5, .int (nI j))] [] := by
    intro n
    induction n with
    | zero => intros; omega
    | succ n ih =>
      intro i j E V hn ⟨hi, hj, hS, hE, hVk, hG⟩
      have hEa := hS.ms (by omega) (by omega) hA
      have hEb := hS.ms (by omega) (by omega) hB
      have ema := hEa.2.1
      have emb := hEb.2.1
      have h66 : ¬ 6 < V.1 := by have := hE.1; omega
      by_cases hi1 : i < VA.1
      · have e1 := (hEa.mc hi1).1
        have hk1 := (hVA.2.2 i hi1).1
        have ky1 : kyA VA i = (VA.2 i).1 := if_pos hi1
        by_cases hj1 : j < VB.1
        · have e2 := (hEb.mc hj1).1
          have hk2 := (hVB.2.2 j hj1).1
          have ky2 : kyA VB j = (VB.2 j).1 := if_pos hj1
          rcases Nat.lt_trichotomy (VA.2 i).1 (VB.2 j).1 with hk | hk | hk
          · have hlt3 : kyA VA i < kyA VB j := by omega
            refine g_iload Z dX7_make_14 rfl ?_
            refine g_aload_n Z dX7_make_16 rfl ?_
            refine m_ref_mn Z in6 lk7 dX7_make_17 ?_
            refine g_iload_n Z dX7_make_20 rfl ?_
            refine m_ald_mn Z ho dX7_make_21 (by exact vp_in_nI (by omega) (by decide)) ?_
            rw [nI_clamp (by omega), ema]
            refine g_icmp_lt Z 36 dX7_make_22 (by decide) (fun h22 => ?_) (fun h22 => absurd (nI_lt hi1 (by omega)) h22)
            refine g_iload Z dX7_make_36 rfl ?_
            refine g_aload_n Z dX7_make_38 rfl ?_
            refine m_ref_mn Z in6 lk7 dX7_make_39 ?_
            refine g_iload_n Z dX7_make_42 rfl ?_
            refine m_ald_mn Z ho dX7_make_43 (by exact vp_in_nI (by omega) (by decide)) ?_
            rw [nI_clamp (by omega), ema]
            refine g_icmp_ge Z 62 dX7_make_44 (by decide) (fun h44 => absurd h44 (nI_ge hi1 (by omega))) (fun h44 => ?_)
            refine g_aload_n Z dX7_make_47 rfl ?_
            refine m_ref_ky Z in6 lk13 dX7_make_48 ?_
            refine g_bipush (v := 6) Z dX7_make_51 (by decide) ?_
            refine g_iload_n Z dX7_make_53 rfl ?_
            refine g_imul Z dX7_make_54 ?_
            refine g_iload Z dX7_make_55 rfl ?_
            refine g_iadd Z dX7_make_57 ?_
            rw [ix6]
            refine m_ald_ky Z ho dX7_make_58 (by exact vp_in_nI (by omega) (by decide)) ?_
            rw [nI_clamp (by omega), e1]
            refine g_goto Z 64 dX7_make_59 (by decide) ?_
            refine g_istore Z dX7_make_64 (by decide) ?_
            refine g_iload Z dX7_make_66 rfl ?_
            refine g_aload_n Z dX7_make_68 rfl ?_
            refine m_ref_mn Z in6 lk7 dX7_make_69 ?_
            refine g_iload_n Z dX7_make_72 rfl ?_
            refine m_ald_mn Z ho dX7_make_73 (by exact vp_in_nI (by omega) (by decide)) ?_
            rw [nI_clamp (by omega), emb]
            refine g_icmp_ge Z 92 dX7_make_74 (by decide) (fun h74 => absurd h74 (nI_ge hj1 (by omega))) (fun h74 => ?_)
            refine g_aload_n Z dX7_make_77 rfl ?_
            refine m_ref_ky Z in6 lk13 dX7_make_78 ?_
            refine g_bipush (v := 6) Z dX7_make_81 (by decide) ?_
            refine g_iload_n Z dX7_make_83 rfl ?_
            refine g_imul Z dX7_make_84 ?_
            refine g_iload Z dX7_make_85 rfl ?_
            refine g_iadd Z dX7_make_87 ?_
            rw [ix6]
            refine m_ald_ky Z ho dX7_make_88 (by exact vp_in_nI (by omega) (by decide)) ?_
            rw [nI_clamp (by omega), e2]
            refine g_goto Z 94 dX7_make_89 (by decide) ?_
            refine g_istore Z dX7_make_94 (by decide) ?_
            refine g_iload Z dX7_make_96 rfl ?_
            refine g_iload Z dX7_make_98 rfl ?_
            refine g_icmp_ge Z 108 dX7_make_100 (by decide) (fun h100 => absurd h100 (nI_ge (a := (VA.2 i).1) (b := (VB.2 j).1) (by omega) (by omega))) (fun h100 => ?_)
            refine g_iload Z dX7_make_103 rfl ?_
            refine g_goto Z 110 dX7_make_105 (by decide) ?_
            refine g_istore Z dX7_make_110 (by decide) ?_
            refine g_aload_n Z dX7_make_112 rfl ?_
            refine g_iload_n Z dX7_make_113 rfl ?_
            refine g_iload Z dX7_make_114 rfl ?_
            refine g_iload Z dX7_make_116 rfl ?_
            refine g_iload Z dX7_make_118 rfl ?_
            refine g_icmp_ne Z 133 dX7_make_120 (by decide) (fun h120 => absurd (rfl) h120) (fun h120 => ?_)
            refine g_bipush (v := 6) Z dX7_make_123 (by decide) ?_
            refine g_iload_n Z dX7_make_125 rfl ?_
            refine g_imul Z dX7_make_126 ?_
            refine g_iload Z dX7_make_127 rfl ?_
            refine g_iadd Z dX7_make_129 ?_
            rw [ix6]
            refine g_goto Z 134 dX7_make_130 (by decide) ?_
            refine g_iload Z dX7_make_134 rfl ?_
            refine g_iload Z dX7_make_136 rfl ?_
            refine g_icmp_ne Z 151 dX7_make_138 (by decide) (fun h138 => ?_) (fun h138 => absurd h138 (ne_nI (a := (VB.2 j).1) (b := (VA.2 i).1) (by omega) (by omega) (by omega)))
            refine g_iconst (v := (-1)) Z dX7_make_151 (by decide) ?_
            refine g_cvI Z (f_X7_makeOne F.l F.D F.cy F.nw A x ho _ _ V hE y (VA.2 i).1 (by omega) (hVk.mono (by omega)) _ _ (some (VA.2 i)) none (Or.inr ⟨6 * a + i, VA.2 i, by omega, rfl, rfl, hEa.mc hi1⟩) (Or.inl ⟨rfl, rfl⟩)) 4 gX7_make_X7_makeOne rfl (by decide +kernel) (by rw [hRf, hRl]; decide) (by exact mP_x) (κ := 6) (by exact mP_Kx) rfl (by decide) rfl rfl (Nat.le_of_ble_eq_true rfl) dX7_make_152 (by rw [hRc, hRs]; omega) (fun r T hp => ?_)
            obtain ⟨E2, rfl, s1, hmk⟩ := hp
            have hmk2 := mk_a hy (hVA.2.2 i hi1).2.1 (show MkR y V _ (some (VA.2 i)) none _ E2 from hmk)
            rw [mg_a h66 hlt3] at hG
            refine g_if_ne Z 160 dX7_make_155 (by decide) (fun h155 => ?_) (fun h155 => ?_)
            · have hms : Ms E2 16 (if y = 0 then V else V.psh (VA.2 i)) := by
                rcases hmk2 with ⟨q1, -⟩ | ⟨-, q2⟩
                · exact absurd q1 h155
                · exact q2
              refine g_iload Z dX7_make_160 rfl ?_
              refine g_iload Z dX7_make_162 rfl ?_
              refine g_iload Z dX7_make_164 rfl ?_
              refine g_icmp_ne Z 173 dX7_make_166 (by decide) (fun h166 => absurd (rfl) h166) (fun h166 => ?_)
              refine g_iconst (v := 1) Z dX7_make_169 (by decide) ?_
              refine g_goto Z 174 dX7_make_170 (by decide) ?_
              refine g_iadd Z dX7_make_174 ?_
              rw [nI_1]
              refine g_istore Z dX7_make_175 (by decide) ?_
              refine g_iload Z dX7_make_177 rfl ?_
              refine g_iload Z dX7_make_179 rfl ?_
              refine g_iload Z dX7_make_181 rfl ?_
              refine g_icmp_ne Z 190 dX7_make_183 (by decide) (fun h183 => ?_) (fun h183 => absurd h183 (ne_nI (a := (VB.2 j).1) (b := (VA.2 i).1) (by omega) (by omega) (by omega)))
              refine g_iconst (v := 0) Z dX7_make_190 (by decide) ?_
              refine g_iadd Z dX7_make_191 ?_
              rw [add0]
              refine g_istore Z dX7_make_192 (by decide) ?_
              refine g_goto Z 14 dX7_make_194 (by decide) ?_
              exact g_lv (by (repeat (first | exact trivial | refine And.intro rfl ?_)); done) (ih (i + 1) j E2 _ (by omega) ⟨by omega, by omega, hS.tr s1, hms, hVk.a hVA hlt3 hi1, hG⟩)
            · have hnone : mgR y VA VB 13 0 0 eS = none := by
                rcases hmk2 with ⟨-, q2, q3⟩ | ⟨q1, -⟩
                · rw [← hG]; rw [if_neg q3]; exact mg_full (psh7 q2)
                · rw [q1] at h155; exact absurd h155 (by decide)
              refine g_iconst (v := 0) Z dX7_make_158 (by decide) ?_
              exact g_zret Z dX7_make_159 (by rfl) (by omega) (by omega) (⟨E2, rfl, hS.tr s1, Or.inr ⟨rfl, hnone⟩⟩)
          · have hlt3 : kyA VA i = kyA VB j := by omega
            refine g_iload Z dX7_make_14 rfl ?_
            refine g_aload_n Z dX7_make_16 rfl ?_
            refine m_ref_mn Z in6 lk7 dX7_make_17 ?_
            refine g_iload_n Z dX7_make_20 rfl ?_
            refine m_ald_mn Z ho dX7_make_21 (by exact vp_in_nI (by omega) (by decide)) ?_
            rw [nI_clamp (by omega), ema]
            refine g_icmp_lt Z 36 dX7_make_22 (by decide) (fun h22 => ?_) (fun h22 => absurd (nI_lt hi1 (by omega)) h22)
            refine g_iload Z dX7_make_36 rfl ?_
            refine g_aload_n Z dX7_make_38 rfl ?_
            refine m_ref_mn Z in6 lk7 dX7_make_39 ?_
            refine g_iload_n Z dX7_make_42 rfl ?_
            refine m_ald_mn Z ho dX7_make_43 (by exact vp_in_nI (by omega) (by decide)) ?_
            rw [nI_clamp (by omega), ema]
            refine g_icmp_ge Z 62 dX7_make_44 (by decide) (fun h44 => absurd h44 (nI_ge hi1 (by omega))) (fun h44 => ?_)
            refine g_aload_n Z dX7_make_47 rfl ?_
            refine m_ref_ky Z in6 lk13 dX7_make_48 ?_
            refine g_bipush (v := 6) Z dX7_make_51 (by decide) ?_
            refine g_iload_n Z dX7_make_53 rfl ?_
            refine g_imul Z dX7_make_54 ?_
            refine g_iload Z dX7_make_55 rfl ?_
            refine g_iadd Z dX7_make_57 ?_
            rw [ix6]
            refine m_ald_ky Z ho dX7_make_58 (by exact vp_in_nI (by omega) (by decide)) ?_
            rw [nI_clamp (by omega), e1]
            refine g_goto Z 64 dX7_make_59 (by decide) ?_
            refine g_istore Z dX7_make_64 (by decide) ?_
            refine g_iload Z dX7_make_66 rfl ?_
            refine g_aload_n Z dX7_make_68 rfl ?_
            refine m_ref_mn Z in6 lk7 dX7_make_69 ?_
            refine g_iload_n Z dX7_make_72 rfl ?_
            refine m_ald_mn Z ho dX7_make_73 (by exact vp_in_nI (by omega) (by decide)) ?_
            rw [nI_clamp (by omega), emb]
            refine g_icmp_ge Z 92 dX7_make_74 (by decide) (fun h74 => absurd h74 (nI_ge hj1 (by omega))) (fun h74 => ?_)
            refine g_aload_n Z dX7_make_77 rfl ?_
            refine m_ref_ky Z in6 lk13 dX7_make_78 ?_
            refine g_bipush (v := 6) Z dX7_make_81 (by decide) ?_
            refine g_iload_n Z dX7_make_83 rfl ?_
            refine g_imul Z dX7_make_84 ?_
            refine g_iload Z dX7_make_85 rfl ?_
            refine g_iadd Z dX7_make_87 ?_
            rw [ix6]
            refine m_ald_ky Z ho dX7_make_88 (by exact vp_in_nI (by omega) (by decide)) ?_
            rw [nI_clamp (by omega), e2, ← hk]
            refine g_goto Z 94 dX7_make_89 (by decide) ?_
            refine g_istore Z dX7_make_94 (by decide) ?_
            refine g_iload Z dX7_make_96 rfl ?_
            refine g_iload Z dX7_make_98 rfl ?_
            refine g_icmp_ge Z 108 dX7_make_100 (by decide) (fun h100 => ?_) (fun h100 => absurd (nI_le (a := (VA.2 i).1) (b := (VA.2 i).1) (by omega) (by omega)) h100)
            refine g_iload Z dX7_make_108 rfl ?_
            refine g_istore Z dX7_make_110 (by decide) ?_
            refine g_aload_n Z dX7_make_112 rfl ?_
            refine g_iload_n Z dX7_make_113 rfl ?_
            refine g_iload Z dX7_make_114 rfl ?_
            refine g_iload Z dX7_make_116 rfl ?_
            refine g_iload Z dX7_make_118 rfl ?_
            refine g_icmp_ne Z 133 dX7_make_120 (by decide) (fun h120 => absurd (rfl) h120) (fun h120 => ?_)
            refine g_bipush (v := 6) Z dX7_make_123 (by decide) ?_
            refine g_iload_n Z dX7_make_125 rfl ?_
            refine g_imul Z dX7_make_126 ?_
            refine g_iload Z dX7_make_127 rfl ?_
            refine g_iadd Z dX7_make_129 ?_
            rw [ix6]
            refine g_goto Z 134 dX7_make_130 (by decide) ?_
            refine g_iload Z dX7_make_134 rfl ?_
            refine g_iload Z dX7_make_136 rfl ?_
            refine g_icmp_ne Z 151 dX7_make_138 (by decide) (fun h138 => absurd (rfl) h138) (fun h138 => ?_)
            refine g_bipush (v := 6) Z dX7_make_141 (by decide) ?_
            refine g_iload_n Z dX7_make_143 rfl ?_
            refine g_imul Z dX7_make_144 ?_
            refine g_iload Z dX7_make_145 rfl ?_
            refine g_iadd Z dX7_make_147 ?_
            rw [ix6]
            refine g_goto Z 152 dX7_make_148 (by decide) ?_
            refine g_cvI Z (f_X7_makeOne F.l F.D F.cy F.nw A x ho _ _ V hE y (VA.2 i).1 (by omega) (hVk.mono (by omega)) _ _ (some (VA.2 i)) (some (VB.2 j)) (Or.inr ⟨6 * a + i, VA.2 i, by omega, rfl, rfl, hEa.mc hi1⟩) (Or.inr ⟨6 * b + j, VB.2 j, by omega, rfl, rfl, hEb.mc hj1⟩)) 4 gX7_make_X7_makeOne rfl (by decide +kernel) (by rw [hRf, hRl]; decide) (by exact mP_x) (κ := 6) (by exact mP_Kx) rfl (by decide) rfl rfl (Nat.le_of_ble_eq_true rfl) dX7_make_152 (by rw [hRc, hRs]; omega) (fun r T hp => ?_)
            obtain ⟨E2, rfl, s1, hmk⟩ := hp
            have hmk2 := mk_c (show MkR y V _ (some (VA.2 i)) (some (VB.2 j)) _ E2 from hmk)
            rw [mg_c h66 hlt3 (by omega)] at hG
            refine g_if_ne Z 160 dX7_make_155 (by decide) (fun h155 => ?_) (fun h155 => ?_)
            · have hms : Ms E2 16 (if 0 < tot (mxF y (VA.2 i) (VB.2 j)) then V.psh (mxC y (VA.2 i) (VB.2 j)) else V) := by
                rcases hmk2 with ⟨q1, -⟩ | ⟨-, q2⟩
                · exact absurd q1 h155
                · exact q2
              refine g_iload Z dX7_make_160 rfl ?_
              refine g_iload Z dX7_make_162 rfl ?_
              refine g_iload Z dX7_make_164 rfl ?_
              refine g_icmp_ne Z 173 dX7_make_166 (by decide) (fun h166 => absurd (rfl) h166) (fun h166 => ?_)
              refine g_iconst (v := 1) Z dX7_make_169 (by decide) ?_
              refine g_goto Z 174 dX7_make_170 (by decide) ?_
              refine g_iadd Z dX7_make_174 ?_
              rw [nI_1]
              refine g_istore Z dX7_make_175 (by decide) ?_
              refine g_iload Z dX7_make_177 rfl ?_
              refine g_iload Z dX7_make_179 rfl ?_
              refine g_iload Z dX7_make_181 rfl ?_
              refine g_icmp_ne Z 190 dX7_make_183 (by decide) (fun h183 => absurd (rfl) h183) (fun h183 => ?_)
              refine g_iconst (v := 1) Z dX7_make_186 (by decide) ?_
              refine g_goto Z 191 dX7_make_187 (by decide) ?_
              refine g_iadd Z dX7_make_191 ?_
              rw [nI_1]
              refine g_istore Z dX7_make_192 (by decide) ?_
              refine g_goto Z 14 dX7_make_194 (by decide) ?_
              exact g_lv (by (repeat (first | exact trivial | refine And.intro rfl ?_)); done) (ih (i + 1) (j + 1) E2 _ (by omega) ⟨by omega, by omega, hS.tr s1, hms, hVk.c hVA hVB hlt3 hi1 hj1, hG⟩)
            · have hnone : mgR y VA VB 13 0 0 eS = none := by
                rcases hmk2 with ⟨-, q2, q3⟩ | ⟨q1, -⟩
                · rw [← hG]; rw [if_pos q3]; exact mg_full (psh7 q2)
                · rw [q1] at h155; exact absurd h155 (by decide)
              refine g_iconst (v := 0) Z dX7_make_158 (by decide) ?_
              exact g_zret Z dX7_make_159 (by rfl) (by omega) (by omega) (⟨E2, rfl, hS.tr s1, Or.inr ⟨rfl, hnone⟩⟩)
          · have hlt3 : kyA VB j < kyA VA i := by omega
            refine g_iload Z dX7_make_14 rfl ?_
            refine g_aload_n Z dX7_make_16 rfl ?_
            refine m_ref_mn Z in6 lk7 dX7_make_17 ?_
            refine g_iload_n Z dX7_make_20 rfl ?_
            refine m_ald_mn Z ho dX7_make_21 (by exact vp_in_nI (by omega) (by decide)) ?_
            rw [nI_clamp (by omega), ema]
            refine g_icmp_lt Z 36 dX7_make_22 (by decide) (fun h22 => ?_) (fun h22 => absurd (nI_lt hi1 (by omega)) h22)
            refine g_iload Z dX7_make_36 rfl ?_
            refine g_aload_n Z dX7_make_38 rfl ?_
            refine m_ref_mn Z in6 lk7 dX7_make_39 ?_
            refine g_iload_n Z dX7_make_42 rfl ?_
            refine m_ald_mn Z ho dX7_make_43 (by exact vp_in_nI (by omega) (by decide)) ?_
            rw [nI_clamp (by omega), ema]
            refine g_icmp_ge Z 62 dX7_make_44 (by decide) (fun h44 => absurd h44 (nI_ge hi1 (by omega))) (fun h44 => ?_)
            refine g_aload_n Z dX7_make_47 rfl ?_
            refine m_ref_ky Z in6 lk13 dX7_make_48 ?_
            refine g_bipush (v := 6) Z dX7_make_51 (by decide) ?_
            refine g_iload_n Z dX7_make_53 rfl ?_
            refine g_imul Z dX7_make_54 ?_
            refine g_iload Z dX7_make_55 rfl ?_
            refine g_iadd Z dX7_make_57 ?_
            rw [ix6]
            refine m_ald_ky Z ho dX7_make_58 (by exact vp_in_nI (by omega) (by decide)) ?_
            rw [nI_clamp (by omega), e1]
            refine g_goto Z 64 dX7_make_59 (by decide) ?_
            refine g_istore Z dX7_make_64 (by decide) ?_
            refine g_iload Z dX7_make_66 rfl ?_
            refine g_aload_n Z dX7_make_68 rfl ?_
            refine m_ref_mn Z in6 lk7 dX7_make_69 ?_
            refine g_iload_n Z dX7_make_72 rfl ?_
            refine m_ald_mn Z ho dX7_make_73 (by exact vp_in_nI (by omega) (by decide)) ?_
            rw [nI_clamp (by omega), emb]
            refine g_icmp_ge Z 92 dX7_make_74 (by decide) (fun h74 => absurd h74 (nI_ge hj1 (by omega))) (fun h74 => ?_)
            refine g_aload_n Z dX7_make_77 rfl ?_
            refine m_ref_ky Z in6 lk13 dX7_make_78 ?_
            refine g_bipush (v := 6) Z dX7_make_81 (by decide) ?_
            refine g_iload_n Z dX7_make_83 rfl ?_
            refine g_imul Z dX7_make_84 ?_
            refine g_iload Z dX7_make_85 rfl ?_
            refine g_iadd Z dX7_make_87 ?_
            rw [ix6]
            refine m_ald_ky Z ho dX7_make_88 (by exact vp_in_nI (by omega) (by decide)) ?_
            rw [nI_clamp (by omega), e2]
            refine g_goto Z 94 dX7_make_89 (by decide) ?_
            refine g_istore Z dX7_make_94 (by decide) ?_
            refine g_iload Z dX7_make_96 rfl ?_
            refine g_iload Z dX7_make_98 rfl ?_
            refine g_icmp_ge Z 108 dX7_make_100 (by decide) (fun h100 => ?_) (fun h100 => absurd (nI_le (a := (VB.2 j).1) (b := (VA.2 i).1) (by omega) (by omega)) h100)
            refine g_iload Z dX7_make_108 rfl ?_
            refine g_istore Z dX7_make_110 (by decide) ?_
            refine g_aload_n Z dX7_make_112 rfl ?_
            refine g_iload_n Z dX7_make_113 rfl ?_
            refine g_iload Z dX7_make_114 rfl ?_
            refine g_iload Z dX7_make_116 rfl ?_
            refine g_iload Z dX7_make_118 rfl ?_
            refine g_icmp_ne Z 133 dX7_make_120 (by decide) (fun h120 => ?_) (fun h120 => absurd h120 (ne_nI (a := (VA.2 i).1) (b := (VB.2 j).1) (by omega) (by omega) (by omega)))
            refine g_iconst (v := (-1)) Z dX7_make_133 (by decide) ?_
            refine g_iload Z dX7_make_134 rfl ?_
            refine g_iload Z dX7_make_136 rfl ?_
            refine g_icmp_ne Z 151 dX7_make_138 (by decide) (fun h138 => absurd (rfl) h138) (fun h138 => ?_)
            refine g_bipush (v := 6) Z dX7_make_141 (by decide) ?_
            refine g_iload_n Z dX7_make_143 rfl ?_
            refine g_imul Z dX7_make_144 ?_
            refine g_iload Z dX7_make_145 rfl ?_
            refine g_iadd Z dX7_make_147 ?_
            rw [ix6]
            refine g_goto Z 152 dX7_make_148 (by decide) ?_
            refine g_cvI Z (f_X7_makeOne F.l F.D F.cy F.nw A x ho _ _ V hE y (VB.2 j).1 (by omega) (hVk.mono (by omega)) _ _ none (some (VB.2 j)) (Or.inl ⟨rfl, rfl⟩) (Or.inr ⟨6 * b + j, VB.2 j, by omega, rfl, rfl, hEb.mc hj1⟩)) 4 gX7_make_X7_makeOne rfl (by decide +kernel) (by rw [hRf, hRl]; decide) (by exact mP_x) (κ := 6) (by exact mP_Kx) rfl (by decide) rfl rfl (Nat.le_of_ble_eq_true rfl) dX7_make_152 (by rw [hRc, hRs]; omega) (fun r T hp => ?_)
            obtain ⟨E2, rfl, s1, hmk⟩ := hp
            have hmk2 := mk_b hy (hVB.2.2 j hj1).2.1 (show MkR y V _ none (some (VB.2 j)) _ E2 from hmk)
            rw [mg_b h66 hlt3] at hG
            refine g_if_ne Z 160 dX7_make_155 (by decide) (fun h155 => ?_) (fun h155 => ?_)
            · have hms : Ms E2 16 (if y = 1 ∨ y = 2 then V.psh (VB.2 j) else V) := by
                rcases hmk2 with ⟨q1, -⟩ | ⟨-, q2⟩
                · exact absurd q1 h155
                · exact q2
              refine g_iload Z dX7_make_160 rfl ?_
              refine g_iload Z dX7_make_162 rfl ?_
              refine g_iload Z dX7_make_164 rfl ?_
              refine g_icmp_ne Z 173 dX7_make_166 (by decide) (fun h166 => ?_) (fun h166 => absurd h166 (ne_nI (a := (VA.2 i).1) (b := (VB.2 j).1) (by omega) (by omega) (by omega)))
              refine g_iconst (v := 0) Z dX7_make_173 (by decide) ?_
              refine g_iadd Z dX7_make_174 ?_
              rw [add0]
              refine g_istore Z dX7_make_175 (by decide) ?_
              refine g_iload Z dX7_make_177 rfl ?_
              refine g_iload Z dX7_make_179 rfl ?_
              refine g_iload Z dX7_make_181 rfl ?_
              refine g_icmp_ne Z 190 dX7_make_183 (by decide) (fun h183 => absurd (rfl) h183) (fun h183 => ?_)
              refine g_iconst (v := 1) Z dX7_make_186 (by decide) ?_
              refine g_goto Z 191 dX7_make_187 (by decide) ?_
              refine g_iadd Z dX7_make_191 ?_
              rw [nI_1]
              refine g_istore Z dX7_make_192 (by decide) ?_
              refine g_goto Z 14 dX7_make_194 (by decide) ?_
              exact g_lv (by (repeat (first | exact trivial | refine And.intro rfl ?_)); done) (ih i (j + 1) E2 _ (by omega) ⟨by omega, by omega, hS.tr s1, hms, hVk.b hVB hlt3 hj1, hG⟩)
            · have hnone : mgR y VA VB 13 0 0 eS = none := by
                rcases hmk2 with ⟨-, q2, q3⟩ | ⟨q1, -⟩
                · rw [← hG]; rw [if_pos q3]; exact mg_full (psh7 q2)
                · rw [q1] at h155; exact absurd h155 (by decide)
              refine g_iconst (v := 0) Z dX7_make_158 (by decide) ?_
              exact g_zret Z dX7_make_159 (by rfl) (by omega) (by omega) (⟨E2, rfl, hS.tr s1, Or.inr ⟨rfl, hnone⟩⟩)
        · have ky2 : kyA VB j = 65536 := if_neg hj1
          have hlt3 : kyA VA i < kyA VB j := by omega
          refine g_iload Z dX7_make_14 rfl ?_
          refine g_aload_n Z dX7_make_16 rfl ?_
          refine m_ref_mn Z in6 lk7 dX7_make_17 ?_
          refine g_iload_n Z dX7_make_20 rfl ?_
          refine m_ald_mn Z ho dX7_make_21 (by exact vp_in_nI (by omega) (by decide)) ?_
          rw [nI_clamp (by omega), ema]
          refine g_icmp_lt Z 36 dX7_make_22 (by decide) (fun h22 => ?_) (fun h22 => absurd (nI_lt hi1 (by omega)) h22)
          refine g_iload Z dX7_make_36 rfl ?_
          refine g_aload_n Z dX7_make_38 rfl ?_
          refine m_ref_mn Z in6 lk7 dX7_make_39 ?_
          refine g_iload_n Z dX7_make_42 rfl ?_
          refine m_ald_mn Z ho dX7_make_43 (by exact vp_in_nI (by omega) (by decide)) ?_
          rw [nI_clamp (by omega), ema]
          refine g_icmp_ge Z 62 dX7_make_44 (by decide) (fun h44 => absurd h44 (nI_ge hi1 (by omega))) (fun h44 => ?_)
          refine g_aload_n Z dX7_make_47 rfl ?_
          refine m_ref_ky Z in6 lk13 dX7_make_48 ?_
          refine g_bipush (v := 6) Z dX7_make_51 (by decide) ?_
          refine g_iload_n Z dX7_make_53 rfl ?_
          refine g_imul Z dX7_make_54 ?_
          refine g_iload Z dX7_make_55 rfl ?_
          refine g_iadd Z dX7_make_57 ?_
          rw [ix6]
          refine m_ald_ky Z ho dX7_make_58 (by exact vp_in_nI (by omega) (by decide)) ?_
          rw [nI_clamp (by omega), e1]
          refine g_goto Z 64 dX7_make_59 (by decide) ?_
          refine g_istore Z dX7_make_64 (by decide) ?_
          refine g_iload Z dX7_make_66 rfl ?_
          refine g_aload_n Z dX7_make_68 rfl ?_
          refine m_ref_mn Z in6 lk7 dX7_make_69 ?_
          refine g_iload_n Z dX7_make_72 rfl ?_
          refine m_ald_mn Z ho dX7_make_73 (by exact vp_in_nI (by omega) (by decide)) ?_
          rw [nI_clamp (by omega), emb]
          refine g_icmp_ge Z 92 dX7_make_74 (by decide) (fun h74 => ?_) (fun h74 => absurd (nI_le (by omega) (by omega)) h74)
          refine g_ldc (v := 65536) Z dX7_make_92 ct107 ?_
          refine g_istore Z dX7_make_94 (by decide) ?_
          refine g_iload Z dX7_make_96 rfl ?_
          refine g_iload Z dX7_make_98 rfl ?_
          refine g_icmp_ge Z 108 dX7_make_100 (by decide) (fun h100 => absurd h100 (nI_ge (a := (VA.2 i).1) (b := 65536) (by omega) (by omega))) (fun h100 => ?_)
          refine g_iload Z dX7_make_103 rfl ?_
          refine g_goto Z 110 dX7_make_105 (by decide) ?_
          refine g_istore Z dX7_make_110 (by decide) ?_
          refine g_aload_n Z dX7_make_112 rfl ?_
          refine g_iload_n Z dX7_make_113 rfl ?_
          refine g_iload Z dX7_make_114 rfl ?_
          refine g_iload Z dX7_make_116 rfl ?_
          refine g_iload Z dX7_make_118 rfl ?_
          refine g_icmp_ne Z 133 dX7_make_120 (by decide) (fun h120 => absurd (rfl) h120) (fun h120 => ?_)
          refine g_bipush (v := 6) Z dX7_make_123 (by decide) ?_
          refine g_iload_n Z dX7_make_125 rfl ?_
          refine g_imul Z dX7_make_126 ?_
          refine g_iload Z dX7_make_127 rfl ?_
          refine g_iadd Z dX7_make_129 ?_
          rw [ix6]
          refine g_goto Z 134 dX7_make_130 (by decide) ?_
          refine g_iload Z dX7_make_134 rfl ?_
          refine g_iload Z dX7_make_136 rfl ?_
          refine g_icmp_ne Z 151 dX7_make_138 (by decide) (fun h138 => ?_) (fun h138 => absurd h138 (ne_nI (a := 65536) (b := (VA.2 i).1) (by omega) (by omega) (by omega)))
          refine g_iconst (v := (-1)) Z dX7_make_151 (by decide) ?_
          refine g_cvI Z (f_X7_makeOne F.l F.D F.cy F.nw A x ho _ _ V hE y (VA.2 i).1 (by omega) (hVk.mono (by omega)) _ _ (some (VA.2 i)) none (Or.inr ⟨6 * a + i, VA.2 i, by omega, rfl, rfl, hEa.mc hi1⟩) (Or.inl ⟨rfl, rfl⟩)) 4 gX7_make_X7_makeOne rfl (by decide +kernel) (by rw [hRf, hRl]; decide) (by exact mP_x) (κ := 6) (by exact mP_Kx) rfl (by decide) rfl rfl (Nat.le_of_ble_eq_true rfl) dX7_make_152 (by rw [hRc, hRs]; omega) (fun r T hp => ?_)
          obtain ⟨E2, rfl, s1, hmk⟩ := hp
          have hmk2 := mk_a hy (hVA.2.2 i hi1).2.1 (show MkR y V _ (some (VA.2 i)) none _ E2 from hmk)
          rw [mg_a h66 hlt3] at hG
          refine g_if_ne Z 160 dX7_make_155 (by decide) (fun h155 => ?_) (fun h155 => ?_)
          · have hms : Ms E2 16 (if y = 0 then V else V.psh (VA.2 i)) := by
              rcases hmk2 with ⟨q1, -⟩ | ⟨-, q2⟩
              · exact absurd q1 h155
              · exact q2
            refine g_iload Z dX7_make_160 rfl ?_
            refine g_iload Z dX7_make_162 rfl ?_
            refine g_iload Z dX7_make_164 rfl ?_
            refine g_icmp_ne Z 173 dX7_make_166 (by decide) (fun h166 => absurd (rfl) h166) (fun h166 => ?_)
            refine g_iconst (v := 1) Z dX7_make_169 (by decide) ?_
            refine g_goto Z 174 dX7_make_170 (by decide) ?_
            refine g_iadd Z dX7_make_174 ?_
            rw [nI_1]
            refine g_istore Z dX7_make_175 (by decide) ?_
            refine g_iload Z dX7_make_177 rfl ?_
            refine g_iload Z dX7_make_179 rfl ?_
            refine g_iload Z dX7_make_181 rfl ?_
            refine g_icmp_ne Z 190 dX7_make_183 (by decide) (fun h183 => ?_) (fun h183 => absurd h183 (ne_nI (a := 65536) (b := (VA.2 i).1) (by omega) (by omega) (by omega)))
            refine g_iconst (v := 0) Z dX7_make_190 (by decide) ?_
            refine g_iadd Z dX7_make_191 ?_
            rw [add0]
            refine g_istore Z dX7_make_192 (by decide) ?_
            refine g_goto Z 14 dX7_make_194 (by decide) ?_
            exact g_lv (by (repeat (first | exact trivial | refine And.intro rfl ?_)); done) (ih (i + 1) j E2 _ (by omega) ⟨by omega, by omega, hS.tr s1, hms, hVk.a hVA hlt3 hi1, hG⟩)
          · have hnone : mgR y VA VB 13 0 0 eS = none := by
              rcases hmk2 with ⟨-, q2, q3⟩ | ⟨q1, -⟩
              · rw [← hG]; rw [if_neg q3]; exact mg_full (psh7 q2)
              · rw [q1] at h155; exact absurd h155 (by decide)
            refine g_iconst (v := 0) Z dX7_make_158 (by decide) ?_
            exact g_zret Z dX7_make_159 (by rfl) (by omega) (by omega) (⟨E2, rfl, hS.tr s1, Or.inr ⟨rfl, hnone⟩⟩)
      · have ky1 : kyA VA i = 65536 := if_neg hi1
        by_cases hj1 : j < VB.1
        · have e2 := (hEb.mc hj1).1
          have hk2 := (hVB.2.2 j hj1).1
          have ky2 : kyA VB j = (VB.2 j).1 := if_pos hj1
          have hlt3 : kyA VB j < kyA VA i := by omega
          refine g_iload Z dX7_make_14 rfl ?_
          refine g_aload_n Z dX7_make_16 rfl ?_
          refine m_ref_mn Z in6 lk7 dX7_make_17 ?_
          refine g_iload_n Z dX7_make_20 rfl ?_
          refine m_ald_mn Z ho dX7_make_21 (by exact vp_in_nI (by omega) (by decide)) ?_
          rw [nI_clamp (by omega), ema]
          refine g_icmp_lt Z 36 dX7_make_22 (by decide) (fun h22 => absurd h22 (nI_nlt (by omega) (by omega))) (fun h22 => ?_)
          refine g_iload Z dX7_make_25 rfl ?_
          refine g_aload_n Z dX7_make_27 rfl ?_
          refine m_ref_mn Z in6 lk7 dX7_make_28 ?_
          refine g_iload_n Z dX7_make_31 rfl ?_
          refine m_ald_mn Z ho dX7_make_32 (by exact vp_in_nI (by omega) (by decide)) ?_
          rw [nI_clamp (by omega), emb]
          refine g_icmp_ge Z 197 dX7_make_33 (by decide) (fun h33 => absurd h33 (nI_ge hj1 (by omega))) (fun h33 => ?_)
          refine g_iload Z dX7_make_36 rfl ?_
          refine g_aload_n Z dX7_make_38 rfl ?_
          refine m_ref_mn Z in6 lk7 dX7_make_39 ?_
          refine g_iload_n Z dX7_make_42 rfl ?_
          refine m_ald_mn Z ho dX7_make_43 (by exact vp_in_nI (by omega) (by decide)) ?_
          rw [nI_clamp (by omega), ema]
          refine g_icmp_ge Z 62 dX7_make_44 (by decide) (fun h44 => ?_) (fun h44 => absurd (nI_le (by omega) (by omega)) h44)
          refine g_ldc (v := 65536) Z dX7_make_62 ct107 ?_
          refine g_istore Z dX7_make_64 (by decide) ?_
          refine g_iload Z dX7_make_66 rfl ?_
          refine g_aload_n Z dX7_make_68 rfl ?_
          refine m_ref_mn Z in6 lk7 dX7_make_69 ?_
          refine g_iload_n Z dX7_make_72 rfl ?_
          refine m_ald_mn Z ho dX7_make_73 (by exact vp_in_nI (by omega) (by decide)) ?_
          rw [nI_clamp (by omega), emb]
          refine g_icmp_ge Z 92 dX7_make_74 (by decide) (fun h74 => absurd h74 (nI_ge hj1 (by omega))) (fun h74 => ?_)
          refine g_aload_n Z dX7_make_77 rfl ?_
          refine m_ref_ky Z in6 lk13 dX7_make_78 ?_
          refine g_bipush (v := 6) Z dX7_make_81 (by decide) ?_
          refine g_iload_n Z dX7_make_83 rfl ?_
          refine g_imul Z dX7_make_84 ?_
          refine g_iload Z dX7_make_85 rfl ?_
          refine g_iadd Z dX7_make_87 ?_
          rw [ix6]
          refine m_ald_ky Z ho dX7_make_88 (by exact vp_in_nI (by omega) (by decide)) ?_
          rw [nI_clamp (by omega), e2]
          refine g_goto Z 94 dX7_make_89 (by decide) ?_
          refine g_istore Z dX7_make_94 (by decide) ?_
          refine g_iload Z dX7_make_96 rfl ?_
          refine g_iload Z dX7_make_98 rfl ?_
          refine g_icmp_ge Z 108 dX7_make_100 (by decide) (fun h100 => ?_) (fun h100 => absurd (nI_le (a := (VB.2 j).1) (b := 65536) (by omega) (by omega)) h100)
          refine g_iload Z dX7_make_108 rfl ?_
          refine g_istore Z dX7_make_110 (by decide) ?_
          refine g_aload_n Z dX7_make_112 rfl ?_
          refine g_iload_n Z dX7_make_113 rfl ?_
          refine g_iload Z dX7_make_114 rfl ?_
          refine g_iload Z dX7_make_116 rfl ?_
          refine g_iload Z dX7_make_118 rfl ?_
          refine g_icmp_ne Z 133 dX7_make_120 (by decide) (fun h120 => ?_) (fun h120 => absurd h120 (ne_nI (a := 65536) (b := (VB.2 j).1) (by omega) (by omega) (by omega)))
          refine g_iconst (v := (-1)) Z dX7_make_133 (by decide) ?_
          refine g_iload Z dX7_make_134 rfl ?_
          refine g_iload Z dX7_make_136 rfl ?_
          refine g_icmp_ne Z 151 dX7_make_138 (by decide) (fun h138 => absurd (rfl) h138) (fun h138 => ?_)
          refine g_bipush (v := 6) Z dX7_make_141 (by decide) ?_
          refine g_iload_n Z dX7_make_143 rfl ?_
          refine g_imul Z dX7_make_144 ?_
          refine g_iload Z dX7_make_145 rfl ?_
          refine g_iadd Z dX7_make_147 ?_
          rw [ix6]
          refine g_goto Z 152 dX7_make_148 (by decide) ?_
          refine g_cvI Z (f_X7_makeOne F.l F.D F.cy F.nw A x ho _ _ V hE y (VB.2 j).1 (by omega) (hVk.mono (by omega)) _ _ none (some (VB.2 j)) (Or.inl ⟨rfl, rfl⟩) (Or.inr ⟨6 * b + j, VB.2 j, by omega, rfl, rfl, hEb.mc hj1⟩)) 4 gX7_make_X7_makeOne rfl (by decide +kernel) (by rw [hRf, hRl]; decide) (by exact mP_x) (κ := 6) (by exact mP_Kx) rfl (by decide) rfl rfl (Nat.le_of_ble_eq_true rfl) dX7_make_152 (by rw [hRc, hRs]; omega) (fun r T hp => ?_)
          obtain ⟨E2, rfl, s1, hmk⟩ := hp
          have hmk2 := mk_b hy (hVB.2.2 j hj1).2.1 (show MkR y V _ none (some (VB.2 j)) _ E2 from hmk)
          rw [mg_b h66 hlt3] at hG
          refine g_if_ne Z 160 dX7_make_155 (by decide) (fun h155 => ?_) (fun h155 => ?_)
          · have hms : Ms E2 16 (if y = 1 ∨ y = 2 then V.psh (VB.2 j) else V) := by
              rcases hmk2 with ⟨q1, -⟩ | ⟨-, q2⟩
              · exact absurd q1 h155
              · exact q2
            refine g_iload Z dX7_make_160 rfl ?_
            refine g_iload Z dX7_make_162 rfl ?_
            refine g_iload Z dX7_make_164 rfl ?_
            refine g_icmp_ne Z 173 dX7_make_166 (by decide) (fun h166 => ?_) (fun h166 => absurd h166 (ne_nI (a := 65536) (b := (VB.2 j).1) (by omega) (by omega) (by omega)))
            refine g_iconst (v := 0) Z dX7_make_173 (by decide) ?_
            refine g_iadd Z dX7_make_174 ?_
            rw [add0]
            refine g_istore Z dX7_make_175 (by decide) ?_
            refine g_iload Z dX7_make_177 rfl ?_
            refine g_iload Z dX7_make_179 rfl ?_
            refine g_iload Z dX7_make_181 rfl ?_
            refine g_icmp_ne Z 190 dX7_make_183 (by decide) (fun h183 => absurd (rfl) h183) (fun h183 => ?_)
            refine g_iconst (v := 1) Z dX7_make_186 (by decide) ?_
            refine g_goto Z 191 dX7_make_187 (by decide) ?_
            refine g_iadd Z dX7_make_191 ?_
            rw [nI_1]
            refine g_istore Z dX7_make_192 (by decide) ?_
            refine g_goto Z 14 dX7_make_194 (by decide) ?_
            exact g_lv (by (repeat (first | exact trivial | refine And.intro rfl ?_)); done) (ih i (j + 1) E2 _ (by omega) ⟨by omega, by omega, hS.tr s1, hms, hVk.b hVB hlt3 hj1, hG⟩)
          · have hnone : mgR y VA VB 13 0 0 eS = none := by
              rcases hmk2 with ⟨-, q2, q3⟩ | ⟨q1, -⟩
              · rw [← hG]; rw [if_pos q3]; exact mg_full (psh7 q2)
              · rw [q1] at h155; exact absurd h155 (by decide)
            refine g_iconst (v := 0) Z dX7_make_158 (by decide) ?_
            exact g_zret Z dX7_make_159 (by rfl) (by omega) (by omega) (⟨E2, rfl, hS.tr s1, Or.inr ⟨rfl, hnone⟩⟩)
        · have ky2 : kyA VB j = 65536 := if_neg hj1
          rw [mg_end h66 ky1 ky2] at hG
          refine g_iload Z dX7_make_14 rfl ?_
          refine g_aload_n Z dX7_make_16 rfl ?_
          refine m_ref_mn Z in6 lk7 dX7_make_17 ?_
          refine g_iload_n Z dX7_make_20 rfl ?_
          refine m_ald_mn Z ho dX7_make_21 (by exact vp_in_nI (by omega) (by decide)) ?_
          rw [nI_clamp (by omega), ema]
          refine g_icmp_lt Z 36 dX7_make_22 (by decide) (fun h22 => absurd h22 (nI_nlt (by omega) (by omega))) (fun h22 => ?_)
          refine g_iload Z dX7_make_25 rfl ?_
          refine g_aload_n Z dX7_make_27 rfl ?_
          refine m_ref_mn Z in6 lk7 dX7_make_28 ?_
          refine g_iload_n Z dX7_make_31 rfl ?_
          refine m_ald_mn Z ho dX7_make_32 (by exact vp_in_nI (by omega) (by decide)) ?_
          rw [nI_clamp (by omega), emb]
          refine g_icmp_ge Z 197 dX7_make_33 (by decide) (fun h33 => ?_) (fun h33 => absurd (nI_le (by omega) (by omega)) h33)
          refine g_iconst (v := 1) Z dX7_make_197 (by decide) ?_
          exact g_zret Z dX7_make_198 (by rfl) (by omega) (by omega) (⟨E, rfl, hS, Or.inl ⟨rfl, V, hG.symm, hE⟩⟩)
  refine g_aload_n Z dX7_make_0 rfl ?_
  refine m_ref_mn Z in6 lk7 dX7_make_1 ?_
  refine g_bipush (v := 16) Z dX7_make_4 (by decide) ?_
  refine g_iconst (v := 0) Z dX7_make_6 (by decide) ?_
  refine m_ast_mn Z ho dX7_make_7 (by exact vp_in_nI (n := 16) (by decide) (by decide)) ?_
  rw [show (16 : Int32).toNatClampNeg = 16 by decide]
  refine g_iconst (v := 0) Z dX7_make_8 (by decide) ?_
  refine g_istore Z dX7_make_9 (by decide) ?_
  refine g_iconst (v := 0) Z dX7_make_11 (by decide) ?_
  refine g_istore Z dX7_make_12 (by decide) ?_
  exact g_lv (by (repeat (first | exact trivial | refine And.intro rfl ?_)); done) (loop 13 0 0 (C.s_mn (upd C.mn 16 0)) eS (by omega) ⟨by omega, by omega, Me.mn, ⟨by decide, pk_us (f := C.mn) (k := 16) (x := nI 0), fun i hi => absurd hi (Nat.not_lt_zero _)⟩, VokP.eS, rfl⟩)

theorem inR.y {j : Nat} {r : Int32} (h : inR (nI j) 0 7 r) (hj : j ≤ 7) : ¬ r = 0 := fun e => h.f e ⟨j, Nat.zero_le _, hj, rfl⟩
theorem inR.y3 {y r : Int32} (h : inR y 0 3 r) (h0 : ¬ y < 0) (h3 : y ≤ 3) : ¬ r = 0 := fun e => h.n3 e ⟨h0, h3⟩

set_option maxRecDepth 100000 in
set_option maxHeartbeats 2000000 in
/-- two sets are joined -/
theorem f_X7_join_w (l : Launch) (D : va_G) (cy : Nat → ClassId) (nw : Nat) (A : Nat → Nat) (x : Nat) (ho : mOk A x) (C : C5) (R : MR) (V : Nat → Sv) (hM : MV C V) (hV : ∀ s, s < 8 → Vok (V s)) (w : Nat) (hw : w ≤ 300) (ew : R.wk = nI w) (jt ja jb : Nat) (hjt : jt < 8) (hja : ja < 8) (hjb : jb < 8) (c : Int32) (hc0 : ¬ c < 0) (hc3 : c ≤ 3) (hw1 : 1 ≤ w) : kI l yX7_join wsX7_join 4 104 D cy nw [.ref x, .int (nI jt), .int c, .int (nI ja), .int (nI jb)] (mP A x (C, R)) (fun r T => ∃ E V2, mP A x (E, R.s_wk (nI (w - 1))) = T ∧ MV E V2 ∧ ((∃ W, mgR c (V ja) (V jb) 13 0 0 eS = some W ∧ r = nI (sT W W.1) ∧ V2 = va_up V jt W) ∨ (mgR c (V ja) (V jb) 13 0 0 eS = none ∧ r = -3 ∧ V2 = V))) 0 0 := by
  refine enterI (cc := cX7_join) (nL := 5) (ret := (some .int)) (by decide +kernel) rfl (Nat.le_of_ble_eq_true rfl) ?_
  intro F Z hl hR hD hcy hnw hnm
  subst hl hD hcy hnw
  have hRf : F.R.frames = 4 := by rw [hR]
  have hRc : F.R.cells = 0 := by rw [hR]
  have hRs : F.R.slots = 0 := by rw [hR]
  have hRl : F.R.locals = 104 := by rw [hR]
  have in6 : ∀ w ∈ u_ws RX7 TX7 16, w ∈ wsX7_join := by decide +kernel
  have lk27 : Cond.fieldLink RX7 27 (TX7 5).1 (TX7 5).2.1 (TX7 5).2.2.1 ∈ wsX7_join := by decide +kernel
  have ct112 : Cond.constantLong RX7 112 (3) ∈ wsX7_join := by decide +kernel
  refine g_iload_n Z dX7_join_0 rfl ?_
  refine g_csI Z (c_X7_isSet F.l F.D F.cy F.nw _ _) 1 gX7_join_X7_isSet rfl (by decide +kernel) (by rw [hRf, hRl]; decide) rfl rfl (Nat.le_of_ble_eq_true rfl) dX7_join_1 (by rw [hRc, hRs]; omega) (fun r T hp => ?_)
  obtain ⟨rfl, hit⟩ := hp
  refine g_if_eq Z 34 dX7_join_4 (by decide) (fun h4 => absurd h4 (inR.y hit (by omega))) (fun h4 => ?_)
  refine g_iload_n Z dX7_join_7 rfl ?_
  refine g_i2l Z dX7_join_8 ?_
  refine g_lconst (v := 0) Z dX7_join_9 (by decide) ?_
  refine g_ldc2 (v := 3) Z dX7_join_10 ct112 ?_
  refine g_csI Z (c_X7_in F.l F.D F.cy F.nw _ _ _ _) 3 gX7_join_X7_in rfl (by decide +kernel) (by rw [hRf, hRl]; decide) rfl rfl (Nat.le_of_ble_eq_true rfl) dX7_join_13 (by rw [hRc, hRs]; omega) (fun r T hp => ?_)
  obtain ⟨rfl, hi0⟩ := hp
  have hic := in_R (x := c) (a := 0) (b := 3) (by decide) (by decide) hi0
  refine g_if_eq Z 34 dX7_join_16 (by decide) (fun h16 => absurd h16 (inR.y3 hic hc0 hc3)) (fun h16 => ?_)
  refine g_iload_n Z dX7_join_19 rfl ?_
  refine g_csI Z (c_X7_isSet F.l F.D F.cy F.nw _ _) 1 gX7_join_X7_isSet rfl (by decide +kernel) (by rw [hRf, hRl]; decide) rfl rfl (Nat.le_of_ble_eq_true rfl) dX7_join_20 (by rw [hRc, hRs]; omega) (fun r T hp => ?_)
  obtain ⟨rfl, hia⟩ := hp
  refine g_if_eq Z 34 dX7_join_23 (by decide) (fun h23 => absurd h23 (inR.y hia (by omega))) (fun h23 => ?_)
  refine g_iload Z dX7_join_26 rfl ?_
  refine g_csI Z (c_X7_isSet F.l F.D F.cy F.nw _ _) 1 gX7_join_X7_isSet rfl (by decide +kernel) (by rw [hRf, hRl]; decide) rfl rfl (Nat.le_of_ble_eq_true rfl) dX7_join_28 (by rw [hRc, hRs]; omega) (fun r T hp => ?_)
  obtain ⟨rfl, hib⟩ := hp
  refine g_if_ne Z 37 dX7_join_31 (by decide) (fun h31 => ?_) (fun h31 => absurd h31 (inR.y hib (by omega)))
  refine g_aload_n Z dX7_join_37 rfl ?_
  refine m_get_wk Z in6 lk27 dX7_join_38 ?_
  rw [ew]
  refine g_iconst (v := 1) Z dX7_join_41 (by decide) ?_
  refine g_icmp_ge Z 48 dX7_join_42 (by decide) (fun h42 => ?_) (fun h42 => absurd (nI_le (a := 1) hw1 (by omega)) h42)
  refine g_aload_n Z dX7_join_48 rfl ?_
  refine g_dup Z dX7_join_49 rfl ?_
  refine m_get_wk Z in6 lk27 dX7_join_50 ?_
  rw [ew]
  refine g_iconst (v := 1) Z dX7_join_53 (by decide) ?_
  refine g_isub Z dX7_join_54 ?_
  rw [s1' hw1]
  refine m_put_wk Z in6 lk27 dX7_join_55 ?_
  refine g_aload_n Z dX7_join_58 rfl ?_
  refine g_iload_n Z dX7_join_59 rfl ?_
  refine g_iload_n Z dX7_join_60 rfl ?_
  refine g_iload Z dX7_join_61 rfl ?_
  refine g_cvI Z (f_X7_make F.l F.D F.cy F.nw A x ho _ _ c (i0123 hc0 hc3) ja jb (by omega) (by omega) (V ja) (V jb) (hM ja hja) (hM jb hjb) (hV ja hja) (hV jb hjb)) 3 gX7_join_X7_make rfl (by decide +kernel) (by rw [hRf, hRl]; decide) (by exact mP_x) (κ := 6) (by exact mP_Kx) rfl (by decide) rfl rfl (Nat.le_of_ble_eq_true rfl) dX7_join_63 (by rw [hRc, hRs]; omega) (fun r T hp => ?_)
  obtain ⟨E, rfl, s1, hr⟩ := hp
  have hME := hM.oth (s := 16) (by omega) s1
  refine g_if_ne Z 72 dX7_join_66 (by decide) (fun h66 => ?_) (fun h66 => ?_)
  · obtain ⟨W, hW, hmW⟩ : ∃ W, mgR c (V ja) (V jb) 13 0 0 eS = some W ∧ Ms E 16 W := by
      rcases hr with ⟨-, e⟩ | ⟨e, -⟩
      · exact e
      · exact absurd e h66
    refine g_aload_n Z dX7_join_72 rfl ?_
    refine g_bipush (v := 16) Z dX7_join_73 (by decide) ?_
    refine g_iload_n Z dX7_join_75 rfl ?_
    refine g_cvV Z (f_X7_copySet F.l F.D F.cy F.nw A x ho _ _ 16 jt (by decide) (by omega) (by omega) W hmW) 2 gX7_join_X7_copySet rfl (by decide +kernel) (by rw [hRf, hRl]; decide) (by exact mP_x) (κ := 6) (by exact mP_Kx) rfl (by decide) rfl rfl (Nat.le_of_ble_eq_true rfl) dX7_join_76 (by rw [hRc, hRs]; omega) (fun T hp => ?_)
    obtain ⟨E2, rfl, k1, k2⟩ := hp
    refine g_aload_n Z dX7_join_79 rfl ?_
    refine g_iload_n Z dX7_join_80 rfl ?_
    refine g_cvI Z (f_X7_all F.l F.D F.cy F.nw A x ho _ _ jt (by omega) W k2) 1 gX7_join_X7_all rfl (by decide +kernel) (by rw [hRf, hRl]; decide) (by exact mP_x) (κ := 6) (by exact mP_Kx) rfl (by decide) rfl rfl (Nat.le_of_ble_eq_true rfl) dX7_join_81 (by rw [hRc, hRs]; omega) (fun r T hp => ?_)
    obtain ⟨rfl, rfl⟩ := hp
    exact g_iret Z dX7_join_84 (by omega) (by omega) (⟨E2, _, rfl, hME.one k1 k2, Or.inl ⟨W, hW, rfl, rfl⟩⟩)
  · have hnone : mgR c (V ja) (V jb) 13 0 0 eS = none := by
      rcases hr with ⟨e, -⟩ | ⟨-, e⟩
      · rw [e] at h66; exact absurd h66 (by decide)
      · exact e
    refine g_bipush (v := (-3)) Z dX7_join_69 (by decide) ?_
    exact g_iret Z dX7_join_71 (by omega) (by omega) (⟨E, V, rfl, hME, Or.inr ⟨hnone, rfl, rfl⟩⟩)

set_option maxRecDepth 100000 in
set_option maxHeartbeats 2000000 in
/-- a join that is refused -/
theorem f_X7_join_n (l : Launch) (D : va_G) (cy : Nat → ClassId) (nw : Nat) (A : Nat → Nat) (x : Nat) (ho : mOk A x) (C : C5) (R : MR) (w : Nat) (hw : w ≤ 300) (ew : R.wk = nI w) (t c a b : Int32) (hno : ¬ (isS t ∧ isS a ∧ isS b ∧ ¬ c < 0 ∧ c ≤ 3 ∧ 1 ≤ w)) : kI l yX7_join wsX7_join 2 45 D cy nw [.ref x, .int t, .int c, .int a, .int b] (mP A x (C, R)) (fun r T => (mP A x (C, R)) = T ∧ (((isS t ∧ isS a ∧ isS b ∧ ¬ c < 0 ∧ c ≤ 3) ∧ r = -5) ∨ (¬ (isS t ∧ isS a ∧ isS b ∧ ¬ c < 0 ∧ c ≤ 3) ∧ r = -2))) 0 0 := by
  refine enterI (cc := cX7_join) (nL := 5) (ret := (some .int)) (by decide +kernel) rfl (Nat.le_of_ble_eq_true rfl) ?_
  intro F Z hl hR hD hcy hnw hnm
  subst hl hD hcy hnw
  have hRf : F.R.frames = 2 := by rw [hR]
  have hRc : F.R.cells = 0 := by rw [hR]
  have hRs : F.R.slots = 0 := by rw [hR]
  have hRl : F.R.locals = 45 := by rw [hR]
  have in6 : ∀ w ∈ u_ws RX7 TX7 16, w ∈ wsX7_join := by decide +kernel
  have lk27 : Cond.fieldLink RX7 27 (TX7 5).1 (TX7 5).2.1 (TX7 5).2.2.1 ∈ wsX7_join := by decide +kernel
  have ct112 : Cond.constantLong RX7 112 (3) ∈ wsX7_join := by decide +kernel
  refine g_iload_n Z dX7_join_0 rfl ?_
  refine g_csI Z (c_X7_isSet F.l F.D F.cy F.nw _ _) 1 gX7_join_X7_isSet rfl (by decide +kernel) (by rw [hRf, hRl]; decide) rfl rfl (Nat.le_of_ble_eq_true rfl) dX7_join_1 (by rw [hRc, hRs]; omega) (fun r T hp => ?_)
  obtain ⟨rfl, hit⟩ := hp
  refine g_if_eq Z 34 dX7_join_4 (by decide) (fun h4 => ?_) (fun h4 => ?_)
  · refine g_bipush (v := (-2)) Z dX7_join_34 (by decide) ?_
    exact g_iret Z dX7_join_36 (by omega) (by omega) (⟨rfl, Or.inr ⟨by first | exact (fun q => hit.nS h4 q.1) | exact (fun q => hic.n3 h16 q.2.2.2) | exact (fun q => hia.nS h23 q.2.1) | exact (fun q => hib.nS h31 q.2.2.1), rfl⟩⟩)
  · obtain ⟨t', ht, rfl⟩ := hit.is h4
    refine g_iload_n Z dX7_join_7 rfl ?_
    refine g_i2l Z dX7_join_8 ?_
    refine g_lconst (v := 0) Z dX7_join_9 (by decide) ?_
    refine g_ldc2 (v := 3) Z dX7_join_10 ct112 ?_
    refine g_csI Z (c_X7_in F.l F.D F.cy F.nw _ _ _ _) 3 gX7_join_X7_in rfl (by decide +kernel) (by rw [hRf, hRl]; decide) rfl rfl (Nat.le_of_ble_eq_true rfl) dX7_join_13 (by rw [hRc, hRs]; omega) (fun r T hp => ?_)
    obtain ⟨rfl, hi0⟩ := hp
    have hic := in_R (x := c) (a := 0) (b := 3) (by decide) (by decide) hi0
    refine g_if_eq Z 34 dX7_join_16 (by decide) (fun h16 => ?_) (fun h16 => ?_)
    · refine g_bipush (v := (-2)) Z dX7_join_34 (by decide) ?_
      exact g_iret Z dX7_join_36 (by omega) (by omega) (⟨rfl, Or.inr ⟨by first | exact (fun q => hit.nS h4 q.1) | exact (fun q => hic.n3 h16 q.2.2.2) | exact (fun q => hia.nS h23 q.2.1) | exact (fun q => hib.nS h31 q.2.2.1), rfl⟩⟩)
    · have hc : ¬ c < 0 ∧ c ≤ 3 := by
        obtain ⟨j, hj, rfl⟩ := hic.is h16
        exact ⟨nI_pos (by omega), nI_le (b := 3) hj (by decide)⟩
      refine g_iload_n Z dX7_join_19 rfl ?_
      refine g_csI Z (c_X7_isSet F.l F.D F.cy F.nw _ _) 1 gX7_join_X7_isSet rfl (by decide +kernel) (by rw [hRf, hRl]; decide) rfl rfl (Nat.le_of_ble_eq_true rfl) dX7_join_20 (by rw [hRc, hRs]; omega) (fun r T hp => ?_)
      obtain ⟨rfl, hia⟩ := hp
      refine g_if_eq Z 34 dX7_join_23 (by decide) (fun h23 => ?_) (fun h23 => ?_)
      · refine g_bipush (v := (-2)) Z dX7_join_34 (by decide) ?_
        exact g_iret Z dX7_join_36 (by omega) (by omega) (⟨rfl, Or.inr ⟨by first | exact (fun q => hit.nS h4 q.1) | exact (fun q => hic.n3 h16 q.2.2.2) | exact (fun q => hia.nS h23 q.2.1) | exact (fun q => hib.nS h31 q.2.2.1), rfl⟩⟩)
      · obtain ⟨a', ha, rfl⟩ := hia.is h23
        refine g_iload Z dX7_join_26 rfl ?_
        refine g_csI Z (c_X7_isSet F.l F.D F.cy F.nw _ _) 1 gX7_join_X7_isSet rfl (by decide +kernel) (by rw [hRf, hRl]; decide) rfl rfl (Nat.le_of_ble_eq_true rfl) dX7_join_28 (by rw [hRc, hRs]; omega) (fun r T hp => ?_)
        obtain ⟨rfl, hib⟩ := hp
        refine g_if_ne Z 37 dX7_join_31 (by decide) (fun h31 => ?_) (fun h31 => ?_)
        · obtain ⟨b', hb, rfl⟩ := hib.is h31
          refine g_aload_n Z dX7_join_37 rfl ?_
          refine m_get_wk Z in6 lk27 dX7_join_38 ?_
          rw [ew]
          refine g_iconst (v := 1) Z dX7_join_41 (by decide) ?_
          refine g_icmp_ge Z 48 dX7_join_42 (by decide) (fun h42 => ?_) (fun h42 => ?_)
          · exact absurd ⟨isS_of ht, isS_of ha, isS_of hb, hc.1, hc.2, ge_t (N := 1) (by omega) (by decide) h42⟩ hno
          · refine g_bipush (v := (-5)) Z dX7_join_45 (by decide) ?_
            exact g_iret Z dX7_join_47 (by omega) (by omega) (⟨rfl, Or.inl ⟨⟨isS_of ht, isS_of ha, isS_of hb, hc⟩, rfl⟩⟩)
        · refine g_bipush (v := (-2)) Z dX7_join_34 (by decide) ?_
          exact g_iret Z dX7_join_36 (by omega) (by omega) (⟨rfl, Or.inr ⟨by first | exact (fun q => hit.nS h4 q.1) | exact (fun q => hic.n3 h16 q.2.2.2) | exact (fun q => hia.nS h23 q.2.1) | exact (fun q => hib.nS h31 q.2.2.1), rfl⟩⟩)
