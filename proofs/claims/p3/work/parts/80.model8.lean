theorem ite_z {p : Prop} [Decidable p] : (if p then 4 * 0 else 0) = 0 := by split <;> rfl

set_option maxRecDepth 100000 in
set_option maxHeartbeats 2000000 in
/-- a set is written -/
theorem c_X7_write (l : Launch) (D : va_G) (cy : Nat → ClassId) (nw : Nat) (A : Nat → Nat) (x : Nat) (ho : mOk A x) (C : C5) (R : MR) (hI : InvC C) (hRi : InvR R) (a : Int32) : kI l yX7_write wsX7_write 5 113 D cy nw [.ref x, .int a] (mP A x (C, R)) (fun _ T => ∃ Q, mP A x (C, Q) = T ∧ InvR Q ∧ Q.wk = R.wk) 0 0 := by
  refine enterI (cc := cX7_write) (nL := 7) (ret := (some .int)) (by decide +kernel) rfl (Nat.le_of_ble_eq_true rfl) ?_
  intro F Z hl hR hD hcy hnw hnm
  subst hl hD hcy hnw
  have hRf : F.R.frames = 5 := by rw [hR]
  have hRc : F.R.cells = 0 := by rw [hR]
  have hRs : F.R.slots = 0 := by rw [hR]
  have hRl : F.R.locals = 113 := by rw [hR]
  have in6 : ∀ w ∈ u_ws RX7 TX7 16, w ∈ wsX7_write := by decide +kernel
  have lk7 : Cond.fieldLink RX7 7 (TX7 0).1 (TX7 0).2.1 (TX7 0).2.2.1 ∈ wsX7_write := by decide +kernel
  have lk13 : Cond.fieldLink RX7 13 (TX7 1).1 (TX7 1).2.1 (TX7 1).2.2.1 ∈ wsX7_write := by decide +kernel
  have lk16 : Cond.fieldLink RX7 16 (TX7 2).1 (TX7 2).2.1 (TX7 2).2.2.1 ∈ wsX7_write := by decide +kernel
  have lk19 : Cond.fieldLink RX7 19 (TX7 3).1 (TX7 3).2.1 (TX7 3).2.2.1 ∈ wsX7_write := by decide +kernel
  have lk153 : Cond.fieldLink RX7 153 (TX7 8).1 (TX7 8).2.1 (TX7 8).2.2.1 ∈ wsX7_write := by decide +kernel
  have lk174 : Cond.fieldLink RX7 174 (TX7 6).1 (TX7 6).2.1 (TX7 6).2.2.1 ∈ wsX7_write := by decide +kernel
  have ct31 : Cond.constant RX7 31 (60000) ∈ wsX7_write := by decide +kernel
  have fin : ∀ (s n0 : Nat), s < 8 → n0 ≤ 6 → C.mn s = nI n0 → (∀ i, i < n0 → gc C (6 * s + i)) → hdO C s n0 + lS C s n0 ≤ 60000 → ∀ (n k o : Nat) (W : MR), n0 - k < n → (k ≤ n0 ∧ Wr R W o ∧ o ≤ hdO C s n0 + lS C s k) → G F 7 (mP A x (C, W)) 0 0 (QI F (fun _ T => ∃ Q, mP A x (C, Q) = T ∧ InvR Q ∧ Q.wk = R.wk) 0 0) 274 [(0, .ref x), (1, .int (nI s)), (2, .int (nI n0)), (6, .int (nI k))] [] := by
    intro s n0 hs hn0 en hg hL
    intro n
    induction n with
    | zero => intros; omega
    | succ n ih =>
      intro k o W hn ⟨hk, ⟨w1, w2, w3, w4⟩, ho2⟩
      have hlS : lS C s (k + 1) = lS C s k + lO C (6 * s + k) := rfl
      refine g_iload Z dX7_write_274 rfl ?_
      refine g_iload_n Z dX7_write_276 rfl ?_
      refine g_icmp_ge Z 297 dX7_write_277 (by decide) (fun h277 => ?_) (fun h277 => ?_)
      · have hmo := lS_mono C s hk
        refine g_aload_n Z dX7_write_297 rfl ?_
        refine g_aload_n Z dX7_write_298 rfl ?_
        refine m_get_ou Z in6 lk153 dX7_write_299 ?_
        rw [w3]
        refine m_put_si Z in6 lk174 dX7_write_302 ?_
        refine g_aload_n Z dX7_write_305 rfl ?_
        refine m_get_si Z in6 lk174 dX7_write_306 ?_
        exact g_iret Z dX7_write_309 (by omega) (by omega) (⟨_, rfl, ⟨⟨o, by omega, rfl⟩, w4⟩, w1⟩)
      · have hlt : k < n0 := ge_f (by omega) (by omega) h277
        have hmo := lS_mono C s (show k + 1 ≤ n0 by omega)
        refine g_aload_n Z dX7_write_280 rfl ?_
        refine g_bipush (v := 6) Z dX7_write_281 (by decide) ?_
        refine g_iload_n Z dX7_write_283 rfl ?_
        refine g_imul Z dX7_write_284 ?_
        refine g_iload Z dX7_write_285 rfl ?_
        refine g_iadd Z dX7_write_287 ?_
        rw [ix6]
        refine g_cvV Z (c_X7_writeOne F.l F.D F.cy F.nw A x ho _ _ _ (by omega) w4 o w3 (by omega)) 1 gX7_write_X7_writeOne rfl (by decide +kernel) (by rw [hRf, hRl]; decide) (by exact mP_x) (κ := 6) (by exact mP_Kx) rfl (by decide) rfl rfl (Nat.le_of_ble_eq_true rfl) dX7_write_288 (by rw [hRc, hRs]; omega) (fun T hp => ?_)
        obtain ⟨W2, o2, rfl, ⟨q1, q2, q3, q4⟩, q5⟩ := hp
        refine g_iinc (c := 1) Z dX7_write_291 rfl (by decide) (by decide) ?_
        rw [nI_1]
        refine g_goto Z 274 dX7_write_294 (by decide) ?_
        exact g_lv (by (repeat (first | exact trivial | refine And.intro rfl ?_)); done) (ih (k + 1) o2 W2 (by omega) ⟨by omega, ⟨q1.trans w1, q2.trans w2, q3, q4⟩, by omega⟩)
  have h01 : ∀ s n0, hasR C s n0 ≤ 1 := fun s n0 => by unfold hasR; split <;> omega
  have pls : ∀ (s n0 : Nat), s < 8 → n0 ≤ 6 → C.mn s = nI n0 → (∀ i, i < n0 → gc C (6 * s + i)) → hdO C s n0 + lS C s n0 ≤ 60000 → ∀ (n k : Nat) (y : Int32) (W : MR), n0 - k < n → (k ≤ n0 ∧ Wr R W ((if hasR C s n0 = 0 then 8 else 5) + 4 * n0 + (if hasR C s n0 = 0 ∨ 4 ≤ n0 then 4 * k else 0))) → G F 7 (mP A x (C, W)) 0 0 (QI F (fun _ T => ∃ Q, mP A x (C, Q) = T ∧ InvR Q ∧ Q.wk = R.wk) 0 0) 226 [(0, .ref x), (1, .int (nI s)), (2, .int (nI n0)), (4, .int (nI (hasR C s n0))), (5, .int y), (6, .int (nI k))] [] := by
    intro s n0 hs hn0 en hg hL
    have hh1 := h01 s n0
    have ehd : hdO C s n0 = (if hasR C s n0 = 0 then 8 else 5) + 4 * n0 + (if hasR C s n0 = 0 ∨ 4 ≤ n0 then 4 * n0 else 0) := rfl
    intro n
    induction n with
    | zero => intros; omega
    | succ n ih =>
      intro k y W hn ⟨hk, w1, w2, w3, w4⟩
      have jgo : k < n0 → (hasR C s n0 = 0 ∨ 4 ≤ n0) → G F 7 (mP A x (C, W)) 0 0 (QI F (fun _ T => ∃ Q, mP A x (C, Q) = T ∧ InvR Q ∧ Q.wk = R.wk) 0 0) 242 [(0, .ref x), (1, .int (nI s)), (2, .int (nI n0)), (4, .int (nI (hasR C s n0))), (5, .int y), (6, .int (nI k))] [] := by
        intro hlt hor
        rw [if_pos hor] at w3 ehd
        have e8 : (if hasR C s n0 = 0 then 8 else 5) ≤ 8 := by split <;> omega
        refine g_aload_n Z dX7_write_242 rfl ?_
        refine g_iload Z dX7_write_243 rfl ?_
        refine g_iconst (v := 4) Z dX7_write_245 (by decide) ?_
        refine g_cvV Z (c_X7_put F.l F.D F.cy F.nw A x ho _ _ w4 _ w3 _ 4 (by omega)) 2 gX7_write_X7_put rfl (by decide +kernel) (by rw [hRf, hRl]; decide) (by exact mP_x) (κ := 6) (by exact mP_Kx) rfl (by decide) rfl rfl (Nat.le_of_ble_eq_true rfl) dX7_write_246 (by rw [hRc, hRs]; omega) (fun T hp => ?_)
        obtain ⟨W2, rfl, q1, q2, q3, q4⟩ := hp
        refine g_iload Z dX7_write_249 rfl ?_
        refine g_aload_n Z dX7_write_251 rfl ?_
        refine g_bipush (v := 6) Z dX7_write_252 (by decide) ?_
        refine g_iload_n Z dX7_write_254 rfl ?_
        refine g_imul Z dX7_write_255 ?_
        refine g_iload Z dX7_write_256 rfl ?_
        refine g_iadd Z dX7_write_258 ?_
        rw [ix6]
        refine g_cvI Z (c_X7_lengthOf F.l F.D F.cy F.nw A x ho _ _ _ (by omega) (hg k hlt)) 1 gX7_write_X7_lengthOf rfl (by decide +kernel) (by rw [hRf, hRl]; decide) (by exact mP_x) (κ := 6) (by exact mP_Kx) rfl (by decide) rfl rfl (Nat.le_of_ble_eq_true rfl) dX7_write_259 (by rw [hRc, hRs]; omega) (fun r T hp => ?_)
        obtain ⟨rfl, rfl⟩ := hp
        refine g_iadd Z dX7_write_262 ?_
        refine g_istore Z dX7_write_263 (by decide) ?_
        refine g_iinc (c := 1) Z dX7_write_265 rfl (by decide) (by decide) ?_
        rw [nI_1]
        refine g_goto Z 226 dX7_write_268 (by decide) ?_
        exact g_lv (by (repeat (first | exact trivial | refine And.intro rfl ?_)); done) (ih (k + 1) _ W2 (by omega) ⟨by omega, q1.trans w1, q2.trans w2, by rw [if_pos hor]; exact q3.trans (congrArg nI (by omega)), q4⟩)
      refine g_iload Z dX7_write_226 rfl ?_
      refine g_iload_n Z dX7_write_228 rfl ?_
      refine g_icmp_ge Z 271 dX7_write_229 (by decide) (fun h229 => ?_) (fun h229 => ?_)
      · have he : k = n0 := by have := ge_t (i := k) (N := n0) (by omega) (by omega) h229; omega
        subst he
        refine g_iconst (v := 0) Z dX7_write_271 (by decide) ?_
        refine g_istore Z dX7_write_272 (by decide) ?_
        exact g_lv (by (repeat (first | exact trivial | refine And.intro rfl ?_)); done) (fin s k hs hn0 en hg hL (k + 1) 0 _ W (by omega) ⟨by omega, ⟨w1, w2, w3, w4⟩, by show _ ≤ hdO C s k + 0; omega⟩)
      · have hlt : k < n0 := ge_f (by omega) (by omega) h229
        refine g_iload Z dX7_write_232 rfl ?_
        refine g_if_eq Z 242 dX7_write_234 (by decide) (fun h234 => ?_) (fun h234 => ?_)
        · have e0 : hasR C s n0 = 0 := (nI_eq (b := 0) (by omega) (by decide)).mp h234
          first | exact g_lv (by (repeat (first | exact trivial | refine And.intro rfl ?_)); done) (jgo hlt (Or.inl e0)) | exact g_lv (by (repeat (first | exact trivial | refine And.intro rfl ?_)); done) (jgo hlt (Or.inr e4))
        · have e0 : ¬ hasR C s n0 = 0 := fun e => h234 (by rw [e]; rfl)
          refine g_iload_n Z dX7_write_237 rfl ?_
          refine g_iconst (v := 4) Z dX7_write_238 (by decide) ?_
          refine g_icmp_lt Z 271 dX7_write_239 (by decide) (fun h239 => ?_) (fun h239 => ?_)
          · have e4 : ¬ 4 ≤ n0 := fun q => absurd (lt_t (N := 4) (by omega) (by decide) h239) (by omega)
            rw [if_neg (c := hasR C s n0 = 0 ∨ 4 ≤ n0) (fun q => q.elim e0 e4)] at w3 ehd
            refine g_iconst (v := 0) Z dX7_write_271 (by decide) ?_
            refine g_istore Z dX7_write_272 (by decide) ?_
            exact g_lv (by (repeat (first | exact trivial | refine And.intro rfl ?_)); done) (fin s n0 hs hn0 en hg hL (n0 + 1) 0 _ W (by omega) ⟨by omega, ⟨w1, w2, w3, w4⟩, by show _ ≤ hdO C s n0 + 0; omega⟩)
          · have e4 : 4 ≤ n0 := lt_f (N := 4) (by omega) (by decide) h239
            first | exact g_lv (by (repeat (first | exact trivial | refine And.intro rfl ?_)); done) (jgo hlt (Or.inl e0)) | exact g_lv (by (repeat (first | exact trivial | refine And.intro rfl ?_)); done) (jgo hlt (Or.inr e4))
  have kys : ∀ (s n0 : Nat), s < 8 → n0 ≤ 6 → C.mn s = nI n0 → (∀ i, i < n0 → gc C (6 * s + i)) → hdO C s n0 + lS C s n0 ≤ 60000 → ∀ (n k : Nat) (W : MR), n0 - k < n → (k ≤ n0 ∧ Wr R W ((if hasR C s n0 = 0 then 8 else 5) + 4 * k)) → G F 7 (mP A x (C, W)) 0 0 (QI F (fun _ T => ∃ Q, mP A x (C, Q) = T ∧ InvR Q ∧ Q.wk = R.wk) 0 0) 168 [(0, .ref x), (1, .int (nI s)), (2, .int (nI n0)), (4, .int (nI (hasR C s n0))), (5, .int (nI k))] [] := by
    intro s n0 hs hn0 en hg hL
    have e8 : (if hasR C s n0 = 0 then 8 else 5) ≤ 8 := by split <;> omega
    intro n
    induction n with
    | zero => intros; omega
    | succ n ih =>
      intro k W hn ⟨hk, w1, w2, w3, w4⟩
      refine g_iload Z dX7_write_168 rfl ?_
      refine g_iload_n Z dX7_write_170 rfl ?_
      refine g_icmp_ge Z 216 dX7_write_171 (by decide) (fun h171 => ?_) (fun h171 => ?_)
      · have he : k = n0 := by have := ge_t (i := k) (N := n0) (by omega) (by omega) h171; omega
        subst he
        refine g_aload_n Z dX7_write_216 rfl ?_
        refine g_iload_n Z dX7_write_217 rfl ?_
        refine g_cvI Z (c_X7_headOf F.l F.D F.cy F.nw A x ho _ _ s hs k hn0 en) 1 gX7_write_X7_headOf rfl (by decide +kernel) (by rw [hRf, hRl]; decide) (by exact mP_x) (κ := 6) (by exact mP_Kx) rfl (by decide) rfl rfl (Nat.le_of_ble_eq_true rfl) dX7_write_218 (by rw [hRc, hRs]; omega) (fun r T hp => ?_)
        obtain ⟨rfl, rfl⟩ := hp
        refine g_istore Z dX7_write_221 (by decide) ?_
        refine g_iconst (v := 0) Z dX7_write_223 (by decide) ?_
        refine g_istore Z dX7_write_224 (by decide) ?_
        exact g_lv (by (repeat (first | exact trivial | refine And.intro rfl ?_)); done) (pls s k hs hn0 en hg hL (k + 1) 0 _ W (by omega) ⟨by omega, w1, w2, w3.trans (congrArg nI (by rw [ite_z]; rfl)), w4⟩)
      · have hlt : k < n0 := ge_f (by omega) (by omega) h171
        refine g_aload_n Z dX7_write_174 rfl ?_
        refine g_aload_n Z dX7_write_175 rfl ?_
        refine m_ref_ky Z in6 lk13 dX7_write_176 ?_
        refine g_bipush (v := 6) Z dX7_write_179 (by decide) ?_
        refine g_iload_n Z dX7_write_181 rfl ?_
        refine g_imul Z dX7_write_182 ?_
        refine g_iload Z dX7_write_183 rfl ?_
        refine g_iadd Z dX7_write_185 ?_
        rw [ix6]
        refine m_ald_ky Z ho dX7_write_186 (by exact vp_in_nI (by omega) (by decide)) ?_
        rw [nI_clamp (by omega)]
        refine g_iconst (v := 2) Z dX7_write_187 (by decide) ?_
        refine g_cvV Z (c_X7_put F.l F.D F.cy F.nw A x ho _ _ w4 _ w3 _ 2 (by omega)) 2 gX7_write_X7_put rfl (by decide +kernel) (by rw [hRf, hRl]; decide) (by exact mP_x) (κ := 6) (by exact mP_Kx) rfl (by decide) rfl rfl (Nat.le_of_ble_eq_true rfl) dX7_write_188 (by rw [hRc, hRs]; omega) (fun T hp => ?_)
        obtain ⟨W2, rfl, q1, q2, q3, q4⟩ := hp
        refine g_aload_n Z dX7_write_191 rfl ?_
        refine g_aload_n Z dX7_write_192 rfl ?_
        refine m_ref_sz Z in6 lk19 dX7_write_193 ?_
        refine g_bipush (v := 6) Z dX7_write_196 (by decide) ?_
        refine g_iload_n Z dX7_write_198 rfl ?_
        refine g_imul Z dX7_write_199 ?_
        refine g_iload Z dX7_write_200 rfl ?_
        refine g_iadd Z dX7_write_202 ?_
        rw [ix6]
        refine m_ald_sz Z ho dX7_write_203 (by exact vp_in_nI (by omega) (by decide)) ?_
        rw [nI_clamp (by omega)]
        refine g_iconst (v := 1) Z dX7_write_204 (by decide) ?_
        refine g_isub Z dX7_write_205 ?_
        refine g_iconst (v := 2) Z dX7_write_206 (by decide) ?_
        refine g_cvV Z (c_X7_put F.l F.D F.cy F.nw A x ho _ _ q4 _ q3 _ 2 (by omega)) 2 gX7_write_X7_put rfl (by decide +kernel) (by rw [hRf, hRl]; decide) (by exact mP_x) (κ := 6) (by exact mP_Kx) rfl (by decide) rfl rfl (Nat.le_of_ble_eq_true rfl) dX7_write_207 (by rw [hRc, hRs]; omega) (fun T hp => ?_)
        obtain ⟨W3, rfl, u1, u2, u3, u4⟩ := hp
        refine g_iinc (c := 1) Z dX7_write_210 rfl (by decide) (by decide) ?_
        rw [nI_1]
        refine g_goto Z 168 dX7_write_213 (by decide) ?_
        exact g_lv (by (repeat (first | exact trivial | refine And.intro rfl ?_)); done) (ih (k + 1) W3 (by omega) ⟨by omega, u1.trans (q1.trans w1), u2.trans (q2.trans w2), u3.trans (congrArg nI (by omega)), u4⟩)
  have bts : ∀ (s n0 : Nat), s < 8 → n0 ≤ 6 → C.mn s = nI n0 → (∀ i, i < n0 → gc C (6 * s + i)) → hdO C s n0 + lS C s n0 ≤ 60000 → ∀ (n k : Nat) (y : Int32) (W : MR), n0 - k < n → k ≤ n0 → ¬ hasR C s n0 = 0 → Wr R W 4 → G F 7 (mP A x (C, W)) 0 0 (QI F (fun _ T => ∃ Q, mP A x (C, Q) = T ∧ InvR Q ∧ Q.wk = R.wk) 0 0) 100 [(0, .ref x), (1, .int (nI s)), (2, .int (nI n0)), (4, .int (nI (hasR C s n0))), (5, .int y), (6, .int (nI k))] [] := by
    intro s n0 hs hn0 en hg hL
    intro n
    induction n with
    | zero => intros; omega
    | succ n ih =>
      intro k y W hn hk e0 ⟨w1, w2, w3, w4⟩
      refine g_iload Z dX7_write_100 rfl ?_
      refine g_iload_n Z dX7_write_102 rfl ?_
      refine g_icmp_ge Z 141 dX7_write_103 (by decide) (fun h103 => ?_) (fun h103 => ?_)
      · refine g_aload_n Z dX7_write_141 rfl ?_
        refine g_iload Z dX7_write_142 rfl ?_
        refine g_iconst (v := 1) Z dX7_write_144 (by decide) ?_
        refine g_cvV Z (c_X7_put F.l F.D F.cy F.nw A x ho _ _ w4 4 w3 _ 1 (by omega)) 2 gX7_write_X7_put rfl (by decide +kernel) (by rw [hRf, hRl]; decide) (by exact mP_x) (κ := 6) (by exact mP_Kx) rfl (by decide) rfl rfl (Nat.le_of_ble_eq_true rfl) dX7_write_145 (by rw [hRc, hRs]; omega) (fun T hp => ?_)
        obtain ⟨W2, rfl, q1, q2, q3, q4⟩ := hp
        refine g_goto Z 165 dX7_write_148 (by decide) ?_
        refine g_iconst (v := 0) Z dX7_write_165 (by decide) ?_
        refine g_istore Z dX7_write_166 (by decide) ?_
        exact g_lv (by (repeat (first | exact trivial | refine And.intro rfl ?_)); done) (kys s n0 hs hn0 en hg hL (n0 + 1) 0 W2 (by omega) ⟨by omega, q1.trans w1, q2.trans w2, by rw [if_neg e0]; exact q3, q4⟩)
      · have hlt : k < n0 := ge_f (by omega) (by omega) h103
        refine g_iload Z dX7_write_106 rfl ?_
        refine g_aload_n Z dX7_write_108 rfl ?_
        refine m_ref_kd Z in6 lk16 dX7_write_109 ?_
        refine g_bipush (v := 6) Z dX7_write_112 (by decide) ?_
        refine g_iload_n Z dX7_write_114 rfl ?_
        refine g_imul Z dX7_write_115 ?_
        refine g_iload Z dX7_write_116 rfl ?_
        refine g_iadd Z dX7_write_118 ?_
        rw [ix6]
        refine m_ald_kd Z ho dX7_write_119 (by exact vp_in_nI (by omega) (by decide)) ?_
        rw [nI_clamp (by omega)]
        refine g_iconst (v := 2) Z dX7_write_120 (by decide) ?_
        refine g_icmp_ne Z 131 dX7_write_121 (by decide) (fun h121 => ?_) (fun h121 => ?_)
        · refine g_iconst (v := 0) Z dX7_write_131 (by decide) ?_
          refine g_iadd Z dX7_write_132 ?_
          refine g_istore Z dX7_write_133 (by decide) ?_
          refine g_iinc (c := 1) Z dX7_write_135 rfl (by decide) (by decide) ?_
          rw [nI_1]
          refine g_goto Z 100 dX7_write_138 (by decide) ?_
          exact g_lv (by (repeat (first | exact trivial | refine And.intro rfl ?_)); done) (ih (k + 1) _ W (by omega) (by omega) e0 ⟨w1, w2, w3, w4⟩)
        · refine g_iconst (v := 1) Z dX7_write_124 (by decide) ?_
          refine g_iload Z dX7_write_125 rfl ?_
          refine g_ishl Z dX7_write_127 ?_
          refine g_goto Z 132 dX7_write_128 (by decide) ?_
          refine g_iadd Z dX7_write_132 ?_
          refine g_istore Z dX7_write_133 (by decide) ?_
          refine g_iinc (c := 1) Z dX7_write_135 rfl (by decide) (by decide) ?_
          rw [nI_1]
          refine g_goto Z 100 dX7_write_138 (by decide) ?_
          exact g_lv (by (repeat (first | exact trivial | refine And.intro rfl ?_)); done) (ih (k + 1) _ W (by omega) (by omega) e0 ⟨w1, w2, w3, w4⟩)
  have len : ∀ (s n0 : Nat), s < 8 → n0 ≤ 6 → C.mn s = nI n0 → (∀ i, i < n0 → gc C (6 * s + i)) → ∀ (n k : Nat), n0 - k < n → k ≤ n0 → G F 7 (mP A x (C, R)) 0 0 (QI F (fun _ T => ∃ Q, mP A x (C, Q) = T ∧ InvR Q ∧ Q.wk = R.wk) 0 0) 26 [(0, .ref x), (1, .int (nI s)), (2, .int (nI n0)), (3, .int (nI (hdO C s n0 + lS C s k))), (4, .int (nI k))] [] := by
    intro s n0 hs hn0 en hg n
    have hh1 := h01 s n0
    have hhd : hdO C s n0 ≤ 56 := by unfold hdO; split <;> split <;> omega
    induction n with
    | zero => intros; omega
    | succ n ih =>
      intro k hn hk
      have hlk := lS_le C s k
      have w4 : Bt (R.s_ou 0) := hRi.2
      have w3 : (R.s_ou 0).ou = nI 0 := rfl
      refine g_iload Z dX7_write_26 rfl ?_
      refine g_iload_n Z dX7_write_28 rfl ?_
      refine g_icmp_ge Z 52 dX7_write_29 (by decide) (fun h29 => ?_) (fun h29 => ?_)
      · have he : k = n0 := by have := ge_t (i := k) (N := n0) (by omega) (by omega) h29; omega
        subst he
        refine g_iload_n Z dX7_write_52 rfl ?_
        refine g_ldc (v := 60000) Z dX7_write_53 ct31 ?_
        refine g_icmp_le Z 61 dX7_write_55 (by decide) (fun h55 => ?_) (fun h55 => ?_)
        · have hL : hdO C s k + lS C s k ≤ 60000 := le_t (N := 60000) (by omega) (by decide) h55
          refine g_aload_n Z dX7_write_61 rfl ?_
          refine g_iconst (v := 0) Z dX7_write_62 (by decide) ?_
          refine m_put_ou Z in6 lk153 dX7_write_63 ?_
          refine g_aload_n Z dX7_write_66 rfl ?_
          refine g_iload_n Z dX7_write_67 rfl ?_
          refine g_cvI Z (c_X7_hasRuns F.l F.D F.cy F.nw A x ho _ _ s hs k hn0 en) 1 gX7_write_X7_hasRuns rfl (by decide +kernel) (by rw [hRf, hRl]; decide) (by exact mP_x) (κ := 6) (by exact mP_Kx) rfl (by decide) rfl rfl (Nat.le_of_ble_eq_true rfl) dX7_write_68 (by rw [hRc, hRs]; omega) (fun r T hp => ?_)
          obtain ⟨rfl, rfl⟩ := hp
          refine g_istore Z dX7_write_71 (by decide) ?_
          refine g_iload Z dX7_write_73 rfl ?_
          refine g_if_eq Z 151 dX7_write_75 (by decide) (fun h75 => ?_) (fun h75 => ?_)
          · have e0 : hasR C s k = 0 := (nI_eq (b := 0) (by omega) (by decide)).mp h75
            refine g_aload_n Z dX7_write_151 rfl ?_
            refine g_sipush (v := 12346) Z dX7_write_152 (by decide) ?_
            refine g_iconst (v := 4) Z dX7_write_155 (by decide) ?_
            refine g_cvV Z (c_X7_put F.l F.D F.cy F.nw A x ho _ _ w4 0 w3 _ 4 (by omega)) 2 gX7_write_X7_put rfl (by decide +kernel) (by rw [hRf, hRl]; decide) (by exact mP_x) (κ := 6) (by exact mP_Kx) rfl (by decide) rfl rfl (Nat.le_of_ble_eq_true rfl) dX7_write_156 (by rw [hRc, hRs]; omega) (fun T hp => ?_)
            obtain ⟨W2, rfl, q1, q2, q3, q4⟩ := hp
            refine g_aload_n Z dX7_write_159 rfl ?_
            refine g_iload_n Z dX7_write_160 rfl ?_
            refine g_iconst (v := 4) Z dX7_write_161 (by decide) ?_
            refine g_cvV Z (c_X7_put F.l F.D F.cy F.nw A x ho _ _ q4 (0 + 4) q3 _ 4 (by omega)) 2 gX7_write_X7_put rfl (by decide +kernel) (by rw [hRf, hRl]; decide) (by exact mP_x) (κ := 6) (by exact mP_Kx) rfl (by decide) rfl rfl (Nat.le_of_ble_eq_true rfl) dX7_write_162 (by rw [hRc, hRs]; omega) (fun T hp => ?_)
            obtain ⟨W3, rfl, u1, u2, u3, u4⟩ := hp
            refine g_iconst (v := 0) Z dX7_write_165 (by decide) ?_
            refine g_istore Z dX7_write_166 (by decide) ?_
            exact g_lv (by (repeat (first | exact trivial | refine And.intro rfl ?_)); done) (kys s k hs hn0 en hg hL (k + 1) 0 W3 (by omega) ⟨by omega, u1.trans q1, u2.trans q2, by rw [if_pos e0]; exact u3, u4⟩)
          · have e0 : ¬ hasR C s k = 0 := fun e => h75 (by rw [e]; rfl)
            refine g_aload_n Z dX7_write_78 rfl ?_
            refine g_sipush (v := 12347) Z dX7_write_79 (by decide) ?_
            refine g_iconst (v := 2) Z dX7_write_82 (by decide) ?_
            refine g_cvV Z (c_X7_put F.l F.D F.cy F.nw A x ho _ _ w4 0 w3 _ 2 (by omega)) 2 gX7_write_X7_put rfl (by decide +kernel) (by rw [hRf, hRl]; decide) (by exact mP_x) (κ := 6) (by exact mP_Kx) rfl (by decide) rfl rfl (Nat.le_of_ble_eq_true rfl) dX7_write_83 (by rw [hRc, hRs]; omega) (fun T hp => ?_)
            obtain ⟨W2, rfl, q1, q2, q3, q4⟩ := hp
            refine g_aload_n Z dX7_write_86 rfl ?_
            refine g_iload_n Z dX7_write_87 rfl ?_
            refine g_iconst (v := 1) Z dX7_write_88 (by decide) ?_
            refine g_isub Z dX7_write_89 ?_
            refine g_iconst (v := 2) Z dX7_write_90 (by decide) ?_
            refine g_cvV Z (c_X7_put F.l F.D F.cy F.nw A x ho _ _ q4 (0 + 2) q3 _ 2 (by omega)) 2 gX7_write_X7_put rfl (by decide +kernel) (by rw [hRf, hRl]; decide) (by exact mP_x) (κ := 6) (by exact mP_Kx) rfl (by decide) rfl rfl (Nat.le_of_ble_eq_true rfl) dX7_write_91 (by rw [hRc, hRs]; omega) (fun T hp => ?_)
            obtain ⟨W3, rfl, u1, u2, u3, u4⟩ := hp
            refine g_iconst (v := 0) Z dX7_write_94 (by decide) ?_
            refine g_istore Z dX7_write_95 (by decide) ?_
            refine g_iconst (v := 0) Z dX7_write_97 (by decide) ?_
            refine g_istore Z dX7_write_98 (by decide) ?_
            exact g_lv (by (repeat (first | exact trivial | refine And.intro rfl ?_)); done) (bts s k hs hn0 en hg hL (k + 1) 0 _ W3 (by omega) (by omega) e0 ⟨u1.trans q1, u2.trans q2, u3, u4⟩)
        · refine g_bipush (v := (-4)) Z dX7_write_58 (by decide) ?_
          exact g_iret Z dX7_write_60 (by omega) (by omega) (⟨R, rfl, hRi, rfl⟩)
      · have hlt : k < n0 := ge_f (by omega) (by omega) h29
        refine g_iload_n Z dX7_write_32 rfl ?_
        refine g_aload_n Z dX7_write_33 rfl ?_
        refine g_bipush (v := 6) Z dX7_write_34 (by decide) ?_
        refine g_iload_n Z dX7_write_36 rfl ?_
        refine g_imul Z dX7_write_37 ?_
        refine g_iload Z dX7_write_38 rfl ?_
        refine g_iadd Z dX7_write_40 ?_
        rw [ix6]
        refine g_cvI Z (c_X7_lengthOf F.l F.D F.cy F.nw A x ho _ _ _ (by omega) (hg k hlt)) 1 gX7_write_X7_lengthOf rfl (by decide +kernel) (by rw [hRf, hRl]; decide) (by exact mP_x) (κ := 6) (by exact mP_Kx) rfl (by decide) rfl rfl (Nat.le_of_ble_eq_true rfl) dX7_write_41 (by rw [hRc, hRs]; omega) (fun r T hp => ?_)
        obtain ⟨rfl, rfl⟩ := hp
        refine g_iadd Z dX7_write_44 ?_
        rw [nI_add, show hdO C s n0 + lS C s k + lO C (6 * s + k) = hdO C s n0 + lS C s (k + 1) from Nat.add_assoc _ _ _]
        refine g_istore_n Z dX7_write_45 (by decide) ?_
        refine g_iinc (c := 1) Z dX7_write_46 rfl (by decide) (by decide) ?_
        rw [nI_1]
        refine g_goto Z 26 dX7_write_49 (by decide) ?_
        exact g_lv (by (repeat (first | exact trivial | refine And.intro rfl ?_)); done) (ih (k + 1) (by omega) (by omega))
  refine g_iload_n Z dX7_write_0 rfl ?_
  refine g_csI Z (c_X7_isSet F.l F.D F.cy F.nw _ _) 1 gX7_write_X7_isSet rfl (by decide +kernel) (by rw [hRf, hRl]; decide) rfl rfl (Nat.le_of_ble_eq_true rfl) dX7_write_1 (by rw [hRc, hRs]; omega) (fun r T hp => ?_)
  obtain ⟨rfl, his⟩ := hp
  refine g_if_ne Z 10 dX7_write_4 (by decide) (fun h4 => ?_) (fun h4 => ?_)
  · obtain ⟨s, hs, rfl⟩ := his.is h4
    obtain ⟨n0, hn0, en, hg⟩ := hI.2 s (by omega)
    refine g_aload_n Z dX7_write_10 rfl ?_
    refine m_ref_mn Z in6 lk7 dX7_write_11 ?_
    refine g_iload_n Z dX7_write_14 rfl ?_
    refine m_ald_mn Z ho dX7_write_15 (by exact vp_in_nI (by omega) (by decide)) ?_
    rw [nI_clamp (by omega), en]
    refine g_istore_n Z dX7_write_16 (by decide) ?_
    refine g_aload_n Z dX7_write_17 rfl ?_
    refine g_iload_n Z dX7_write_18 rfl ?_
    refine g_cvI Z (c_X7_headOf F.l F.D F.cy F.nw A x ho _ _ s (by omega) n0 hn0 en) 1 gX7_write_X7_headOf rfl (by decide +kernel) (by rw [hRf, hRl]; decide) (by exact mP_x) (κ := 6) (by exact mP_Kx) rfl (by decide) rfl rfl (Nat.le_of_ble_eq_true rfl) dX7_write_19 (by rw [hRc, hRs]; omega) (fun r2 T2 hp => ?_)
    obtain ⟨rfl, rfl⟩ := hp
    refine g_istore_n Z dX7_write_22 (by decide) ?_
    refine g_iconst (v := 0) Z dX7_write_23 (by decide) ?_
    refine g_istore Z dX7_write_24 (by decide) ?_
    exact g_lv (by (repeat (first | exact trivial | refine And.intro rfl ?_)); done) (len s n0 (by omega) hn0 en hg (n0 + 1) 0 (by omega) (by omega))
  · refine g_bipush (v := (-2)) Z dX7_write_7 (by decide) ?_
    exact g_iret Z dX7_write_9 (by omega) (by omega) (⟨R, rfl, hRi, rfl⟩)
