theorem lO_bo {C : C5} {c : Nat} {a : Cn} (h : Mc C c a) : lO C c = boN a := by
  unfold lO boN
  rw [h.2.1, cnt_tot h.2.2.2, (rn_congr 65536 h.2.2.2).1, ← rnT_eq]
theorem Mc.gc {C : C5} {c : Nat} {a : Cn} (h : Mc C c a) : gc C c := by
  show C.sz c = _
  rw [h.2.2.1, cnt_tot h.2.2.2]
theorem cK_kN {C : C5} {s : Nat} {V : Sv} (h : Ms C s V) : ∀ k, k ≤ V.1 → cK C s k = kN V 2 k
  | 0, _ => rfl
  | k + 1, hk => by
    have h1 := cK_kN h k (by omega)
    have h2 := (h.mc (i := k) (by omega)).2.1
    show cK C s k + (if C.kd (6 * s + k) = 2 then 1 else 0) = (if (V.2 k).2.1 = 2 then kN V 2 k + 1 else kN V 2 k)
    rw [h1, h2]
    by_cases e : (V.2 k).2.1 = 2
    · rw [if_pos e, if_pos e]
    · rw [if_neg e, if_neg e, Nat.add_zero]
theorem hasR_hs {C : C5} {s : Nat} {V : Sv} (h : Ms C s V) : hasR C s V.1 = hsR V := by
  unfold hasR hsR
  rw [cK_kN h V.1 (Nat.le_refl _)]
theorem hdO_hd {C : C5} {s : Nat} {V : Sv} (h : Ms C s V) : hdO C s V.1 = hdN V := by
  unfold hdO hdN
  rw [hasR_hs h]
theorem hs1 (V : Sv) : hsR V ≤ 1 := by
  unfold hsR
  split <;> omega
theorem boS_mn (V : Sv) {j k : Nat} (h : j ≤ k) : boS V boN j ≤ boS V boN k := by
  induction k with
  | zero => rw [Nat.le_zero.mp h]; exact Nat.le_refl _
  | succ k ih =>
    by_cases e : j = k + 1
    · rw [e]; exact Nat.le_refl _
    · have := ih (by omega); show _ ≤ boS V boN k + boN (V.2 k); omega
theorem kN_pos {V : Sv} (h : ¬ hsR V = 0) : 0 < V.1 := by
  unfold hsR at h
  by_cases e : 0 < kN V 2 V.1
  · have := kN_le V 2 V.1; omega
  · rw [if_neg e] at h; exact absurd rfl h
/-- what a write leaves -/
def WrP (R Q : MR) (Y : List Nat) : Prop := Q.wk = R.wk ∧ Q.fa = R.fa ∧ Q.si = nI Y.length ∧ ∀ i, i < Y.length → Y.getD i 0 < 256 ∧ Q.bt i = nI (Y.getD i 0)

theorem ifnil {p : Prop} [Decidable p] {V : Sv} : (if p then plP V 0 else []) = [] := by
  split <;> rfl
theorem sh1k : ∀ k, k < 6 → (1 : Int32) <<< (nI k &&& 31) = nI (2 ^ k) := by decide +kernel

set_option maxRecDepth 100000 in
set_option maxHeartbeats 2000000 in
/-- a set is written -/
theorem f_X7_write (l : Launch) (D : va_G) (cy : Nat → ClassId) (nw : Nat) (A : Nat → Nat) (x : Nat) (ho : mOk A x) (C : C5) (R : MR) (V : Nat → Sv) (hM : MV C V) (hV : ∀ s, s < 8 → Vok (V s)) (a : Int32) : kI l yX7_write wsX7_write 5 113 D cy nw [.ref x, .int a] (mP A x (C, R)) (fun r T => (∃ s, s < 8 ∧ a = nI s ∧ (((seL (V s)).length ≤ 60000 ∧ r = nI (seL (V s)).length ∧ ∃ Q, mP A x (C, Q) = T ∧ WrP R Q (seL (V s))) ∨ (¬ (seL (V s)).length ≤ 60000 ∧ r = -4 ∧ (mP A x (C, R)) = T))) ∨ (¬ isS a ∧ r = -2 ∧ (mP A x (C, R)) = T)) 0 0 := by
  refine enterI (cc := cX7_write) (nL := 7) (ret := (some .int)) (by decide +kernel) rfl (Nat.le_of_ble_eq_true rfl) ?_
  intro F Z hl hR hD hcy hnw hnm
  subst hl hD hcy hnw
  have hRf : F.R.frames = 5 := by rw [hR]
  have hRc : F.R.cells = 0 := by rw [hR]
  have hRs : F.R.slots = 0 := by rw [hR]
  have hRl : F.R.locals = 113 := by rw [hR]
  have in6 : ∀ w ∈ u_ws RX7 TX7 16, w ∈ wsX7_write := by decide +kernel
  have lk7 : Cond.fieldLink RX7 7 (TX7 0).1 (TX7 0).2.1 (TX7 0).2.2.1 ∈ wsX7_write := by decide +kernel
  have lk13 : Cond.fieldLink RX7 13 (TX7 1).1 (TX7 1).2.1 (TX7 1).2.2.1 ∈ wsX7_write := by decide +kernel
  have lk16 : Cond.fieldLink RX7 16 (TX7 2).1 (TX7 2).2.1 (TX7 2).2.2.1 ∈ wsX7_write := by decide +kernel
  have lk19 : Cond.fieldLink RX7 19 (TX7 3).1 (TX7 3).2.1 (TX7 3).2.2.1 ∈ wsX7_write := by decide +kernel
  have lk153 : Cond.fieldLink RX7 153 (TX7 8).1 (TX7 8).2.1 (TX7 8).2.2.1 ∈ wsX7_write := by decide +kernel
  have lk174 : Cond.fieldLink RX7 174 (TX7 6).1 (TX7 6).2.1 (TX7 6).2.2.1 ∈ wsX7_write := by decide +kernel
  have ct31 : Cond.constant RX7 31 (60000) ∈ wsX7_write := by decide +kernel
  have fin : ∀ (s : Nat), s < 8 → a = nI s → (seL (V s)).length ≤ 60000 → ∀ (n k : Nat) (W : MR), (V s).1 - k < n → (k ≤ (V s).1 ∧ Wy R W ((mkL (V s) ++ kyP (V s) (V s).1 ++ (if hsP (V s) then plP (V s) (V s).1 else [])) ++ bdP (V s) k)) → G F 7 (mP A x (C, W)) 0 0 (QI F (fun r T => (∃ s, s < 8 ∧ a = nI s ∧ (((seL (V s)).length ≤ 60000 ∧ r = nI (seL (V s)).length ∧ ∃ Q, mP A x (C, Q) = T ∧ WrP R Q (seL (V s))) ∨ (¬ (seL (V s)).length ≤ 60000 ∧ r = -4 ∧ (mP A x (C, R)) = T))) ∨ (¬ isS a ∧ r = -2 ∧ (mP A x (C, R)) = T)) 0 0) 274 [(0, .ref x), (1, .int (nI s)), (2, .int (nI (V s).1)), (6, .int (nI k))] [] := by
    intro s hs ea hL
    have hms := hM s hs
    have hvk := hV s hs
    have hn6 := hms.1
    have en := hms.2.1
    have hlen := seL_len (V s)
    have hh1 := hs1 (V s)
    have ehd : hdN (V s) = (if hsR (V s) = 0 then 8 else 5) + 4 * (V s).1 + (if hsP (V s) then 4 * (V s).1 else 0) := rfl
    have e8 : (if hsR (V s) = 0 then 8 else 5) ≤ 8 := by split <;> omega
    have hmk := mkL_len (V s)
    have hmk5 : 5 ≤ (if hsR (V s) = 0 then 8 else 5) := by split <;> omega
    have hX : (mkL (V s) ++ kyP (V s) (V s).1 ++ (if hsP (V s) then plP (V s) (V s).1 else [])).length = hdN (V s) := by
      rw [List.length_append, List.length_append, kyP_len, hmk, ehd]
      by_cases e : hsP (V s)
      · rw [if_pos e, if_pos e, plP_len]
      · rw [if_neg e, if_neg e]; rfl
    intro n
    induction n with
    | zero => intros; omega
    | succ n ih =>
      intro k W hn ⟨hk, hW⟩
      refine g_iload Z dX7_write_274 rfl ?_
      refine g_iload_n Z dX7_write_276 rfl ?_
      refine g_icmp_ge Z 297 dX7_write_277 (by decide) (fun h277 => ?_) (fun h277 => ?_)
      · have he : k = (V s).1 := by have := ge_t (i := k) (N := (V s).1) (by omega) (by omega) h277; omega
        subst he
        have hW2 : Wy R W (seL (V s)) := hW
        obtain ⟨w1, w2, w3, w4, w5⟩ := hW2
        refine g_aload_n Z dX7_write_297 rfl ?_
        refine g_aload_n Z dX7_write_298 rfl ?_
        refine m_get_ou Z in6 lk153 dX7_write_299 ?_
        rw [w4]
        refine m_put_si Z in6 lk174 dX7_write_302 ?_
        refine g_aload_n Z dX7_write_305 rfl ?_
        refine m_get_si Z in6 lk174 dX7_write_306 ?_
        exact g_iret Z dX7_write_309 (by omega) (by omega) (Or.inl ⟨s, hs, ea, Or.inl ⟨hL, rfl, _, rfl, w1, w3, rfl, w5⟩⟩)
      · have hlt : k < (V s).1 := ge_f (by omega) (by omega) h277
        have hmo := boS_mn (V s) (show k + 1 ≤ (V s).1 by omega)
        have hst : boS (V s) boN (k + 1) = boS (V s) boN k + boN ((V s).2 k) := rfl
        refine g_aload_n Z dX7_write_280 rfl ?_
        refine g_bipush (v := 6) Z dX7_write_281 (by decide) ?_
        refine g_iload_n Z dX7_write_283 rfl ?_
        refine g_imul Z dX7_write_284 ?_
        refine g_iload Z dX7_write_285 rfl ?_
        refine g_iadd Z dX7_write_287 ?_
        rw [ix6]
        refine g_cvV Z (f_X7_writeOne F.l F.D F.cy F.nw A x ho C _ R ((mkL (V s) ++ kyP (V s) (V s).1 ++ (if hsP (V s) then plP (V s) (V s).1 else [])) ++ bdP (V s) k) hW (6 * s + k) (by omega) ((V s).2 k) (hms.mc hlt) (hvk.2.2 k hlt).2.2 (by rw [List.length_append, hX, bdP_len]; omega)) 1 gX7_write_X7_writeOne rfl (by decide +kernel) (by rw [hRf, hRl]; decide) (by exact mP_x) (κ := 6) (by exact mP_Kx) rfl (by decide) rfl rfl (Nat.le_of_ble_eq_true rfl) dX7_write_288 (by rw [hRc, hRs]; omega) (fun T hp => ?_)
        obtain ⟨W2, rfl, hq⟩ := hp
        rw [List.append_assoc] at hq
        refine g_iinc (c := 1) Z dX7_write_291 rfl (by decide) (by decide) ?_
        rw [nI_1]
        refine g_goto Z 274 dX7_write_294 (by decide) ?_
        exact g_lv (by (repeat (first | exact trivial | refine And.intro rfl ?_)); done) (ih (k + 1) W2 (by omega) ⟨by omega, hq⟩)
  have pls : ∀ (s : Nat), s < 8 → a = nI s → (seL (V s)).length ≤ 60000 → ∀ (n k : Nat) (W : MR), (V s).1 - k < n → (k ≤ (V s).1 ∧ Wy R W (mkL (V s) ++ kyP (V s) (V s).1 ++ (if hsP (V s) then plP (V s) k else []))) → G F 7 (mP A x (C, W)) 0 0 (QI F (fun r T => (∃ s, s < 8 ∧ a = nI s ∧ (((seL (V s)).length ≤ 60000 ∧ r = nI (seL (V s)).length ∧ ∃ Q, mP A x (C, Q) = T ∧ WrP R Q (seL (V s))) ∨ (¬ (seL (V s)).length ≤ 60000 ∧ r = -4 ∧ (mP A x (C, R)) = T))) ∨ (¬ isS a ∧ r = -2 ∧ (mP A x (C, R)) = T)) 0 0) 226 [(0, .ref x), (1, .int (nI s)), (2, .int (nI (V s).1)), (4, .int (nI (hsR (V s)))), (5, .int (nI (hdN (V s) + boS (V s) boN k))), (6, .int (nI k))] [] := by
    intro s hs ea hL
    have hms := hM s hs
    have hvk := hV s hs
    have hn6 := hms.1
    have en := hms.2.1
    have hlen := seL_len (V s)
    have hh1 := hs1 (V s)
    have ehd : hdN (V s) = (if hsR (V s) = 0 then 8 else 5) + 4 * (V s).1 + (if hsP (V s) then 4 * (V s).1 else 0) := rfl
    have e8 : (if hsR (V s) = 0 then 8 else 5) ≤ 8 := by split <;> omega
    have hmk := mkL_len (V s)
    have hmk5 : 5 ≤ (if hsR (V s) = 0 then 8 else 5) := by split <;> omega
    intro n
    induction n with
    | zero => intros; omega
    | succ n ih =>
      intro k W hn ⟨hk, hW⟩
      have jgo : k < (V s).1 → hsP (V s) → G F 7 (mP A x (C, W)) 0 0 (QI F (fun r T => (∃ s, s < 8 ∧ a = nI s ∧ (((seL (V s)).length ≤ 60000 ∧ r = nI (seL (V s)).length ∧ ∃ Q, mP A x (C, Q) = T ∧ WrP R Q (seL (V s))) ∨ (¬ (seL (V s)).length ≤ 60000 ∧ r = -4 ∧ (mP A x (C, R)) = T))) ∨ (¬ isS a ∧ r = -2 ∧ (mP A x (C, R)) = T)) 0 0) 242 [(0, .ref x), (1, .int (nI s)), (2, .int (nI (V s).1)), (4, .int (nI (hsR (V s)))), (5, .int (nI (hdN (V s) + boS (V s) boN k))), (6, .int (nI k))] [] := by
        intro hlt hor
        rw [if_pos hor] at hW ehd
        have hly : (mkL (V s) ++ kyP (V s) (V s).1 ++ plP (V s) k).length = (if hsR (V s) = 0 then 8 else 5) + 4 * (V s).1 + 4 * k := by rw [List.length_append, List.length_append, kyP_len, plP_len, hmk]
        refine g_aload_n Z dX7_write_242 rfl ?_
        refine g_iload Z dX7_write_243 rfl ?_
        refine g_iconst (v := 4) Z dX7_write_245 (by decide) ?_
        refine g_cvV Z (f_X7_put F.l F.D F.cy F.nw A x ho C _ R (mkL (V s) ++ kyP (V s) (V s).1 ++ plP (V s) k) hW (hdN (V s) + boS (V s) boN k) 4 (by decide) (by omega)) 2 gX7_write_X7_put rfl (by decide +kernel) (by rw [hRf, hRl]; decide) (by exact mP_x) (κ := 6) (by exact mP_Kx) rfl (by decide) rfl rfl (Nat.le_of_ble_eq_true rfl) dX7_write_246 (by rw [hRc, hRs]; omega) (fun T hp => ?_)
        obtain ⟨W2, rfl, hq⟩ := hp
        refine g_iload Z dX7_write_249 rfl ?_
        refine g_aload_n Z dX7_write_251 rfl ?_
        refine g_bipush (v := 6) Z dX7_write_252 (by decide) ?_
        refine g_iload_n Z dX7_write_254 rfl ?_
        refine g_imul Z dX7_write_255 ?_
        refine g_iload Z dX7_write_256 rfl ?_
        refine g_iadd Z dX7_write_258 ?_
        rw [ix6]
        refine g_cvI Z (c_X7_lengthOf F.l F.D F.cy F.nw A x ho _ _ _ (by omega) (hms.mc hlt).gc) 1 gX7_write_X7_lengthOf rfl (by decide +kernel) (by rw [hRf, hRl]; decide) (by exact mP_x) (κ := 6) (by exact mP_Kx) rfl (by decide) rfl rfl (Nat.le_of_ble_eq_true rfl) dX7_write_259 (by rw [hRc, hRs]; omega) (fun r T hp => ?_)
        obtain ⟨rfl, rfl⟩ := hp
        rw [lO_bo (hms.mc hlt)]
        refine g_iadd Z dX7_write_262 ?_
        rw [nI_add, show hdN (V s) + boS (V s) boN k + boN ((V s).2 k) = hdN (V s) + boS (V s) boN (k + 1) from Nat.add_assoc _ _ _]
        refine g_istore Z dX7_write_263 (by decide) ?_
        refine g_iinc (c := 1) Z dX7_write_265 rfl (by decide) (by decide) ?_
        rw [nI_1]
        refine g_goto Z 226 dX7_write_268 (by decide) ?_
        exact g_lv (by (repeat (first | exact trivial | refine And.intro rfl ?_)); done) (ih (k + 1) W2 (by omega) ⟨by omega, by rw [if_pos hor]; rw [List.append_assoc] at hq; exact hq⟩)
      refine g_iload Z dX7_write_226 rfl ?_
      refine g_iload_n Z dX7_write_228 rfl ?_
      refine g_icmp_ge Z 271 dX7_write_229 (by decide) (fun h229 => ?_) (fun h229 => ?_)
      · have he : k = (V s).1 := by have := ge_t (i := k) (N := (V s).1) (by omega) (by omega) h229; omega
        subst he
        refine g_iconst (v := 0) Z dX7_write_271 (by decide) ?_
        refine g_istore Z dX7_write_272 (by decide) ?_
        exact g_lv (by (repeat (first | exact trivial | refine And.intro rfl ?_)); done) (fin s hs ea hL ((V s).1 + 1) 0 W (by omega) ⟨by omega, by show Wy R W ((mkL (V s) ++ kyP (V s) (V s).1 ++ (if hsP (V s) then plP (V s) (V s).1 else [])) ++ []); rw [List.append_nil]; exact hW⟩)
      · have hlt : k < (V s).1 := ge_f (by omega) (by omega) h229
        refine g_iload Z dX7_write_232 rfl ?_
        refine g_if_eq Z 242 dX7_write_234 (by decide) (fun h234 => ?_) (fun h234 => ?_)
        · have e0 : hsR (V s) = 0 := (nI_eq (b := 0) (by omega) (by decide)).mp h234
          first | exact g_lv (by (repeat (first | exact trivial | refine And.intro rfl ?_)); done) (jgo hlt (Or.inl e0)) | exact g_lv (by (repeat (first | exact trivial | refine And.intro rfl ?_)); done) (jgo hlt (Or.inr e4))
        · have e0 : ¬ hsR (V s) = 0 := fun e => h234 (by rw [e]; rfl)
          refine g_iload_n Z dX7_write_237 rfl ?_
          refine g_iconst (v := 4) Z dX7_write_238 (by decide) ?_
          refine g_icmp_lt Z 271 dX7_write_239 (by decide) (fun h239 => ?_) (fun h239 => ?_)
          · have e4 : ¬ 4 ≤ (V s).1 := fun q => absurd (lt_t (N := 4) (by omega) (by decide) h239) (by omega)
            have hnp : ¬ hsP (V s) := fun q => q.elim e0 e4
            rw [if_neg hnp] at hW
            refine g_iconst (v := 0) Z dX7_write_271 (by decide) ?_
            refine g_istore Z dX7_write_272 (by decide) ?_
            exact g_lv (by (repeat (first | exact trivial | refine And.intro rfl ?_)); done) (fin s hs ea hL ((V s).1 + 1) 0 W (by omega) ⟨by omega, by show Wy R W ((mkL (V s) ++ kyP (V s) (V s).1 ++ (if hsP (V s) then plP (V s) (V s).1 else [])) ++ []); rw [List.append_nil]; rw [if_neg hnp]; exact hW⟩)
          · have e4 : 4 ≤ (V s).1 := lt_f (N := 4) (by omega) (by decide) h239
            first | exact g_lv (by (repeat (first | exact trivial | refine And.intro rfl ?_)); done) (jgo hlt (Or.inl e0)) | exact g_lv (by (repeat (first | exact trivial | refine And.intro rfl ?_)); done) (jgo hlt (Or.inr e4))
  have kys : ∀ (s : Nat), s < 8 → a = nI s → (seL (V s)).length ≤ 60000 → ∀ (n k : Nat) (W : MR), (V s).1 - k < n → (k ≤ (V s).1 ∧ Wy R W (mkL (V s) ++ kyP (V s) k)) → G F 7 (mP A x (C, W)) 0 0 (QI F (fun r T => (∃ s, s < 8 ∧ a = nI s ∧ (((seL (V s)).length ≤ 60000 ∧ r = nI (seL (V s)).length ∧ ∃ Q, mP A x (C, Q) = T ∧ WrP R Q (seL (V s))) ∨ (¬ (seL (V s)).length ≤ 60000 ∧ r = -4 ∧ (mP A x (C, R)) = T))) ∨ (¬ isS a ∧ r = -2 ∧ (mP A x (C, R)) = T)) 0 0) 168 [(0, .ref x), (1, .int (nI s)), (2, .int (nI (V s).1)), (4, .int (nI (hsR (V s)))), (5, .int (nI k))] [] := by
    intro s hs ea hL
    have hms := hM s hs
    have hvk := hV s hs
    have hn6 := hms.1
    have en := hms.2.1
    have hlen := seL_len (V s)
    have hh1 := hs1 (V s)
    have ehd : hdN (V s) = (if hsR (V s) = 0 then 8 else 5) + 4 * (V s).1 + (if hsP (V s) then 4 * (V s).1 else 0) := rfl
    have e8 : (if hsR (V s) = 0 then 8 else 5) ≤ 8 := by split <;> omega
    have hmk := mkL_len (V s)
    have hmk5 : 5 ≤ (if hsR (V s) = 0 then 8 else 5) := by split <;> omega
    intro n
    induction n with
    | zero => intros; omega
    | succ n ih =>
      intro k W hn ⟨hk, hW⟩
      have hly : (mkL (V s) ++ kyP (V s) k).length = (if hsR (V s) = 0 then 8 else 5) + 4 * k := by rw [List.length_append, kyP_len, hmk]
      refine g_iload Z dX7_write_168 rfl ?_
      refine g_iload_n Z dX7_write_170 rfl ?_
      refine g_icmp_ge Z 216 dX7_write_171 (by decide) (fun h171 => ?_) (fun h171 => ?_)
      · have he : k = (V s).1 := by have := ge_t (i := k) (N := (V s).1) (by omega) (by omega) h171; omega
        subst he
        refine g_aload_n Z dX7_write_216 rfl ?_
        refine g_iload_n Z dX7_write_217 rfl ?_
        refine g_cvI Z (c_X7_headOf F.l F.D F.cy F.nw A x ho _ _ s hs (V s).1 hn6 en) 1 gX7_write_X7_headOf rfl (by decide +kernel) (by rw [hRf, hRl]; decide) (by exact mP_x) (κ := 6) (by exact mP_Kx) rfl (by decide) rfl rfl (Nat.le_of_ble_eq_true rfl) dX7_write_218 (by rw [hRc, hRs]; omega) (fun r T hp => ?_)
        obtain ⟨rfl, rfl⟩ := hp
        rw [hdO_hd hms]
        refine g_istore Z dX7_write_221 (by decide) ?_
        refine g_iconst (v := 0) Z dX7_write_223 (by decide) ?_
        refine g_istore Z dX7_write_224 (by decide) ?_
        exact g_lv (by (repeat (first | exact trivial | refine And.intro rfl ?_)); done) (pls s hs ea hL ((V s).1 + 1) 0 W (by omega) ⟨by omega, by rw [ifnil, List.append_nil]; exact hW⟩)
      · have hlt : k < (V s).1 := ge_f (by omega) (by omega) h171
        have hmc := hms.mc hlt
        have hpos := (hvk.2.2 k hlt).2.1
        refine g_aload_n Z dX7_write_174 rfl ?_
        refine g_aload_n Z dX7_write_175 rfl ?_
        refine m_ref_ky Z in6 lk13 dX7_write_176 ?_
        refine g_bipush (v := 6) Z dX7_write_179 (by decide) ?_
        refine g_iload_n Z dX7_write_181 rfl ?_
        refine g_imul Z dX7_write_182 ?_
        refine g_iload Z dX7_write_183 rfl ?_
        refine g_iadd Z dX7_write_185 ?_
        rw [ix6]
        refine m_ald_ky Z ho dX7_write_186 (by exact vp_in_nI (by omega) (by decide)) ?_
        rw [nI_clamp (by omega), hmc.1]
        refine g_iconst (v := 2) Z dX7_write_187 (by decide) ?_
        refine g_cvV Z (f_X7_put F.l F.D F.cy F.nw A x ho C _ R (mkL (V s) ++ kyP (V s) k) hW ((V s).2 k).1 2 (by decide) (by omega)) 2 gX7_write_X7_put rfl (by decide +kernel) (by rw [hRf, hRl]; decide) (by exact mP_x) (κ := 6) (by exact mP_Kx) rfl (by decide) rfl rfl (Nat.le_of_ble_eq_true rfl) dX7_write_188 (by rw [hRc, hRs]; omega) (fun T hp => ?_)
        obtain ⟨W2, rfl, hq⟩ := hp
        refine g_aload_n Z dX7_write_191 rfl ?_
        refine g_aload_n Z dX7_write_192 rfl ?_
        refine m_ref_sz Z in6 lk19 dX7_write_193 ?_
        refine g_bipush (v := 6) Z dX7_write_196 (by decide) ?_
        refine g_iload_n Z dX7_write_198 rfl ?_
        refine g_imul Z dX7_write_199 ?_
        refine g_iload Z dX7_write_200 rfl ?_
        refine g_iadd Z dX7_write_202 ?_
        rw [ix6]
        refine m_ald_sz Z ho dX7_write_203 (by exact vp_in_nI (by omega) (by decide)) ?_
        rw [nI_clamp (by omega), hmc.2.2.1]
        refine g_iconst (v := 1) Z dX7_write_204 (by decide) ?_
        refine g_isub Z dX7_write_205 ?_
        rw [show nI (tot ((V s).2 k).2.2) - 1 = nI (tot ((V s).2 k).2.2 - 1) from nI_sb (b := 1) (by omega)]
        refine g_iconst (v := 2) Z dX7_write_206 (by decide) ?_
        refine g_cvV Z (f_X7_put F.l F.D F.cy F.nw A x ho C _ R (mkL (V s) ++ kyP (V s) k ++ byL ((V s).2 k).1 2) hq (tot ((V s).2 k).2.2 - 1) 2 (by decide) (by rw [List.length_append, byL_len]; omega)) 2 gX7_write_X7_put rfl (by decide +kernel) (by rw [hRf, hRl]; decide) (by exact mP_x) (κ := 6) (by exact mP_Kx) rfl (by decide) rfl rfl (Nat.le_of_ble_eq_true rfl) dX7_write_207 (by rw [hRc, hRs]; omega) (fun T hp => ?_)
        obtain ⟨W3, rfl, hq2⟩ := hp
        rw [List.append_assoc, List.append_assoc] at hq2
        refine g_iinc (c := 1) Z dX7_write_210 rfl (by decide) (by decide) ?_
        rw [nI_1]
        refine g_goto Z 168 dX7_write_213 (by decide) ?_
        exact g_lv (by (repeat (first | exact trivial | refine And.intro rfl ?_)); done) (ih (k + 1) W3 (by omega) ⟨by omega, hq2⟩)
  have bts : ∀ (s : Nat), s < 8 → a = nI s → (seL (V s)).length ≤ 60000 → ∀ (n k : Nat) (W : MR), (V s).1 - k < n → k ≤ (V s).1 → ¬ hsR (V s) = 0 → Wy R W (byL 12347 2 ++ byL ((V s).1 - 1) 2) → G F 7 (mP A x (C, W)) 0 0 (QI F (fun r T => (∃ s, s < 8 ∧ a = nI s ∧ (((seL (V s)).length ≤ 60000 ∧ r = nI (seL (V s)).length ∧ ∃ Q, mP A x (C, Q) = T ∧ WrP R Q (seL (V s))) ∨ (¬ (seL (V s)).length ≤ 60000 ∧ r = -4 ∧ (mP A x (C, R)) = T))) ∨ (¬ isS a ∧ r = -2 ∧ (mP A x (C, R)) = T)) 0 0) 100 [(0, .ref x), (1, .int (nI s)), (2, .int (nI (V s).1)), (4, .int (nI (hsR (V s)))), (5, .int (nI (rbN (V s) k))), (6, .int (nI k))] [] := by
    intro s hs ea hL
    have hms := hM s hs
    have hvk := hV s hs
    have hn6 := hms.1
    have en := hms.2.1
    have hlen := seL_len (V s)
    have hh1 := hs1 (V s)
    have ehd : hdN (V s) = (if hsR (V s) = 0 then 8 else 5) + 4 * (V s).1 + (if hsP (V s) then 4 * (V s).1 else 0) := rfl
    have e8 : (if hsR (V s) = 0 then 8 else 5) ≤ 8 := by split <;> omega
    have hmk := mkL_len (V s)
    have hmk5 : 5 ≤ (if hsR (V s) = 0 then 8 else 5) := by split <;> omega
    intro n
    induction n with
    | zero => intros; omega
    | succ n ih =>
      intro k W hn hk e0 hW
      have j132 : ∀ (u : Int32), k < (V s).1 → nI (rbN (V s) k) + u = nI (rbN (V s) (k + 1)) → G F 7 (mP A x (C, W)) 0 0 (QI F (fun r T => (∃ s, s < 8 ∧ a = nI s ∧ (((seL (V s)).length ≤ 60000 ∧ r = nI (seL (V s)).length ∧ ∃ Q, mP A x (C, Q) = T ∧ WrP R Q (seL (V s))) ∨ (¬ (seL (V s)).length ≤ 60000 ∧ r = -4 ∧ (mP A x (C, R)) = T))) ∨ (¬ isS a ∧ r = -2 ∧ (mP A x (C, R)) = T)) 0 0) 132 [(0, .ref x), (1, .int (nI s)), (2, .int (nI (V s).1)), (4, .int (nI (hsR (V s)))), (6, .int (nI k))] [.int u, .int (nI (rbN (V s) k))] := by
        intro u hlt hu
        refine g_iadd Z dX7_write_132 ?_
        rw [hu]
        refine g_istore Z dX7_write_133 (by decide) ?_
        refine g_iinc (c := 1) Z dX7_write_135 rfl (by decide) (by decide) ?_
        rw [nI_1]
        refine g_goto Z 100 dX7_write_138 (by decide) ?_
        exact g_lv (by (repeat (first | exact trivial | refine And.intro rfl ?_)); done) (ih (k + 1) W (by omega) (by omega) e0 hW)
      refine g_iload Z dX7_write_100 rfl ?_
      refine g_iload_n Z dX7_write_102 rfl ?_
      refine g_icmp_ge Z 141 dX7_write_103 (by decide) (fun h103 => ?_) (fun h103 => ?_)
      · have he : k = (V s).1 := by have := ge_t (i := k) (N := (V s).1) (by omega) (by omega) h103; omega
        subst he
        refine g_aload_n Z dX7_write_141 rfl ?_
        refine g_iload Z dX7_write_142 rfl ?_
        refine g_iconst (v := 1) Z dX7_write_144 (by decide) ?_
        refine g_cvV Z (f_X7_put F.l F.D F.cy F.nw A x ho C _ R (byL 12347 2 ++ byL ((V s).1 - 1) 2) hW (rbN (V s) (V s).1) 1 (by decide) (by rw [List.length_append, byL_len, byL_len]; omega)) 2 gX7_write_X7_put rfl (by decide +kernel) (by rw [hRf, hRl]; decide) (by exact mP_x) (κ := 6) (by exact mP_Kx) rfl (by decide) rfl rfl (Nat.le_of_ble_eq_true rfl) dX7_write_145 (by rw [hRc, hRs]; omega) (fun T hp => ?_)
        obtain ⟨W2, rfl, hq⟩ := hp
        refine g_goto Z 165 dX7_write_148 (by decide) ?_
        refine g_iconst (v := 0) Z dX7_write_165 (by decide) ?_
        refine g_istore Z dX7_write_166 (by decide) ?_
        exact g_lv (by (repeat (first | exact trivial | refine And.intro rfl ?_)); done) (kys s hs ea hL ((V s).1 + 1) 0 W2 (by omega) ⟨by omega, by show Wy R W2 (mkL (V s) ++ []); rw [List.append_nil]; unfold mkL; rw [if_neg e0]; exact hq⟩)
      · have hlt : k < (V s).1 := ge_f (by omega) (by omega) h103
        have hkd := (hms.mc hlt).2.1
        refine g_iload Z dX7_write_106 rfl ?_
        refine g_aload_n Z dX7_write_108 rfl ?_
        refine m_ref_kd Z in6 lk16 dX7_write_109 ?_
        refine g_bipush (v := 6) Z dX7_write_112 (by decide) ?_
        refine g_iload_n Z dX7_write_114 rfl ?_
        refine g_imul Z dX7_write_115 ?_
        refine g_iload Z dX7_write_116 rfl ?_
        refine g_iadd Z dX7_write_118 ?_
        rw [ix6]
        refine m_ald_kd Z ho dX7_write_119 (by exact vp_in_nI (by omega) (by decide)) ?_
        rw [nI_clamp (by omega), hkd]
        refine g_iconst (v := 2) Z dX7_write_120 (by decide) ?_
        refine g_icmp_ne Z 131 dX7_write_121 (by decide) (fun h121 => ?_) (fun h121 => ?_)
        · refine g_iconst (v := 0) Z dX7_write_131 (by decide) ?_
          first | exact g_lv (by (repeat (first | exact trivial | refine And.intro rfl ?_)); done) (j132 _ hlt (by show _ = nI (if ((V s).2 k).2.1 = 2 then rbN (V s) k + 1 * 2 ^ k else rbN (V s) k); rw [if_pos h121, nI_add, Nat.one_mul])) | exact g_lv (by (repeat (first | exact trivial | refine And.intro rfl ?_)); done) (j132 _ hlt (by show _ = nI (if ((V s).2 k).2.1 = 2 then rbN (V s) k + 1 * 2 ^ k else rbN (V s) k); rw [if_neg h121]; exact add0 _))
        · refine g_iconst (v := 1) Z dX7_write_124 (by decide) ?_
          refine g_iload Z dX7_write_125 rfl ?_
          refine g_ishl Z dX7_write_127 ?_
          rw [sh1k k (by omega)]
          refine g_goto Z 132 dX7_write_128 (by decide) ?_
          first | exact g_lv (by (repeat (first | exact trivial | refine And.intro rfl ?_)); done) (j132 _ hlt (by show _ = nI (if ((V s).2 k).2.1 = 2 then rbN (V s) k + 1 * 2 ^ k else rbN (V s) k); rw [if_pos h121, nI_add, Nat.one_mul])) | exact g_lv (by (repeat (first | exact trivial | refine And.intro rfl ?_)); done) (j132 _ hlt (by show _ = nI (if ((V s).2 k).2.1 = 2 then rbN (V s) k + 1 * 2 ^ k else rbN (V s) k); rw [if_neg h121]; exact add0 _))
  have len : ∀ (s : Nat), s < 8 → a = nI s → ∀ (n k : Nat), (V s).1 - k < n → k ≤ (V s).1 → G F 7 (mP A x (C, R)) 0 0 (QI F (fun r T => (∃ s, s < 8 ∧ a = nI s ∧ (((seL (V s)).length ≤ 60000 ∧ r = nI (seL (V s)).length ∧ ∃ Q, mP A x (C, Q) = T ∧ WrP R Q (seL (V s))) ∨ (¬ (seL (V s)).length ≤ 60000 ∧ r = -4 ∧ (mP A x (C, R)) = T))) ∨ (¬ isS a ∧ r = -2 ∧ (mP A x (C, R)) = T)) 0 0) 26 [(0, .ref x), (1, .int (nI s)), (2, .int (nI (V s).1)), (3, .int (nI (hdN (V s) + boS (V s) boN k))), (4, .int (nI k))] [] := by
    intro s hs ea n
    have hms := hM s hs
    have hvk := hV s hs
    have hn6 := hms.1
    have en := hms.2.1
    have hlen := seL_len (V s)
    have hh1 := hs1 (V s)
    have ehd : hdN (V s) = (if hsR (V s) = 0 then 8 else 5) + 4 * (V s).1 + (if hsP (V s) then 4 * (V s).1 else 0) := rfl
    have e8 : (if hsR (V s) = 0 then 8 else 5) ≤ 8 := by split <;> omega
    have hmk := mkL_len (V s)
    have hmk5 : 5 ≤ (if hsR (V s) = 0 then 8 else 5) := by split <;> omega
    have hbig := seL_lt hn6
    induction n with
    | zero => intros; omega
    | succ n ih =>
      intro k hn hk
      have hmo := boS_mn (V s) hk
      have hW : Wy R (R.s_ou 0) [] := ⟨rfl, rfl, rfl, rfl, fun i hi => absurd hi (Nat.not_lt_zero _)⟩
      refine g_iload Z dX7_write_26 rfl ?_
      refine g_iload_n Z dX7_write_28 rfl ?_
      refine g_icmp_ge Z 52 dX7_write_29 (by decide) (fun h29 => ?_) (fun h29 => ?_)
      · have he : k = (V s).1 := by have := ge_t (i := k) (N := (V s).1) (by omega) (by omega) h29; omega
        subst he
        rw [← hlen]
        refine g_iload_n Z dX7_write_52 rfl ?_
        refine g_ldc (v := 60000) Z dX7_write_53 ct31 ?_
        refine g_icmp_le Z 61 dX7_write_55 (by decide) (fun h55 => ?_) (fun h55 => ?_)
        · have hL : (seL (V s)).length ≤ 60000 := le_t (N := 60000) (by omega) (by decide) h55
          refine g_aload_n Z dX7_write_61 rfl ?_
          refine g_iconst (v := 0) Z dX7_write_62 (by decide) ?_
          refine m_put_ou Z in6 lk153 dX7_write_63 ?_
          refine g_aload_n Z dX7_write_66 rfl ?_
          refine g_iload_n Z dX7_write_67 rfl ?_
          refine g_cvI Z (c_X7_hasRuns F.l F.D F.cy F.nw A x ho _ _ s hs (V s).1 hn6 en) 1 gX7_write_X7_hasRuns rfl (by decide +kernel) (by rw [hRf, hRl]; decide) (by exact mP_x) (κ := 6) (by exact mP_Kx) rfl (by decide) rfl rfl (Nat.le_of_ble_eq_true rfl) dX7_write_68 (by rw [hRc, hRs]; omega) (fun r T hp => ?_)
          obtain ⟨rfl, rfl⟩ := hp
          rw [hasR_hs hms]
          refine g_istore Z dX7_write_71 (by decide) ?_
          refine g_iload Z dX7_write_73 rfl ?_
          refine g_if_eq Z 151 dX7_write_75 (by decide) (fun h75 => ?_) (fun h75 => ?_)
          · have e0 : hsR (V s) = 0 := (nI_eq (b := 0) (by omega) (by decide)).mp h75
            refine g_aload_n Z dX7_write_151 rfl ?_
            refine g_sipush (v := 12346) Z dX7_write_152 (by decide) ?_
            refine g_iconst (v := 4) Z dX7_write_155 (by decide) ?_
            refine g_cvV Z (f_X7_put F.l F.D F.cy F.nw A x ho C _ R [] hW 12346 4 (by decide) (by show 0 + 4 ≤ 60000; decide)) 2 gX7_write_X7_put rfl (by decide +kernel) (by rw [hRf, hRl]; decide) (by exact mP_x) (κ := 6) (by exact mP_Kx) rfl (by decide) rfl rfl (Nat.le_of_ble_eq_true rfl) dX7_write_156 (by rw [hRc, hRs]; omega) (fun T hp => ?_)
            obtain ⟨W2, rfl, hq⟩ := hp
            refine g_aload_n Z dX7_write_159 rfl ?_
            refine g_iload_n Z dX7_write_160 rfl ?_
            refine g_iconst (v := 4) Z dX7_write_161 (by decide) ?_
            refine g_cvV Z (f_X7_put F.l F.D F.cy F.nw A x ho C _ R ([] ++ byL 12346 4) hq (V s).1 4 (by decide) (by rw [List.length_append, byL_len]; decide)) 2 gX7_write_X7_put rfl (by decide +kernel) (by rw [hRf, hRl]; decide) (by exact mP_x) (κ := 6) (by exact mP_Kx) rfl (by decide) rfl rfl (Nat.le_of_ble_eq_true rfl) dX7_write_162 (by rw [hRc, hRs]; omega) (fun T hp => ?_)
            obtain ⟨W3, rfl, hq2⟩ := hp
            refine g_iconst (v := 0) Z dX7_write_165 (by decide) ?_
            refine g_istore Z dX7_write_166 (by decide) ?_
            exact g_lv (by (repeat (first | exact trivial | refine And.intro rfl ?_)); done) (kys s hs ea hL ((V s).1 + 1) 0 W3 (by omega) ⟨by omega, by show Wy R W3 (mkL (V s) ++ []); rw [List.append_nil]; unfold mkL; rw [if_pos e0]; exact hq2⟩)
          · have e0 : ¬ hsR (V s) = 0 := fun e => h75 (by rw [e]; rfl)
            have hv1 := kN_pos e0
            refine g_aload_n Z dX7_write_78 rfl ?_
            refine g_sipush (v := 12347) Z dX7_write_79 (by decide) ?_
            refine g_iconst (v := 2) Z dX7_write_82 (by decide) ?_
            refine g_cvV Z (f_X7_put F.l F.D F.cy F.nw A x ho C _ R [] hW 12347 2 (by decide) (by show 0 + 2 ≤ 60000; decide)) 2 gX7_write_X7_put rfl (by decide +kernel) (by rw [hRf, hRl]; decide) (by exact mP_x) (κ := 6) (by exact mP_Kx) rfl (by decide) rfl rfl (Nat.le_of_ble_eq_true rfl) dX7_write_83 (by rw [hRc, hRs]; omega) (fun T hp => ?_)
            obtain ⟨W2, rfl, hq⟩ := hp
            refine g_aload_n Z dX7_write_86 rfl ?_
            refine g_iload_n Z dX7_write_87 rfl ?_
            refine g_iconst (v := 1) Z dX7_write_88 (by decide) ?_
            refine g_isub Z dX7_write_89 ?_
            rw [show nI (V s).1 - 1 = nI ((V s).1 - 1) from nI_sb (b := 1) (by omega)]
            refine g_iconst (v := 2) Z dX7_write_90 (by decide) ?_
            refine g_cvV Z (f_X7_put F.l F.D F.cy F.nw A x ho C _ R ([] ++ byL 12347 2) hq ((V s).1 - 1) 2 (by decide) (by rw [List.length_append, byL_len]; decide)) 2 gX7_write_X7_put rfl (by decide +kernel) (by rw [hRf, hRl]; decide) (by exact mP_x) (κ := 6) (by exact mP_Kx) rfl (by decide) rfl rfl (Nat.le_of_ble_eq_true rfl) dX7_write_91 (by rw [hRc, hRs]; omega) (fun T hp => ?_)
            obtain ⟨W3, rfl, hq2⟩ := hp
            refine g_iconst (v := 0) Z dX7_write_94 (by decide) ?_
            refine g_istore Z dX7_write_95 (by decide) ?_
            refine g_iconst (v := 0) Z dX7_write_97 (by decide) ?_
            refine g_istore Z dX7_write_98 (by decide) ?_
            exact g_lv (by (repeat (first | exact trivial | refine And.intro rfl ?_)); done) (bts s hs ea hL ((V s).1 + 1) 0 W3 (by omega) (by omega) e0 hq2)
        · have hL : ¬ (seL (V s)).length ≤ 60000 := fun q => h55 ((nI_leI (b := 60000) (by omega) (by decide)).mpr q)
          refine g_bipush (v := (-4)) Z dX7_write_58 (by decide) ?_
          exact g_iret Z dX7_write_60 (by omega) (by omega) (Or.inl ⟨s, hs, ea, Or.inr ⟨hL, rfl, rfl⟩⟩)
      · have hlt : k < (V s).1 := ge_f (by omega) (by omega) h29
        refine g_iload_n Z dX7_write_32 rfl ?_
        refine g_aload_n Z dX7_write_33 rfl ?_
        refine g_bipush (v := 6) Z dX7_write_34 (by decide) ?_
        refine g_iload_n Z dX7_write_36 rfl ?_
        refine g_imul Z dX7_write_37 ?_
        refine g_iload Z dX7_write_38 rfl ?_
        refine g_iadd Z dX7_write_40 ?_
        rw [ix6]
        refine g_cvI Z (c_X7_lengthOf F.l F.D F.cy F.nw A x ho _ _ _ (by omega) (hms.mc hlt).gc) 1 gX7_write_X7_lengthOf rfl (by decide +kernel) (by rw [hRf, hRl]; decide) (by exact mP_x) (κ := 6) (by exact mP_Kx) rfl (by decide) rfl rfl (Nat.le_of_ble_eq_true rfl) dX7_write_41 (by rw [hRc, hRs]; omega) (fun r T hp => ?_)
        obtain ⟨rfl, rfl⟩ := hp
        rw [lO_bo (hms.mc hlt)]
        refine g_iadd Z dX7_write_44 ?_
        rw [nI_add, show hdN (V s) + boS (V s) boN k + boN ((V s).2 k) = hdN (V s) + boS (V s) boN (k + 1) from Nat.add_assoc _ _ _]
        refine g_istore_n Z dX7_write_45 (by decide) ?_
        refine g_iinc (c := 1) Z dX7_write_46 rfl (by decide) (by decide) ?_
        rw [nI_1]
        refine g_goto Z 26 dX7_write_49 (by decide) ?_
        exact g_lv (by (repeat (first | exact trivial | refine And.intro rfl ?_)); done) (ih (k + 1) (by omega) (by omega))
  refine g_iload_n Z dX7_write_0 rfl ?_
  refine g_csI Z (c_X7_isSet F.l F.D F.cy F.nw _ _) 1 gX7_write_X7_isSet rfl (by decide +kernel) (by rw [hRf, hRl]; decide) rfl rfl (Nat.le_of_ble_eq_true rfl) dX7_write_1 (by rw [hRc, hRs]; omega) (fun r T hp => ?_)
  obtain ⟨rfl, his⟩ := hp
  refine g_if_ne Z 10 dX7_write_4 (by decide) (fun h4 => ?_) (fun h4 => ?_)
  · obtain ⟨s, hs, rfl⟩ := his.is h4
    have hms := hM s (by omega)
    refine g_aload_n Z dX7_write_10 rfl ?_
    refine m_ref_mn Z in6 lk7 dX7_write_11 ?_
    refine g_iload_n Z dX7_write_14 rfl ?_
    refine m_ald_mn Z ho dX7_write_15 (by exact vp_in_nI (by omega) (by decide)) ?_
    rw [nI_clamp (by omega), hms.2.1]
    refine g_istore_n Z dX7_write_16 (by decide) ?_
    refine g_aload_n Z dX7_write_17 rfl ?_
    refine g_iload_n Z dX7_write_18 rfl ?_
    refine g_cvI Z (c_X7_headOf F.l F.D F.cy F.nw A x ho _ _ s (by omega) (V s).1 hms.1 hms.2.1) 1 gX7_write_X7_headOf rfl (by decide +kernel) (by rw [hRf, hRl]; decide) (by exact mP_x) (κ := 6) (by exact mP_Kx) rfl (by decide) rfl rfl (Nat.le_of_ble_eq_true rfl) dX7_write_19 (by rw [hRc, hRs]; omega) (fun r2 T2 hp => ?_)
    obtain ⟨rfl, rfl⟩ := hp
    rw [hdO_hd hms]
    refine g_istore_n Z dX7_write_22 (by decide) ?_
    refine g_iconst (v := 0) Z dX7_write_23 (by decide) ?_
    refine g_istore Z dX7_write_24 (by decide) ?_
    exact g_lv (by (repeat (first | exact trivial | refine And.intro rfl ?_)); done) (len s (by omega) rfl ((V s).1 + 1) 0 (by omega) (by omega))
  · refine g_bipush (v := (-2)) Z dX7_write_7 (by decide) ?_
    exact g_iret Z dX7_write_9 (by omega) (by omega) (Or.inr ⟨his.nS h4, rfl, rfl⟩)
