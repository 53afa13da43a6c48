theorem InvC.s16 {C E : C5} (h : InvC C) (hS : Se 16 C E) (hO : Okc E) : InvC E := ⟨hO, fun t ht => hS.gd (by omega) (by omega) (h.2 t ht)⟩
/-- of the rest, only the work, and what a write or a read notes, may differ -/
def Rs (R Q : MR) : Prop := Q.si = R.si ∧ Q.bt = R.bt
theorem isS_of {s : Nat} (h : s ≤ 7) : isS (nI s) := ⟨s, by omega, rfl⟩
theorem inR.nS {y r : Int32} (h : inR y 0 7 r) (h0 : r = 0) : ¬ isS y := fun ⟨j, h1, h2⟩ => h.f h0 ⟨j, by omega, by omega, h2⟩
theorem inR.n3 {y r : Int32} (h : inR y 0 3 r) (h0 : r = 0) : ¬ (¬ y < 0 ∧ y ≤ 3) := fun ⟨h1, h2⟩ => by
  obtain ⟨j, h3, h4⟩ := nI_of2 (n := 3) rfl h1 h2
  exact h.f h0 ⟨j, by omega, h3, h4⟩
theorem inN {g a b : Nat} {r : Int32} (hg : g < 2 ^ 31) (hb : b < 2 ^ 31) (h : inR (nI g) a b r) : (r = 1 ∧ a ≤ g ∧ g ≤ b) ∨ (r = 0 ∧ ¬ (a ≤ g ∧ g ≤ b)) := by
  rcases h with ⟨h1, j, h2, h3, h4⟩ | ⟨h1, h2⟩
  · have := (nI_eq hg (by omega)).mp h4
    exact Or.inl ⟨h1, by omega⟩
  · exact Or.inr ⟨h1, fun q => h2 ⟨g, q.1, q.2, rfl⟩⟩
theorem inN.t {g a b : Nat} {r : Int32} (h : (r = 1 ∧ a ≤ g ∧ g ≤ b) ∨ (r = 0 ∧ ¬ (a ≤ g ∧ g ≤ b))) (h0 : ¬ r = 0) : a ≤ g ∧ g ≤ b := by
  rcases h with h | h
  · exact h.2
  · exact absurd h.1 h0
theorem inN.f {g a b : Nat} {r : Int32} (h : (r = 1 ∧ a ≤ g ∧ g ≤ b) ∨ (r = 0 ∧ ¬ (a ≤ g ∧ g ≤ b))) (h0 : r = 0) : ¬ (a ≤ g ∧ g ≤ b) := by
  rcases h with h | h
  · exact absurd (h.1.symm.trans h0) (by decide)
  · exact h.2
theorem wk_no {P : Prop} {k w : Nat} (h : ¬ (P ∧ k ≤ w)) : WK P k w w := Or.inr ⟨h, rfl⟩
theorem wk_yes {P : Prop} {k w : Nat} (h : P) (hk : k ≤ w) : WK P k w (w - k) := Or.inl ⟨h, hk, by omega⟩
theorem m1' {h : Nat} (h1 : 1 ≤ h) : nI h + (-1) = nI (h - 1) := by
  obtain ⟨k, rfl⟩ : ∃ k, h = k + 1 := ⟨h - 1, by omega⟩
  exact pk_m1 k
theorem s1' {h : Nat} (h1 : 1 ≤ h) : nI h - 1 = nI (h - 1) := pk_sub (a := h) (b := 1) h1
theorem stp_join {h g : Nat} (h1 : 16 ≤ g ∧ g ≤ 19) (h2 : 2 ≤ h) : stp h g = some (h - 1) := by
  unfold stp; rw [if_neg (by omega), if_pos ⟨h1.1, h1.2, h2⟩]
theorem stp_joinN {h g : Nat} (h1 : 16 ≤ g ∧ g ≤ 19) (h2 : ¬ 2 ≤ h) : stp h g = none := by
  unfold stp; rw [if_neg (by omega), if_neg (by omega), if_neg (by omega)]
theorem stp_set {h g : Nat} (h1 : g < 8 ∨ g = 20) (h2 : h ≠ 8) : stp h g = some (h + 1) := by
  unfold stp; rw [if_pos h1, if_neg h2]
theorem stp_setN {h g : Nat} (h1 : g < 8 ∨ g = 20) (h2 : h = 8) : stp h g = none := by
  unfold stp; rw [if_pos h1, if_pos h2]
theorem stp_255 {h g : Nat} (h1 : g = 255) : stp h g = some h := by
  unfold stp; rw [if_neg (by omega), if_neg (by omega), if_pos h1]
theorem stp_bad {h g : Nat} (h1 : ¬ (16 ≤ g ∧ g ≤ 19)) (h2 : ¬ (g < 8 ∨ g = 20)) (h3 : g ≠ 255) : stp h g = none := by
  unfold stp; rw [if_neg h2, if_neg (by omega), if_neg h3]
theorem stp_le {h g u : Nat} (hh : h ≤ 8) (e : stp h g = some u) : u ≤ 8 := by
  unfold stp at e
  split at e
  · split at e
    · cases e
    · cases e; omega
  · split at e
    · cases e; omega
    · split at e
      · cases e; exact hh
      · cases e
theorem hts_some {y : Int64} {n v : Nat} (h : hts y n = some v) {j : Nat} (hj : j ≤ n) : ∃ u, hts y j = some u := by
  cases e : hts y j with
  | none => rw [hts_none e hj] at h; cases h
  | some u => exact ⟨u, rfl⟩
theorem ct_full {f : Nat → Int64} {c : Nat} : ∀ l, (∀ k, k < l → cb f c k = 1) → ct f c l = l
  | 0, _ => rfl
  | l + 1, h => by
    show ct f c l + cb f c l = l + 1
    rw [ct_full l (fun k hk => h k (by omega)), h l (by omega)]
theorem wv_m1 : ∀ k, k < 64 → wv (-1) / 2 ^ k % 2 = 1 := by decide +kernel
theorem on_step {f g : Nat → Int64} {b w : Nat} (hw : w < 1024) (h1 : ∀ d, d ≠ b → ∀ l, l < 65536 → cb g d l = cb f d l) (h2 : ∀ l, l < 64 * w → cb g b l = 1) :
    (∀ d, d ≠ b → ∀ l, l < 65536 → cb (vp_updL g (1024 * b + w) (-1)) d l = cb f d l) ∧ ∀ l, l < 64 * (w + 1) → cb (vp_updL g (1024 * b + w) (-1)) b l = 1 := by
  refine ⟨fun d hd l hl => (cb_word hw hl (Or.inl hd)).trans (h1 d hd l hl), fun l hl => ?_⟩
  by_cases e : l / 64 = w
  · rw [cb_self e]; exact wv_m1 _ (Nat.mod_lt _ (by decide))
  · rw [cb_word hw (by omega) (Or.inr e)]
    exact h2 l (by omega)

set_option maxRecDepth 100000 in
set_option maxHeartbeats 2000000 in
/-- two sets are joined -/
theorem c_X7_join (l : Launch) (D : va_G) (cy : Nat → ClassId) (nw : Nat) (A : Nat → Nat) (x : Nat) (ho : mOk A x) (C : C5) (R : MR) (hI : InvC C) (w : Nat) (hw : w ≤ 300) (ew : R.wk = nI w) (t c a b : Int32) : kI l yX7_join wsX7_join 4 104 D cy nw [.ref x, .int t, .int c, .int a, .int b] (mP A x (C, R)) (fun _ T => ∃ E Q w2, mP A x (E, Q) = T ∧ InvC E ∧ Rs R Q ∧ Q.wk = nI w2 ∧ WK (isS t ∧ isS a ∧ isS b ∧ ¬ c < 0 ∧ c ≤ 3) 1 w w2) 0 0 := by
  refine enterI (cc := cX7_join) (nL := 5) (ret := (some .int)) (by decide +kernel) rfl (Nat.le_of_ble_eq_true rfl) ?_
  intro F Z hl hR hD hcy hnw hnm
  subst hl hD hcy hnw
  have hRf : F.R.frames = 4 := by rw [hR]
  have hRc : F.R.cells = 0 := by rw [hR]
  have hRs : F.R.slots = 0 := by rw [hR]
  have hRl : F.R.locals = 104 := by rw [hR]
  have in6 : ∀ w ∈ u_ws RX7 TX7 16, w ∈ wsX7_join := by decide +kernel
  have lk27 : Cond.fieldLink RX7 27 (TX7 5).1 (TX7 5).2.1 (TX7 5).2.2.1 ∈ wsX7_join := by decide +kernel
  have ct112 : Cond.constantLong RX7 112 (3) ∈ wsX7_join := by decide +kernel
  refine g_iload_n Z dX7_join_0 rfl ?_
  refine g_csI Z (c_X7_isSet F.l F.D F.cy F.nw _ _) 1 gX7_join_X7_isSet rfl (by decide +kernel) (by rw [hRf, hRl]; decide) rfl rfl (Nat.le_of_ble_eq_true rfl) dX7_join_1 (by rw [hRc, hRs]; omega) (fun r T hp => ?_)
  obtain ⟨rfl, hit⟩ := hp
  refine g_if_eq Z 34 dX7_join_4 (by decide) (fun h4 => ?_) (fun h4 => ?_)
  · refine g_bipush (v := (-2)) Z dX7_join_34 (by decide) ?_
    exact g_iret Z dX7_join_36 (by omega) (by omega) (by first | exact ⟨C, R, w, rfl, hI, ⟨rfl, rfl⟩, ew, wk_no (fun q => hit.nS h4 q.1.1)⟩ | exact ⟨C, R, w, rfl, hI, ⟨rfl, rfl⟩, ew, wk_no (fun q => hic.n3 h16 q.1.2.2.2)⟩ | exact ⟨C, R, w, rfl, hI, ⟨rfl, rfl⟩, ew, wk_no (fun q => hia.nS h23 q.1.2.1)⟩ | exact ⟨C, R, w, rfl, hI, ⟨rfl, rfl⟩, ew, wk_no (fun q => hib.nS h31 q.1.2.2.1)⟩)
  · obtain ⟨t', ht, rfl⟩ := hit.is h4
    refine g_iload_n Z dX7_join_7 rfl ?_
    refine g_i2l Z dX7_join_8 ?_
    refine g_lconst (v := 0) Z dX7_join_9 (by decide) ?_
    refine g_ldc2 (v := 3) Z dX7_join_10 ct112 ?_
    refine g_csI Z (c_X7_in F.l F.D F.cy F.nw _ _ _ _) 3 gX7_join_X7_in rfl (by decide +kernel) (by rw [hRf, hRl]; decide) rfl rfl (Nat.le_of_ble_eq_true rfl) dX7_join_13 (by rw [hRc, hRs]; omega) (fun r T hp => ?_)
    obtain ⟨rfl, hi0⟩ := hp
    have hic := in_R (x := c) (a := 0) (b := 3) (by decide) (by decide) hi0
    refine g_if_eq Z 34 dX7_join_16 (by decide) (fun h16 => ?_) (fun h16 => ?_)
    · refine g_bipush (v := (-2)) Z dX7_join_34 (by decide) ?_
      exact g_iret Z dX7_join_36 (by omega) (by omega) (by first | exact ⟨C, R, w, rfl, hI, ⟨rfl, rfl⟩, ew, wk_no (fun q => hit.nS h4 q.1.1)⟩ | exact ⟨C, R, w, rfl, hI, ⟨rfl, rfl⟩, ew, wk_no (fun q => hic.n3 h16 q.1.2.2.2)⟩ | exact ⟨C, R, w, rfl, hI, ⟨rfl, rfl⟩, ew, wk_no (fun q => hia.nS h23 q.1.2.1)⟩ | exact ⟨C, R, w, rfl, hI, ⟨rfl, rfl⟩, ew, wk_no (fun q => hib.nS h31 q.1.2.2.1)⟩)
    · have hc : ¬ c < 0 ∧ c ≤ 3 := by
        obtain ⟨j, hj, rfl⟩ := hic.is h16
        exact ⟨nI_pos (by omega), nI_le (b := 3) hj (by decide)⟩
      refine g_iload_n Z dX7_join_19 rfl ?_
      refine g_csI Z (c_X7_isSet F.l F.D F.cy F.nw _ _) 1 gX7_join_X7_isSet rfl (by decide +kernel) (by rw [hRf, hRl]; decide) rfl rfl (Nat.le_of_ble_eq_true rfl) dX7_join_20 (by rw [hRc, hRs]; omega) (fun r T hp => ?_)
      obtain ⟨rfl, hia⟩ := hp
      refine g_if_eq Z 34 dX7_join_23 (by decide) (fun h23 => ?_) (fun h23 => ?_)
      · refine g_bipush (v := (-2)) Z dX7_join_34 (by decide) ?_
        exact g_iret Z dX7_join_36 (by omega) (by omega) (by first | exact ⟨C, R, w, rfl, hI, ⟨rfl, rfl⟩, ew, wk_no (fun q => hit.nS h4 q.1.1)⟩ | exact ⟨C, R, w, rfl, hI, ⟨rfl, rfl⟩, ew, wk_no (fun q => hic.n3 h16 q.1.2.2.2)⟩ | exact ⟨C, R, w, rfl, hI, ⟨rfl, rfl⟩, ew, wk_no (fun q => hia.nS h23 q.1.2.1)⟩ | exact ⟨C, R, w, rfl, hI, ⟨rfl, rfl⟩, ew, wk_no (fun q => hib.nS h31 q.1.2.2.1)⟩)
      · obtain ⟨a', ha, rfl⟩ := hia.is h23
        refine g_iload Z dX7_join_26 rfl ?_
        refine g_csI Z (c_X7_isSet F.l F.D F.cy F.nw _ _) 1 gX7_join_X7_isSet rfl (by decide +kernel) (by rw [hRf, hRl]; decide) rfl rfl (Nat.le_of_ble_eq_true rfl) dX7_join_28 (by rw [hRc, hRs]; omega) (fun r T hp => ?_)
        obtain ⟨rfl, hib⟩ := hp
        refine g_if_ne Z 37 dX7_join_31 (by decide) (fun h31 => ?_) (fun h31 => ?_)
        · obtain ⟨b', hb, rfl⟩ := hib.is h31
          refine g_aload_n Z dX7_join_37 rfl ?_
          refine m_get_wk Z in6 lk27 dX7_join_38 ?_
          rw [ew]
          refine g_iconst (v := 1) Z dX7_join_41 (by decide) ?_
          refine g_icmp_ge Z 48 dX7_join_42 (by decide) (fun h42 => ?_) (fun h42 => ?_)
          · have hw1 : 1 ≤ w := ge_t (N := 1) (by omega) (by decide) h42
            refine g_aload_n Z dX7_join_48 rfl ?_
            refine g_dup Z dX7_join_49 rfl ?_
            refine m_get_wk Z in6 lk27 dX7_join_50 ?_
            rw [ew]
            refine g_iconst (v := 1) Z dX7_join_53 (by decide) ?_
            refine g_isub Z dX7_join_54 ?_
            rw [s1' hw1]
            refine m_put_wk Z in6 lk27 dX7_join_55 ?_
            refine g_aload_n Z dX7_join_58 rfl ?_
            refine g_iload_n Z dX7_join_59 rfl ?_
            refine g_iload_n Z dX7_join_60 rfl ?_
            refine g_iload Z dX7_join_61 rfl ?_
            refine g_cvI Z (c_X7_make F.l F.D F.cy F.nw A x ho _ _ hI.1 _ _ _ (by omega) (by omega)) 3 gX7_join_X7_make rfl (by decide +kernel) (by rw [hRf, hRl]; decide) (by exact mP_x) (κ := 6) (by exact mP_Kx) rfl (by decide) rfl rfl (Nat.le_of_ble_eq_true rfl) dX7_join_63 (by rw [hRc, hRs]; omega) (fun r T hp => ?_)
            obtain ⟨-, E, rfl, s1, s2, s3⟩ := hp
            obtain ⟨n1, hn1, en1, hg1⟩ := id s3
            refine g_if_ne Z 72 dX7_join_66 (by decide) (fun h66 => ?_) (fun h66 => ?_)
            · refine g_aload_n Z dX7_join_72 rfl ?_
              refine g_bipush (v := 16) Z dX7_join_73 (by decide) ?_
              refine g_iload_n Z dX7_join_75 rfl ?_
              refine g_cvV Z (c_X7_copySet F.l F.D F.cy F.nw A x ho _ _ s2 16 t' (by omega) (by omega) (by omega) n1 hn1 en1) 2 gX7_join_X7_copySet rfl (by decide +kernel) (by rw [hRf, hRl]; decide) (by exact mP_x) (κ := 6) (by exact mP_Kx) rfl (by decide) rfl rfl (Nat.le_of_ble_eq_true rfl) dX7_join_76 (by rw [hRc, hRs]; omega) (fun T hp => ?_)
              obtain ⟨E2, rfl, k1, k2, k3, k4⟩ := hp
              refine g_aload_n Z dX7_join_79 rfl ?_
              refine g_iload_n Z dX7_join_80 rfl ?_
              refine g_cvI Z (c_X7_all F.l F.D F.cy F.nw A x ho _ _ k2 _ (by omega)) 1 gX7_join_X7_all rfl (by decide +kernel) (by rw [hRf, hRl]; decide) (by exact mP_x) (κ := 6) (by exact mP_Kx) rfl (by decide) rfl rfl (Nat.le_of_ble_eq_true rfl) dX7_join_81 (by rw [hRc, hRs]; omega) (fun r T hp => ?_)
              subst hp
              exact g_iret Z dX7_join_84 (by omega) (by omega) (⟨E2, _, w - 1, rfl, (hI.s16 s1 s2).of k1 k2 (k4 s3), ⟨rfl, rfl⟩, rfl, wk_yes ⟨isS_of ht, isS_of ha, isS_of hb, hc⟩ hw1⟩)
            · refine g_bipush (v := (-3)) Z dX7_join_69 (by decide) ?_
              exact g_iret Z dX7_join_71 (by omega) (by omega) (⟨E, _, w - 1, rfl, hI.s16 s1 s2, ⟨rfl, rfl⟩, rfl, wk_yes ⟨isS_of ht, isS_of ha, isS_of hb, hc⟩ hw1⟩)
          · have hw0 : ¬ 1 ≤ w := fun q => h42 (nI_le (a := 1) q (by omega))
            refine g_bipush (v := (-5)) Z dX7_join_45 (by decide) ?_
            exact g_iret Z dX7_join_47 (by omega) (by omega) (⟨C, R, w, rfl, hI, ⟨rfl, rfl⟩, ew, wk_no (fun q => hw0 q.2)⟩)
        · refine g_bipush (v := (-2)) Z dX7_join_34 (by decide) ?_
          exact g_iret Z dX7_join_36 (by omega) (by omega) (by first | exact ⟨C, R, w, rfl, hI, ⟨rfl, rfl⟩, ew, wk_no (fun q => hit.nS h4 q.1.1)⟩ | exact ⟨C, R, w, rfl, hI, ⟨rfl, rfl⟩, ew, wk_no (fun q => hic.n3 h16 q.1.2.2.2)⟩ | exact ⟨C, R, w, rfl, hI, ⟨rfl, rfl⟩, ew, wk_no (fun q => hia.nS h23 q.1.2.1)⟩ | exact ⟨C, R, w, rfl, hI, ⟨rfl, rfl⟩, ew, wk_no (fun q => hib.nS h31 q.1.2.2.1)⟩)

set_option maxRecDepth 100000 in
set_option maxHeartbeats 2000000 in
/-- kinds are chosen anew -/
theorem c_X7_shrink (l : Launch) (D : va_G) (cy : Nat → ClassId) (nw : Nat) (A : Nat → Nat) (x : Nat) (ho : mOk A x) (C : C5) (R : MR) (hI : InvC C) (w : Nat) (hw : w ≤ 300) (ew : R.wk = nI w) (a : Int32) : kI l yX7_shrink wsX7_shrink 2 50 D cy nw [.ref x, .int a] (mP A x (C, R)) (fun _ T => ∃ E Q w2, mP A x (E, Q) = T ∧ InvC E ∧ Rs R Q ∧ Q.wk = nI w2 ∧ WK (isS a) 1 w w2) 0 0 := by
  refine enterI (cc := cX7_shrink) (nL := 6) (ret := (some .int)) (by decide +kernel) rfl (Nat.le_of_ble_eq_true rfl) ?_
  intro F Z hl hR hD hcy hnw hnm
  subst hl hD hcy hnw
  have hRf : F.R.frames = 2 := by rw [hR]
  have hRc : F.R.cells = 0 := by rw [hR]
  have hRs : F.R.slots = 0 := by rw [hR]
  have hRl : F.R.locals = 50 := by rw [hR]
  have in6 : ∀ w ∈ u_ws RX7 TX7 16, w ∈ wsX7_shrink := by decide +kernel
  have lk7 : Cond.fieldLink RX7 7 (TX7 0).1 (TX7 0).2.1 (TX7 0).2.2.1 ∈ wsX7_shrink := by decide +kernel
  have lk16 : Cond.fieldLink RX7 16 (TX7 2).1 (TX7 2).2.1 (TX7 2).2.2.1 ∈ wsX7_shrink := by decide +kernel
  have lk19 : Cond.fieldLink RX7 19 (TX7 3).1 (TX7 3).2.1 (TX7 3).2.2.1 ∈ wsX7_shrink := by decide +kernel
  have lk27 : Cond.fieldLink RX7 27 (TX7 5).1 (TX7 5).2.1 (TX7 5).2.2.1 ∈ wsX7_shrink := by decide +kernel
  have loop : ∀ (n s n0 : Nat), s < 8 → n0 ≤ 6 → C.mn s = nI n0 → isS a → 1 ≤ w → ∀ (k : Nat) (g : Nat → Int32) (y : Int32), n0 - k < n → k ≤ n0 → G F 6 (mP A x (C.s_kd g, R.s_wk (nI (w - 1)))) 0 0 (QI F (fun _ T => ∃ E Q w2, mP A x (E, Q) = T ∧ InvC E ∧ Rs R Q ∧ Q.wk = nI w2 ∧ WK (isS a) 1 w w2) 0 0) 35 [(0, .ref x), (1, .int (nI s)), (2, .int y), (3, .int (nI k))] [] := by
    intro n s n0 hs hn0 en0 hS hw1
    induction n with
    | zero => intros; omega
    | succ n ih =>
      intro k g y hn hk
      have j132 : ∀ (g2 : Nat → Int32) (u z : Int32), k < n0 → G F 6 (mP A x (C.s_kd g2, R.s_wk (nI (w - 1)))) 0 0 (QI F (fun _ T => ∃ E Q w2, mP A x (E, Q) = T ∧ InvC E ∧ Rs R Q ∧ Q.wk = nI w2 ∧ WK (isS a) 1 w w2) 0 0) 132 [(0, .ref x), (1, .int (nI s)), (3, .int (nI k))] [.int u, .int z] := by
        intro g2 u z hlt
        refine g_iadd Z dX7_shrink_132 ?_
        refine g_istore_n Z dX7_shrink_133 (by decide) ?_
        refine g_iinc (c := 1) Z dX7_shrink_134 rfl (by decide) (by decide) ?_
        rw [nI_1]
        refine g_goto Z 35 dX7_shrink_137 (by decide) ?_
        exact g_lv (by (repeat (first | exact trivial | refine And.intro rfl ?_)); done) (ih (k + 1) g2 _ (by omega) (by omega))
      have j114 : ∀ (z : Int32), k < n0 → G F 6 (mP A x (C.s_kd g, R.s_wk (nI (w - 1)))) 0 0 (QI F (fun _ T => ∃ E Q w2, mP A x (E, Q) = T ∧ InvC E ∧ Rs R Q ∧ Q.wk = nI w2 ∧ WK (isS a) 1 w w2) 0 0) 114 [(0, .ref x), (1, .int (nI s)), (2, .int y), (3, .int (nI k)), (4, .int (nI (6 * s + k)))] [.int z, .int (nI (6 * s + k)), .ref (A 2)] := by
        intro z hlt
        refine m_ast_kd Z ho dX7_shrink_114 (by exact vp_in_nI (by omega) (by decide)) ?_
        rw [nI_clamp (by omega)]
        refine g_iload_n Z dX7_shrink_115 rfl ?_
        refine g_aload_n Z dX7_shrink_116 rfl ?_
        refine m_ref_kd Z in6 lk16 dX7_shrink_117 ?_
        refine g_iload Z dX7_shrink_120 rfl ?_
        refine m_ald_kd Z ho dX7_shrink_122 (by exact vp_in_nI (by omega) (by decide)) ?_
        rw [nI_clamp (by omega)]
        refine g_iconst (v := 2) Z dX7_shrink_123 (by decide) ?_
        refine g_icmp_ne Z 131 dX7_shrink_124 (by decide) (fun h124 => ?_) (fun h124 => ?_)
        · refine g_iconst (v := 0) Z dX7_shrink_131 (by decide) ?_
          exact g_lv (by (repeat (first | exact trivial | refine And.intro rfl ?_)); done) (j132 _ _ _ hlt)
        · refine g_iconst (v := 1) Z dX7_shrink_127 (by decide) ?_
          refine g_goto Z 132 dX7_shrink_128 (by decide) ?_
          exact g_lv (by (repeat (first | exact trivial | refine And.intro rfl ?_)); done) (j132 _ _ _ hlt)
      have j81 : ∀ (z : Int32), k < n0 → G F 6 (mP A x (C.s_kd g, R.s_wk (nI (w - 1)))) 0 0 (QI F (fun _ T => ∃ E Q w2, mP A x (E, Q) = T ∧ InvC E ∧ Rs R Q ∧ Q.wk = nI w2 ∧ WK (isS a) 1 w w2) 0 0) 81 [(0, .ref x), (1, .int (nI s)), (2, .int y), (3, .int (nI k)), (4, .int (nI (6 * s + k)))] [.int z] := by
        intro z hlt
        refine g_istore Z dX7_shrink_81 (by decide) ?_
        refine g_aload_n Z dX7_shrink_83 rfl ?_
        refine m_ref_kd Z in6 lk16 dX7_shrink_84 ?_
        refine g_iload Z dX7_shrink_87 rfl ?_
        refine g_iconst (v := 2) Z dX7_shrink_89 (by decide) ?_
        refine g_iconst (v := 4) Z dX7_shrink_90 (by decide) ?_
        refine g_aload_n Z dX7_shrink_91 rfl ?_
        refine g_iload Z dX7_shrink_92 rfl ?_
        refine g_cvI Z (c_X7_runsOf F.l F.D F.cy F.nw A x ho _ _ _ (by omega)) 1 gX7_shrink_X7_runsOf rfl (by decide +kernel) (by rw [hRf, hRl]; decide) (by exact mP_x) (κ := 6) (by exact mP_Kx) rfl (by decide) rfl rfl (Nat.le_of_ble_eq_true rfl) dX7_shrink_94 (by rw [hRc, hRs]; omega) (fun r1 T1 hp => ?_)
        obtain ⟨rfl, rfl⟩ := hp
        refine g_imul Z dX7_shrink_97 ?_
        refine g_iadd Z dX7_shrink_98 ?_
        refine g_iload Z dX7_shrink_99 rfl ?_
        refine g_icmp_ge Z 108 dX7_shrink_101 (by decide) (fun h101 => ?_) (fun h101 => ?_)
        · refine g_aload_n Z dX7_shrink_108 rfl ?_
          refine g_iload Z dX7_shrink_109 rfl ?_
          refine g_cvI Z (c_X7_plainKind F.l F.D F.cy F.nw A x ho _ _ _ (by omega)) 1 gX7_shrink_X7_plainKind rfl (by decide +kernel) (by rw [hRf, hRl]; decide) (by exact mP_x) (κ := 6) (by exact mP_Kx) rfl (by decide) rfl rfl (Nat.le_of_ble_eq_true rfl) dX7_shrink_111 (by rw [hRc, hRs]; omega) (fun r2 T2 hp => ?_)
          subst hp
          exact g_lv (by (repeat (first | exact trivial | refine And.intro rfl ?_)); done) (j114 _ hlt)
        · refine g_iconst (v := 2) Z dX7_shrink_104 (by decide) ?_
          refine g_goto Z 114 dX7_shrink_105 (by decide) ?_
          exact g_lv (by (repeat (first | exact trivial | refine And.intro rfl ?_)); done) (j114 _ hlt)
      refine g_iload_n Z dX7_shrink_35 rfl ?_
      refine g_aload_n Z dX7_shrink_36 rfl ?_
      refine m_ref_mn Z in6 lk7 dX7_shrink_37 ?_
      refine g_iload_n Z dX7_shrink_40 rfl ?_
      refine m_ald_mn Z ho dX7_shrink_41 (by exact vp_in_nI (by omega) (by decide)) ?_
      rw [nI_clamp (by omega), en0]
      refine g_icmp_ge Z 140 dX7_shrink_42 (by decide) (fun h42 => ?_) (fun h42 => ?_)
      · refine g_iload_n Z dX7_shrink_140 rfl ?_
        exact g_iret Z dX7_shrink_141 (by omega) (by omega) (⟨_, _, w - 1, rfl, hI, ⟨rfl, rfl⟩, rfl, wk_yes hS hw1⟩)
      · have hlt : k < n0 := ge_f (by omega) (by omega) h42
        refine g_bipush (v := 6) Z dX7_shrink_45 (by decide) ?_
        refine g_iload_n Z dX7_shrink_47 rfl ?_
        refine g_imul Z dX7_shrink_48 ?_
        refine g_iload_n Z dX7_shrink_49 rfl ?_
        refine g_iadd Z dX7_shrink_50 ?_
        rw [ix6]
        refine g_istore Z dX7_shrink_51 (by decide) ?_
        refine g_aload_n Z dX7_shrink_53 rfl ?_
        refine m_ref_sz Z in6 lk19 dX7_shrink_54 ?_
        refine g_iload Z dX7_shrink_57 rfl ?_
        refine m_ald_sz Z ho dX7_shrink_59 (by exact vp_in_nI (by omega) (by decide)) ?_
        rw [nI_clamp (by omega)]
        refine g_sipush (v := 4096) Z dX7_shrink_60 (by decide) ?_
        refine g_icmp_gt Z 78 dX7_shrink_63 (by decide) (fun h63 => ?_) (fun h63 => ?_)
        · refine g_sipush (v := 8192) Z dX7_shrink_78 (by decide) ?_
          exact g_lv (by (repeat (first | exact trivial | refine And.intro rfl ?_)); done) (j81 _ hlt)
        · refine g_iconst (v := 2) Z dX7_shrink_66 (by decide) ?_
          refine g_aload_n Z dX7_shrink_67 rfl ?_
          refine m_ref_sz Z in6 lk19 dX7_shrink_68 ?_
          refine g_iload Z dX7_shrink_71 rfl ?_
          refine m_ald_sz Z ho dX7_shrink_73 (by exact vp_in_nI (by omega) (by decide)) ?_
          rw [nI_clamp (by omega)]
          refine g_imul Z dX7_shrink_74 ?_
          refine g_goto Z 81 dX7_shrink_75 (by decide) ?_
          exact g_lv (by (repeat (first | exact trivial | refine And.intro rfl ?_)); done) (j81 _ hlt)
  refine g_iload_n Z dX7_shrink_0 rfl ?_
  refine g_csI Z (c_X7_isSet F.l F.D F.cy F.nw _ _) 1 gX7_shrink_X7_isSet rfl (by decide +kernel) (by rw [hRf, hRl]; decide) rfl rfl (Nat.le_of_ble_eq_true rfl) dX7_shrink_1 (by rw [hRc, hRs]; omega) (fun r T hp => ?_)
  obtain ⟨rfl, his⟩ := hp
  refine g_if_ne Z 10 dX7_shrink_4 (by decide) (fun h4 => ?_) (fun h4 => ?_)
  · obtain ⟨s, hs, rfl⟩ := his.is h4
    obtain ⟨n0, hn0, en0, hg⟩ := hI.2 s (by omega)
    refine g_aload_n Z dX7_shrink_10 rfl ?_
    refine m_get_wk Z in6 lk27 dX7_shrink_11 ?_
    rw [ew]
    refine g_iconst (v := 1) Z dX7_shrink_14 (by decide) ?_
    refine g_icmp_ge Z 21 dX7_shrink_15 (by decide) (fun h15 => ?_) (fun h15 => ?_)
    · have hw1 : 1 ≤ w := ge_t (N := 1) (by omega) (by decide) h15
      refine g_aload_n Z dX7_shrink_21 rfl ?_
      refine g_dup Z dX7_shrink_22 rfl ?_
      refine m_get_wk Z in6 lk27 dX7_shrink_23 ?_
      rw [ew]
      refine g_iconst (v := 1) Z dX7_shrink_26 (by decide) ?_
      refine g_isub Z dX7_shrink_27 ?_
      rw [s1' hw1]
      refine m_put_wk Z in6 lk27 dX7_shrink_28 ?_
      refine g_iconst (v := 0) Z dX7_shrink_31 (by decide) ?_
      refine g_istore_n Z dX7_shrink_32 (by decide) ?_
      refine g_iconst (v := 0) Z dX7_shrink_33 (by decide) ?_
      refine g_istore_n Z dX7_shrink_34 (by decide) ?_
      exact g_lv (by (repeat (first | exact trivial | refine And.intro rfl ?_)); done) (loop 7 s n0 (by omega) hn0 en0 (isS_of hs) hw1 0 C.kd _ (by omega) (by omega))
    · have hw0 : ¬ 1 ≤ w := fun q => h15 (nI_le (a := 1) q (by omega))
      refine g_bipush (v := (-5)) Z dX7_shrink_18 (by decide) ?_
      exact g_iret Z dX7_shrink_20 (by omega) (by omega) (⟨C, R, w, rfl, hI, ⟨rfl, rfl⟩, ew, wk_no (fun q => hw0 q.2)⟩)
  · refine g_bipush (v := (-2)) Z dX7_shrink_7 (by decide) ?_
    exact g_iret Z dX7_shrink_9 (by omega) (by omega) (⟨C, R, w, rfl, hI, ⟨rfl, rfl⟩, ew, wk_no (fun q => his.nS h4 q.1)⟩)

set_option maxRecDepth 100000 in
set_option maxHeartbeats 2000000 in
/-- static: whether a formula is one -/
theorem c_X7_isFormula (l : Launch) (D : va_G) (cy : Nat → ClassId) (nw : Nat) (S : PS) (y : Int64) (k : Nat) (hk : k ≤ 8) : kI l yX7_isFormula wsX7_isFormula 1 25 D cy nw [.long y, .int (nI k)] S (fun r T => S = T ∧ ((r = 1 ∧ hts y k = some 1) ∨ (r = 0 ∧ hts y k ≠ some 1))) 0 0 := by
  refine enterI (cc := cX7_isFormula) (nL := 6) (ret := (some .boolean)) (by decide +kernel) rfl (Nat.le_of_ble_eq_true rfl) ?_
  intro F Z hl hR hD hcy hnw hnm
  subst hl hD hcy hnw
  have hRf : F.R.frames = 1 := by rw [hR]
  have hRc : F.R.cells = 0 := by rw [hR]
  have hRs : F.R.slots = 0 := by rw [hR]
  have hRl : F.R.locals = 25 := by rw [hR]
  have ct44 : Cond.constantLong RX7 44 (7) ∈ wsX7_isFormula := by decide +kernel
  have ct124 : Cond.constantLong RX7 124 (255) ∈ wsX7_isFormula := by decide +kernel
  have ct126 : Cond.constantLong RX7 126 (16) ∈ wsX7_isFormula := by decide +kernel
  have ct128 : Cond.constantLong RX7 128 (19) ∈ wsX7_isFormula := by decide +kernel
  have loop : ∀ (n : Nat) (j h : Nat), k - j < n → (j ≤ k ∧ h ≤ 8 ∧ hts y j = some h) → G F 6 S 0 0 (QI F (fun r T => S = T ∧ ((r = 1 ∧ hts y k = some 1) ∨ (r = 0 ∧ hts y k ≠ some 1))) 0 0) 5 [(0, .long y), (2, .int (nI k)), (3, .int (nI h)), (4, .int (nI j))] [] := by
    intro n
    induction n with
    | zero => intros; omega
    | succ n ih =>
      intro j h hn ⟨hj, hh, eh⟩
      have hs1 := hts_s eh
      have hlt256 := sg_lt y j
      have next : ∀ (h2 : Nat), j < k → stp h (sg y j) = some h2 → G F 6 S 0 0 (QI F (fun r T => S = T ∧ ((r = 1 ∧ hts y k = some 1) ∨ (r = 0 ∧ hts y k ≠ some 1))) 0 0) 97 [(0, .long y), (2, .int (nI k)), (3, .int (nI h2)), (4, .int (nI j))] [] := by
        intro h2 hlt e2
        refine g_iinc (c := 1) Z dX7_isFormula_97 rfl (by decide) (by decide) ?_
        rw [nI_1]
        refine g_goto Z 5 dX7_isFormula_100 (by decide) ?_
        exact g_lv (by (repeat (first | exact trivial | refine And.intro rfl ?_)); done) (ih (j + 1) h2 (by omega) ⟨by omega, stp_le hh e2, hs1.trans e2⟩)
      have j73 : j < k → (sg y j < 8 ∨ sg y j = 20) → G F 6 S 0 0 (QI F (fun r T => S = T ∧ ((r = 1 ∧ hts y k = some 1) ∨ (r = 0 ∧ hts y k ≠ some 1))) 0 0) 73 [(0, .long y), (2, .int (nI k)), (3, .int (nI h)), (4, .int (nI j))] [] := by
        intro hlt hg
        refine g_iload_n Z dX7_isFormula_73 rfl ?_
        refine g_bipush (v := 8) Z dX7_isFormula_74 (by decide) ?_
        refine g_icmp_ne Z 81 dX7_isFormula_76 (by decide) (fun h76 => ?_) (fun h76 => ?_)
        · have h8 : h ≠ 8 := fun e => h76 (by rw [e]; rfl)
          refine g_iinc (c := 1) Z dX7_isFormula_81 rfl (by decide) (by decide) ?_
          rw [nI_1]
          refine g_goto Z 97 dX7_isFormula_84 (by decide) ?_
          exact g_lv (by (repeat (first | exact trivial | refine And.intro rfl ?_)); done) (next (h + 1) hlt (stp_set hg h8))
        · have h8 : h = 8 := (nI_eq (b := 8) (by omega) (by decide)).mp h76
          refine g_iconst (v := 0) Z dX7_isFormula_79 (by decide) ?_
          exact g_zret Z dX7_isFormula_80 (by rfl) (by omega) (by omega) (⟨rfl, Or.inr ⟨rfl, by rw [hts_none (j := j + 1) (by rw [hs1]; exact stp_setN hg h8) (by omega)]; exact fun h => by cases h⟩⟩)
      refine g_iload Z dX7_isFormula_5 rfl ?_
      refine g_iload_n Z dX7_isFormula_7 rfl ?_
      refine g_icmp_ge Z 103 dX7_isFormula_8 (by decide) (fun h8 => ?_) (fun h8 => ?_)
      · have he : j = k := by have := ge_t (i := j) (N := k) (by omega) (by omega) h8; omega
        subst he
        refine g_iload_n Z dX7_isFormula_103 rfl ?_
        refine g_iconst (v := 1) Z dX7_isFormula_104 (by decide) ?_
        refine g_icmp_ne Z 112 dX7_isFormula_105 (by decide) (fun h105 => ?_) (fun h105 => ?_)
        · have hh1 : h ≠ 1 := fun e => h105 (by rw [e]; rfl)
          refine g_iconst (v := 0) Z dX7_isFormula_112 (by decide) ?_
          exact g_zret Z dX7_isFormula_113 (by rfl) (by omega) (by omega) (⟨rfl, by first | exact Or.inl ⟨rfl, by rw [eh, hh1]⟩ | exact Or.inr ⟨rfl, by rw [eh]; exact fun e => hh1 (Option.some.inj e)⟩⟩)
        · have hh1 : h = 1 := (nI_eq (b := 1) (by omega) (by decide)).mp h105
          refine g_iconst (v := 1) Z dX7_isFormula_108 (by decide) ?_
          refine g_goto Z 113 dX7_isFormula_109 (by decide) ?_
          exact g_zret Z dX7_isFormula_113 (by rfl) (by omega) (by omega) (⟨rfl, by first | exact Or.inl ⟨rfl, by rw [eh, hh1]⟩ | exact Or.inr ⟨rfl, by rw [eh]; exact fun e => hh1 (Option.some.inj e)⟩⟩)
      · have hlt : j < k := ge_f (by omega) (by omega) h8
        refine g_lload_n Z dX7_isFormula_11 rfl ?_
        refine g_bipush (v := 8) Z dX7_isFormula_12 (by decide) ?_
        refine g_iload Z dX7_isFormula_14 rfl ?_
        refine g_imul Z dX7_isFormula_16 ?_
        refine g_lushr Z dX7_isFormula_17 ?_
        refine g_ldc2 (v := 255) Z dX7_isFormula_18 ct124 ?_
        refine g_land Z dX7_isFormula_21 ?_
        refine g_l2i Z dX7_isFormula_22 ?_
        rw [sg_m y j]
        refine g_istore Z dX7_isFormula_23 (by decide) ?_
        refine g_iload Z dX7_isFormula_25 rfl ?_
        refine g_i2l Z dX7_isFormula_27 ?_
        refine g_ldc2 (v := 16) Z dX7_isFormula_28 ct126 ?_
        refine g_ldc2 (v := 19) Z dX7_isFormula_31 ct128 ?_
        refine g_csI Z (c_X7_in F.l F.D F.cy F.nw _ _ _ _) 3 gX7_isFormula_X7_in rfl (by decide +kernel) (by rw [hRf, hRl]; decide) rfl rfl (Nat.le_of_ble_eq_true rfl) dX7_isFormula_34 (by rw [hRc, hRs]; omega) (fun r1 T1 hp => ?_)
        obtain ⟨rfl, hi0⟩ := hp
        have hi1 := inN (by omega) (by decide) (in_R (x := nI (sg y j)) (a := 16) (b := 19) (by decide) (by decide) hi0)
        refine g_if_eq Z 53 dX7_isFormula_37 (by decide) (fun h37 => ?_) (fun h37 => ?_)
        · have hnj := inN.f hi1 h37
          refine g_iload Z dX7_isFormula_53 rfl ?_
          refine g_i2l Z dX7_isFormula_55 ?_
          refine g_lconst (v := 0) Z dX7_isFormula_56 (by decide) ?_
          refine g_ldc2 (v := 7) Z dX7_isFormula_57 ct44 ?_
          refine g_csI Z (c_X7_in F.l F.D F.cy F.nw _ _ _ _) 3 gX7_isFormula_X7_in rfl (by decide +kernel) (by rw [hRf, hRl]; decide) rfl rfl (Nat.le_of_ble_eq_true rfl) dX7_isFormula_60 (by rw [hRc, hRs]; omega) (fun r2 T2 hp => ?_)
          obtain ⟨rfl, hi0⟩ := hp
          have hi2 := inN (by omega) (by decide) (in_R (x := nI (sg y j)) (a := 0) (b := 7) (by decide) (by decide) hi0)
          refine g_if_ne Z 73 dX7_isFormula_63 (by decide) (fun h63 => ?_) (fun h63 => ?_)
          · have hg7 := inN.t hi2 h63
            first | exact g_lv (by (repeat (first | exact trivial | refine And.intro rfl ?_)); done) (j73 hlt (Or.inl (by omega))) | exact g_lv (by (repeat (first | exact trivial | refine And.intro rfl ?_)); done) (j73 hlt (Or.inr hg20))
          · have hn7 := inN.f hi2 h63
            refine g_iload Z dX7_isFormula_66 rfl ?_
            refine g_bipush (v := 20) Z dX7_isFormula_68 (by decide) ?_
            refine g_icmp_ne Z 87 dX7_isFormula_70 (by decide) (fun h70 => ?_) (fun h70 => ?_)
            · have hn20 : sg y j ≠ 20 := fun e => h70 (by rw [e]; rfl)
              refine g_iload Z dX7_isFormula_87 rfl ?_
              refine g_sipush (v := 255) Z dX7_isFormula_89 (by decide) ?_
              refine g_icmp_eq Z 97 dX7_isFormula_92 (by decide) (fun h92 => ?_) (fun h92 => ?_)
              · have h255 : sg y j = 255 := (nI_eq (b := 255) (by omega) (by decide)).mp h92
                first | exact g_lv (by (repeat (first | exact trivial | refine And.intro rfl ?_)); done) (next (h - 1) hlt (stp_join hjn h2)) | exact g_lv (by (repeat (first | exact trivial | refine And.intro rfl ?_)); done) (next h hlt (stp_255 h255))
              · have h255 : sg y j ≠ 255 := fun e => h92 (by rw [e]; rfl)
                refine g_iconst (v := 0) Z dX7_isFormula_95 (by decide) ?_
                exact g_zret Z dX7_isFormula_96 (by rfl) (by omega) (by omega) (⟨rfl, Or.inr ⟨rfl, by rw [hts_none (j := j + 1) (by rw [hs1]; exact stp_bad hnj (by omega) h255) (by omega)]; exact fun h => by cases h⟩⟩)
            · have hg20 : sg y j = 20 := (nI_eq (b := 20) (by omega) (by decide)).mp h70
              first | exact g_lv (by (repeat (first | exact trivial | refine And.intro rfl ?_)); done) (j73 hlt (Or.inl (by omega))) | exact g_lv (by (repeat (first | exact trivial | refine And.intro rfl ?_)); done) (j73 hlt (Or.inr hg20))
        · have hjn := inN.t hi1 h37
          refine g_iload_n Z dX7_isFormula_40 rfl ?_
          refine g_iconst (v := 2) Z dX7_isFormula_41 (by decide) ?_
          refine g_icmp_ge Z 47 dX7_isFormula_42 (by decide) (fun h42 => ?_) (fun h42 => ?_)
          · have h2 : 2 ≤ h := ge_t (N := 2) (by omega) (by decide) h42
            refine g_iinc (c := (-1)) Z dX7_isFormula_47 rfl (by decide) (by decide) ?_
            rw [m1' (by omega)]
            refine g_goto Z 97 dX7_isFormula_50 (by decide) ?_
            first | exact g_lv (by (repeat (first | exact trivial | refine And.intro rfl ?_)); done) (next (h - 1) hlt (stp_join hjn h2)) | exact g_lv (by (repeat (first | exact trivial | refine And.intro rfl ?_)); done) (next h hlt (stp_255 h255))
          · have h2 : ¬ 2 ≤ h := fun q => h42 (nI_le (a := 2) q (by omega))
            refine g_iconst (v := 0) Z dX7_isFormula_45 (by decide) ?_
            exact g_zret Z dX7_isFormula_46 (by rfl) (by omega) (by omega) (⟨rfl, Or.inr ⟨rfl, by rw [hts_none (j := j + 1) (by rw [hs1]; exact stp_joinN hjn h2) (by omega)]; exact fun h => by cases h⟩⟩)
  refine g_iconst (v := 0) Z dX7_isFormula_0 (by decide) ?_
  refine g_istore_n Z dX7_isFormula_1 (by decide) ?_
  refine g_iconst (v := 0) Z dX7_isFormula_2 (by decide) ?_
  refine g_istore Z dX7_isFormula_3 (by decide) ?_
  exact g_lv (by (repeat (first | exact trivial | refine And.intro rfl ?_)); done) (loop (k + 1) 0 0 (by omega) ⟨by omega, by omega, rfl⟩)

set_option maxRecDepth 100000 in
set_option maxHeartbeats 2000000 in
/-- all lows of key 0 -/
theorem c_X7_layAll (l : Launch) (D : va_G) (cy : Nat → ClassId) (nw : Nat) (A : Nat → Nat) (x : Nat) (ho : mOk A x) (C : C5) (R : MR) (hO : Okc C) (s : Nat) (hs : s < 17) : kV l yX7_layAll wsX7_layAll 2 48 D cy nw [.ref x, .int (nI s)] (mP A x (C, R)) (fun T => ∃ E, mP A x (E, R) = T ∧ Se s C E ∧ Okc E ∧ Gd E s) 0 0 := by
  refine enterV (cc := cX7_layAll) (nL := 4) (ret := none) (by decide +kernel) rfl (Nat.le_of_ble_eq_true rfl) ?_
  intro F Z hl hR hD hcy hnw hnm
  subst hl hD hcy hnw
  have hRf : F.R.frames = 2 := by rw [hR]
  have hRc : F.R.cells = 0 := by rw [hR]
  have hRs : F.R.slots = 0 := by rw [hR]
  have hRl : F.R.locals = 48 := by rw [hR]
  have in6 : ∀ w ∈ u_ws RX7 TX7 16, w ∈ wsX7_layAll := by decide +kernel
  have lk7 : Cond.fieldLink RX7 7 (TX7 0).1 (TX7 0).2.1 (TX7 0).2.2.1 ∈ wsX7_layAll := by decide +kernel
  have lk16 : Cond.fieldLink RX7 16 (TX7 2).1 (TX7 2).2.1 (TX7 2).2.2.1 ∈ wsX7_layAll := by decide +kernel
  have lk19 : Cond.fieldLink RX7 19 (TX7 3).1 (TX7 3).2.1 (TX7 3).2.2.1 ∈ wsX7_layAll := by decide +kernel
  have lk23 : Cond.fieldLink RX7 23 (TX7 4).1 (TX7 4).2.1 (TX7 4).2.2.1 ∈ wsX7_layAll := by decide +kernel
  have ct52 : Cond.constantLong RX7 52 (-1) ∈ wsX7_layAll := by decide +kernel
  have ct107 : Cond.constant RX7 107 (65536) ∈ wsX7_layAll := by decide +kernel
  have loop : ∀ (n : Nat) (E : C5), E.mn s = nI 1 → Se s C E → Okc E → ∀ (w : Nat) (g : Nat → Int64), 1024 - w < n → (w ≤ 1024 ∧ (∀ d, d ≠ 6 * s + 0 → ∀ l, l < 65536 → cb g d l = cb E.wd d l) ∧ ∀ l, l < 64 * w → cb g (6 * s + 0) l = 1) → G F 4 (mP A x (E.s_wd g, R)) 0 0 (QV F (fun T => ∃ E, mP A x (E, R) = T ∧ Se s C E ∧ Okc E ∧ Gd E s) 0 0) 16 [(0, .ref x), (1, .int (nI s)), (2, .int (nI (6 * s + 0))), (3, .int (nI w))] [] := by
    intro n E hm hS hE
    induction n with
    | zero => intros; omega
    | succ n ih =>
      intro w g hn ⟨hw, h1, h2⟩
      refine g_iload_n Z dX7_layAll_16 rfl ?_
      refine g_sipush (v := 1024) Z dX7_layAll_17 (by decide) ?_
      refine g_icmp_ge Z 44 dX7_layAll_20 (by decide) (fun h20 => ?_) (fun h20 => ?_)
      · have he : w = 1024 := by have := ge_t (N := 1024) (by omega) (by decide) h20; omega
        subst he
        have hC : Ce (6 * s + 0) E (((E.s_wd g).s_sz (upd E.sz (6 * s + 0) 65536)).s_kd (upd E.kd (6 * s + 0) 1)) := ⟨rfl, fun d hd => ⟨rfl, pk_un hd, h1 d hd⟩⟩
        refine g_aload_n Z dX7_layAll_44 rfl ?_
        refine m_ref_sz Z in6 lk19 dX7_layAll_45 ?_
        refine g_iload_n Z dX7_layAll_48 rfl ?_
        refine g_ldc (v := 65536) Z dX7_layAll_49 ct107 ?_
        refine m_ast_sz Z ho dX7_layAll_51 (by exact vp_in_nI (by omega) (by decide)) ?_
        rw [nI_clamp (by omega)]
        refine g_aload_n Z dX7_layAll_52 rfl ?_
        refine m_ref_kd Z in6 lk16 dX7_layAll_53 ?_
        refine g_iload_n Z dX7_layAll_56 rfl ?_
        refine g_iconst (v := 1) Z dX7_layAll_57 (by decide) ?_
        refine m_ast_kd Z ho dX7_layAll_58 (by exact vp_in_nI (by omega) (by decide)) ?_
        rw [nI_clamp (by omega)]
        exact g_vret Z dX7_layAll_59 (by omega) (by omega) (⟨_, rfl, hS.tr (hC.se (by omega)), hC.okk rfl hE, 1, by omega, hm, fun i hi => by
          have e : i = 0 := by omega
          subst e
          show upd E.sz (6 * s + 0) 65536 (6 * s + 0) = nI (ct g (6 * s + 0) 65536)
          rw [pk_us, ct_full 65536 (fun l hl => h2 l (by omega))]
          rfl⟩)
      · have hlt : w < 1024 := ge_f (by omega) (by decide) h20
        obtain ⟨k1, k2⟩ := on_step hlt h1 h2
        refine g_aload_n Z dX7_layAll_23 rfl ?_
        refine m_ref_wd Z in6 lk23 dX7_layAll_24 ?_
        refine g_sipush (v := 1024) Z dX7_layAll_27 (by decide) ?_
        refine g_iload_n Z dX7_layAll_30 rfl ?_
        refine g_imul Z dX7_layAll_31 ?_
        refine g_iload_n Z dX7_layAll_32 rfl ?_
        refine g_iadd Z dX7_layAll_33 ?_
        rw [ixw]
        refine g_ldc2 (v := -1) Z dX7_layAll_34 ct52 ?_
        refine m_ast_wd Z ho dX7_layAll_37 (by exact vp_in_nI (by omega) (by decide)) ?_
        rw [nI_clamp (by omega)]
        refine g_iinc (c := 1) Z dX7_layAll_38 rfl (by decide) (by decide) ?_
        rw [nI_1]
        refine g_goto Z 16 dX7_layAll_41 (by decide) ?_
        exact g_lv (by (repeat (first | exact trivial | refine And.intro rfl ?_)); done) (ih (w + 1) _ (by omega) ⟨by omega, k1, k2⟩)
  refine g_aload_n Z dX7_layAll_0 rfl ?_
  refine m_ref_mn Z in6 lk7 dX7_layAll_1 ?_
  refine g_iload_n Z dX7_layAll_4 rfl ?_
  refine g_iconst (v := 0) Z dX7_layAll_5 (by decide) ?_
  refine m_ast_mn Z ho dX7_layAll_6 (by exact vp_in_nI (by omega) (by decide)) ?_
  rw [nI_clamp (by omega)]
  refine g_aload_n Z dX7_layAll_7 rfl ?_
  refine g_iload_n Z dX7_layAll_8 rfl ?_
  refine g_iconst (v := 0) Z dX7_layAll_9 (by decide) ?_
  refine g_cvI Z (c_X7_made F.l F.D F.cy F.nw A x ho _ _ (hO.s_mn (k := 0) (by omega)) s (by omega) 0 (by omega) (pk_us (x := nI 0)) (fun i hi => by omega) 0 (by omega)) 2 gX7_layAll_X7_made rfl (by decide +kernel) (by rw [hRf, hRl]; decide) (by exact mP_x) (κ := 6) (by exact mP_Kx) rfl (by decide) rfl rfl (Nat.le_of_ble_eq_true rfl) dX7_layAll_10 (by rw [hRc, hRs]; omega) (fun r T hp => ?_)
  obtain ⟨E, j, rfl, rfl, e1, e2, e3, e4, e5, e6, e7⟩ := hp
  have ej : j = 0 := by omega
  subst ej
  refine g_istore_n Z dX7_layAll_13 (by decide) ?_
  refine g_iconst (v := 0) Z dX7_layAll_14 (by decide) ?_
  refine g_istore_n Z dX7_layAll_15 (by decide) ?_
  exact g_lv (by (repeat (first | exact trivial | refine And.intro rfl ?_)); done) (loop 1025 E e2 (Ce.upd_mn.tr e3) e4 0 E.wd (by omega) ⟨by omega, fun _ _ _ _ => rfl, fun l hl => by omega⟩)

set_option maxRecDepth 100000 in
set_option maxHeartbeats 2000000 in
/-- a formula -/
theorem c_X7_formula (l : Launch) (D : va_G) (cy : Nat → ClassId) (nw : Nat) (A : Nat → Nat) (x : Nat) (ho : mOk A x) (C : C5) (R : MR) (hI : InvC C) (w : Nat) (hw : w ≤ 300) (ew : R.wk = nI w) (t : Int32) (y : Int64) (n0 : Int32) : kI l yX7_formula wsX7_formula 4 104 D cy nw [.ref x, .int t, .long y, .int n0] (mP A x (C, R)) (fun _ T => ∃ E Q w2, mP A x (E, Q) = T ∧ InvC E ∧ Rs R Q ∧ Q.wk = nI w2 ∧ ((isS t ∧ ∃ k : Nat, 1 ≤ k ∧ k ≤ 8 ∧ n0 = nI k ∧ hts y k = some 1 ∧ k ≤ w ∧ w2 + k = w) ∨ (¬ (isS t ∧ ∃ k : Nat, 1 ≤ k ∧ k ≤ 8 ∧ n0 = nI k ∧ hts y k = some 1 ∧ k ≤ w) ∧ w2 = w))) 0 0 := by
  refine enterI (cc := cX7_formula) (nL := 8) (ret := (some .int)) (by decide +kernel) rfl (Nat.le_of_ble_eq_true rfl) ?_
  intro F Z hl hR hD hcy hnw hnm
  subst hl hD hcy hnw
  have hRf : F.R.frames = 4 := by rw [hR]
  have hRc : F.R.cells = 0 := by rw [hR]
  have hRs : F.R.slots = 0 := by rw [hR]
  have hRl : F.R.locals = 104 := by rw [hR]
  have in6 : ∀ w ∈ u_ws RX7 TX7 16, w ∈ wsX7_formula := by decide +kernel
  have lk27 : Cond.fieldLink RX7 27 (TX7 5).1 (TX7 5).2.1 (TX7 5).2.2.1 ∈ wsX7_formula := by decide +kernel
  have ct124 : Cond.constantLong RX7 124 (255) ∈ wsX7_formula := by decide +kernel
  have ct126 : Cond.constantLong RX7 126 (16) ∈ wsX7_formula := by decide +kernel
  have ct128 : Cond.constantLong RX7 128 (19) ∈ wsX7_formula := by decide +kernel
  have ct130 : Cond.constantLong RX7 130 (8) ∈ wsX7_formula := by decide +kernel
  have loop : ∀ (n s k : Nat), s < 8 → t = nI s → 1 ≤ k → k ≤ 8 → n0 = nI k → hts y k = some 1 → k ≤ w → ∀ (j h : Nat) (E : C5), k - j < n → (j ≤ k ∧ h ≤ 8 ∧ hts y j = some h ∧ InvC E ∧ ∀ i, i < h → Gd E (8 + i)) → G F 8 (mP A x (E, R.s_wk (nI (w - k)))) 0 0 (QI F (fun _ T => ∃ E Q w2, mP A x (E, Q) = T ∧ InvC E ∧ Rs R Q ∧ Q.wk = nI w2 ∧ ((isS t ∧ ∃ k : Nat, 1 ≤ k ∧ k ≤ 8 ∧ n0 = nI k ∧ hts y k = some 1 ∧ k ≤ w ∧ w2 + k = w) ∨ (¬ (isS t ∧ ∃ k : Nat, 1 ≤ k ∧ k ≤ 8 ∧ n0 = nI k ∧ hts y k = some 1 ∧ k ≤ w) ∧ w2 = w))) 0 0) 62 [(0, .ref x), (1, .int (nI s)), (2, .long y), (4, .int (nI k)), (5, .int (nI (8 + h))), (6, .int (nI j))] [] := by
    intro n s k hs ht hk1 hk8 hn0 hyk hkw
    induction n with
    | zero => intros; omega
    | succ n ih =>
      intro j h E hn ⟨hj, hh, eh, hIE, hP⟩
      have hs1 := hts_s eh
      have hlt256 := sg_lt y j
      have next : ∀ (h2 : Nat) (D : C5), j < k → stp h (sg y j) = some h2 → InvC D → (∀ i, i < h2 → Gd D (8 + i)) → G F 8 (mP A x (D, R.s_wk (nI (w - k)))) 0 0 (QI F (fun _ T => ∃ E Q w2, mP A x (E, Q) = T ∧ InvC E ∧ Rs R Q ∧ Q.wk = nI w2 ∧ ((isS t ∧ ∃ k : Nat, 1 ≤ k ∧ k ≤ 8 ∧ n0 = nI k ∧ hts y k = some 1 ∧ k ≤ w ∧ w2 + k = w) ∨ (¬ (isS t ∧ ∃ k : Nat, 1 ≤ k ∧ k ≤ 8 ∧ n0 = nI k ∧ hts y k = some 1 ∧ k ≤ w) ∧ w2 = w))) 0 0) 173 [(0, .ref x), (1, .int (nI s)), (2, .long y), (4, .int (nI k)), (5, .int (nI (8 + h2))), (6, .int (nI j))] [] := by
        intro h2 D hlt e2 hID hPD
        refine g_iinc (c := 1) Z dX7_formula_173 rfl (by decide) (by decide) ?_
        rw [nI_1]
        refine g_goto Z 62 dX7_formula_176 (by decide) ?_
        exact g_lv (by (repeat (first | exact trivial | refine And.intro rfl ?_)); done) (ih (j + 1) h2 D (by omega) ⟨by omega, stp_le hh e2, hs1.trans e2, hID, hPD⟩)
      refine g_iload Z dX7_formula_62 rfl ?_
      refine g_iload Z dX7_formula_64 rfl ?_
      refine g_icmp_ge Z 179 dX7_formula_66 (by decide) (fun h66 => ?_) (fun h66 => ?_)
      · have he : j = k := by have := ge_t (i := j) (N := k) (by omega) (by omega) h66; omega
        subst he
        have hh1 : h = 1 := Option.some.inj (eh.symm.trans hyk)
        subst hh1
        obtain ⟨n8, hn8, en8, hg8⟩ := hP 0 (by omega)
        refine g_aload_n Z dX7_formula_179 rfl ?_
        refine g_bipush (v := 8) Z dX7_formula_180 (by decide) ?_
        refine g_iload_n Z dX7_formula_182 rfl ?_
        refine g_cvV Z (c_X7_copySet F.l F.D F.cy F.nw A x ho _ _ hIE.1 8 s (by omega) (by omega) (by omega) n8 hn8 en8) 2 gX7_formula_X7_copySet rfl (by decide +kernel) (by rw [hRf, hRl]; decide) (by exact mP_x) (κ := 6) (by exact mP_Kx) rfl (by decide) rfl rfl (Nat.le_of_ble_eq_true rfl) dX7_formula_183 (by rw [hRc, hRs]; omega) (fun T6 hp => ?_)
        obtain ⟨E2, rfl, k1, k2, k3, k4⟩ := hp
        refine g_aload_n Z dX7_formula_186 rfl ?_
        refine g_iload_n Z dX7_formula_187 rfl ?_
        refine g_cvI Z (c_X7_all F.l F.D F.cy F.nw A x ho _ _ k2 _ (by omega)) 1 gX7_formula_X7_all rfl (by decide +kernel) (by rw [hRf, hRl]; decide) (by exact mP_x) (κ := 6) (by exact mP_Kx) rfl (by decide) rfl rfl (Nat.le_of_ble_eq_true rfl) dX7_formula_188 (by rw [hRc, hRs]; omega) (fun r7 T7 hp => ?_)
        subst hp
        exact g_iret Z dX7_formula_191 (by omega) (by omega) (⟨E2, _, w - j, rfl, hIE.of k1 k2 (k4 ⟨n8, hn8, en8, hg8⟩), ⟨rfl, rfl⟩, rfl, Or.inl ⟨⟨s, hs, ht⟩, j, hk1, hk8, hn0, hyk, hkw, by omega⟩⟩)
      · have hlt : j < k := ge_f (by omega) (by omega) h66
        obtain ⟨u, eu⟩ := hts_some hyk (j := j + 1) (by omega)
        rw [hs1] at eu
        refine g_lload_n Z dX7_formula_69 rfl ?_
        refine g_bipush (v := 8) Z dX7_formula_70 (by decide) ?_
        refine g_iload Z dX7_formula_72 rfl ?_
        refine g_imul Z dX7_formula_74 ?_
        refine g_lushr Z dX7_formula_75 ?_
        refine g_ldc2 (v := 255) Z dX7_formula_76 ct124 ?_
        refine g_land Z dX7_formula_79 ?_
        refine g_l2i Z dX7_formula_80 ?_
        rw [sg_m y j]
        refine g_istore Z dX7_formula_81 (by decide) ?_
        refine g_iload Z dX7_formula_83 rfl ?_
        refine g_i2l Z dX7_formula_85 ?_
        refine g_ldc2 (v := 16) Z dX7_formula_86 ct126 ?_
        refine g_ldc2 (v := 19) Z dX7_formula_89 ct128 ?_
        refine g_csI Z (c_X7_in F.l F.D F.cy F.nw _ _ _ _) 3 gX7_formula_X7_in rfl (by decide +kernel) (by rw [hRf, hRl]; decide) rfl rfl (Nat.le_of_ble_eq_true rfl) dX7_formula_92 (by rw [hRc, hRs]; omega) (fun r1 T1 hp => ?_)
        obtain ⟨rfl, hi0⟩ := hp
        have hi1 := inN (by omega) (by decide) (in_R (x := nI (sg y j)) (a := 16) (b := 19) (by decide) (by decide) hi0)
        refine g_if_eq Z 135 dX7_formula_95 (by decide) (fun h95 => ?_) (fun h95 => ?_)
        · have hnj := inN.f hi1 h95
          refine g_iload Z dX7_formula_135 rfl ?_
          refine g_bipush (v := 20) Z dX7_formula_137 (by decide) ?_
          refine g_icmp_ne Z 154 dX7_formula_139 (by decide) (fun h139 => ?_) (fun h139 => ?_)
          · have hn20 : sg y j ≠ 20 := fun e => h139 (by rw [e]; rfl)
            refine g_iload Z dX7_formula_154 rfl ?_
            refine g_sipush (v := 255) Z dX7_formula_156 (by decide) ?_
            refine g_icmp_eq Z 173 dX7_formula_159 (by decide) (fun h159 => ?_) (fun h159 => ?_)
            · have h255 : sg y j = 255 := (nI_eq (b := 255) (by omega) (by decide)).mp h159
              first | exact g_lv (by (repeat (first | exact trivial | refine And.intro rfl ?_)); done) (next (h + 1) E3 hlt (stp_set (Or.inl hg7) h8) ⟨k2, fun q hq => k1.gd (by omega) (by omega) (hIE.2 q hq)⟩ (fun i hi => by
                by_cases e : i = h
                · subst e; exact k4 ⟨n1, hn1, en1, hg1⟩
                · exact k1.gd (by omega) (by omega) (hP i (by omega)))) | exact g_lv (by (repeat (first | exact trivial | refine And.intro rfl ?_)); done) (next h E hlt (stp_255 h255) hIE hP)
            · have h255 : sg y j ≠ 255 := fun e => h159 (by rw [e]; rfl)
              have hg7 : sg y j < 8 := Decidable.byContradiction (fun q => by rw [stp_bad hnj (by omega) h255] at eu; cases eu)
              have h8 : h ≠ 8 := fun q => by rw [stp_setN (Or.inl hg7) q] at eu; cases eu
              obtain ⟨n1, hn1, en1, hg1⟩ := hIE.2 (sg y j) hg7
              refine g_aload_n Z dX7_formula_162 rfl ?_
              refine g_iload Z dX7_formula_163 rfl ?_
              refine g_iload Z dX7_formula_165 rfl ?_
              refine g_cvV Z (c_X7_copySet F.l F.D F.cy F.nw A x ho _ _ hIE.1 _ _ (by omega) (by omega) (by omega) n1 hn1 en1) 2 gX7_formula_X7_copySet rfl (by decide +kernel) (by rw [hRf, hRl]; decide) (by exact mP_x) (κ := 6) (by exact mP_Kx) rfl (by decide) rfl rfl (Nat.le_of_ble_eq_true rfl) dX7_formula_167 (by rw [hRc, hRs]; omega) (fun T5 hp => ?_)
              obtain ⟨E3, rfl, k1, k2, k3, k4⟩ := hp
              refine g_iinc (c := 1) Z dX7_formula_170 rfl (by decide) (by decide) ?_
              rw [nI_1]
              first | exact g_lv (by (repeat (first | exact trivial | refine And.intro rfl ?_)); done) (next (h + 1) E3 hlt (stp_set (Or.inl hg7) h8) ⟨k2, fun q hq => k1.gd (by omega) (by omega) (hIE.2 q hq)⟩ (fun i hi => by
                by_cases e : i = h
                · subst e; exact k4 ⟨n1, hn1, en1, hg1⟩
                · exact k1.gd (by omega) (by omega) (hP i (by omega)))) | exact g_lv (by (repeat (first | exact trivial | refine And.intro rfl ?_)); done) (next h E hlt (stp_255 h255) hIE hP)
          · have hg20 : sg y j = 20 := (nI_eq (b := 20) (by omega) (by decide)).mp h139
            have h8 : h ≠ 8 := fun q => by rw [stp_setN (Or.inr hg20) q] at eu; cases eu
            refine g_aload_n Z dX7_formula_142 rfl ?_
            refine g_iload Z dX7_formula_143 rfl ?_
            refine g_cvV Z (c_X7_layAll F.l F.D F.cy F.nw A x ho _ _ hIE.1 _ (by omega)) 1 gX7_formula_X7_layAll rfl (by decide +kernel) (by rw [hRf, hRl]; decide) (by exact mP_x) (κ := 6) (by exact mP_Kx) rfl (by decide) rfl rfl (Nat.le_of_ble_eq_true rfl) dX7_formula_145 (by rw [hRc, hRs]; omega) (fun T4 hp => ?_)
            obtain ⟨E3, rfl, k1, k2, k3⟩ := hp
            refine g_iinc (c := 1) Z dX7_formula_148 rfl (by decide) (by decide) ?_
            rw [nI_1]
            refine g_goto Z 173 dX7_formula_151 (by decide) ?_
            exact g_lv (by (repeat (first | exact trivial | refine And.intro rfl ?_)); done) (next (h + 1) E3 hlt (stp_set (Or.inr hg20) h8) ⟨k2, fun q hq => k1.gd (by omega) (by omega) (hIE.2 q hq)⟩ (fun i hi => by
              by_cases e : i = h
              · subst e; exact k3
              · exact k1.gd (by omega) (by omega) (hP i (by omega))))
        · have hjn := inN.t hi1 h95
          have h2 : 2 ≤ h := Decidable.byContradiction (fun q => by rw [stp_joinN hjn q] at eu; cases eu)
          obtain ⟨h', rfl⟩ : ∃ h', h = h' + 2 := ⟨h - 2, by omega⟩
          refine g_iinc (c := (-1)) Z dX7_formula_98 rfl (by decide) (by decide) ?_
          rw [show nI (8 + (h' + 2)) + (-1) = nI (8 + (h' + 1)) from pk_m1 (8 + (h' + 1))]
          refine g_aload_n Z dX7_formula_101 rfl ?_
          refine g_iload Z dX7_formula_102 rfl ?_
          refine g_bipush (v := 16) Z dX7_formula_104 (by decide) ?_
          refine g_isub Z dX7_formula_106 ?_
          refine g_iload Z dX7_formula_107 rfl ?_
          refine g_iconst (v := 1) Z dX7_formula_109 (by decide) ?_
          refine g_isub Z dX7_formula_110 ?_
          rw [show nI (8 + (h' + 1)) - 1 = nI (8 + h') from nI_pred (8 + h')]
          refine g_iload Z dX7_formula_111 rfl ?_
          refine g_cvI Z (c_X7_make F.l F.D F.cy F.nw A x ho _ _ hIE.1 _ _ _ (by omega) (by omega)) 3 gX7_formula_X7_make rfl (by decide +kernel) (by rw [hRf, hRl]; decide) (by exact mP_x) (κ := 6) (by exact mP_Kx) rfl (by decide) rfl rfl (Nat.le_of_ble_eq_true rfl) dX7_formula_113 (by rw [hRc, hRs]; omega) (fun r2 T2 hp => ?_)
          obtain ⟨-, E2, rfl, s1, s2, s3⟩ := hp
          obtain ⟨n1, hn1, en1, hg1⟩ := id s3
          refine g_if_ne Z 122 dX7_formula_116 (by decide) (fun h116 => ?_) (fun h116 => ?_)
          · refine g_aload_n Z dX7_formula_122 rfl ?_
            refine g_bipush (v := 16) Z dX7_formula_123 (by decide) ?_
            refine g_iload Z dX7_formula_125 rfl ?_
            refine g_iconst (v := 1) Z dX7_formula_127 (by decide) ?_
            refine g_isub Z dX7_formula_128 ?_
            rw [show nI (8 + (h' + 1)) - 1 = nI (8 + h') from nI_pred (8 + h')]
            refine g_cvV Z (c_X7_copySet F.l F.D F.cy F.nw A x ho _ _ s2 16 (8 + h') (by omega) (by omega) (by omega) n1 hn1 en1) 2 gX7_formula_X7_copySet rfl (by decide +kernel) (by rw [hRf, hRl]; decide) (by exact mP_x) (κ := 6) (by exact mP_Kx) rfl (by decide) rfl rfl (Nat.le_of_ble_eq_true rfl) dX7_formula_129 (by rw [hRc, hRs]; omega) (fun T3 hp => ?_)
            obtain ⟨E3, rfl, k1, k2, k3, k4⟩ := hp
            refine g_goto Z 173 dX7_formula_132 (by decide) ?_
            exact g_lv (by (repeat (first | exact trivial | refine And.intro rfl ?_)); done) (next (h' + 1) E3 hlt (stp_join hjn (by omega)) ⟨k2, fun q hq => k1.gd (by omega) (by omega) ((hIE.s16 s1 s2).2 q hq)⟩ (fun i hi => by
              by_cases e : i = h'
              · subst e; exact k4 s3
              · exact k1.gd (by omega) (by omega) (s1.gd (by omega) (by omega) (hP i (by omega)))))
          · refine g_bipush (v := (-3)) Z dX7_formula_119 (by decide) ?_
            exact g_iret Z dX7_formula_121 (by omega) (by omega) (⟨E2, _, w - k, rfl, hIE.s16 s1 s2, ⟨rfl, rfl⟩, rfl, Or.inl ⟨⟨s, hs, ht⟩, k, hk1, hk8, hn0, hyk, hkw, by omega⟩⟩)
  refine g_iload_n Z dX7_formula_0 rfl ?_
  refine g_csI Z (c_X7_isSet F.l F.D F.cy F.nw _ _) 1 gX7_formula_X7_isSet rfl (by decide +kernel) (by rw [hRf, hRl]; decide) rfl rfl (Nat.le_of_ble_eq_true rfl) dX7_formula_1 (by rw [hRc, hRs]; omega) (fun r T hp => ?_)
  obtain ⟨rfl, hit⟩ := hp
  refine g_if_eq Z 29 dX7_formula_4 (by decide) (fun h4 => ?_) (fun h4 => ?_)
  · refine g_bipush (v := (-2)) Z dX7_formula_29 (by decide) ?_
    exact g_iret Z dX7_formula_31 (by omega) (by omega) (by first | exact ⟨C, R, w, rfl, hI, ⟨rfl, rfl⟩, ew, Or.inr ⟨fun q => hit.nS h4 q.1, rfl⟩⟩ | exact ⟨C, R, w, rfl, hI, ⟨rfl, rfl⟩, ew, Or.inr ⟨fun q => by obtain ⟨-, k, q1, q2, q3, -⟩ := q; exact hin.f h17 ⟨k, q1, q2, q3⟩, rfl⟩⟩ | exact ⟨C, R, w, rfl, hI, ⟨rfl, rfl⟩, ew, Or.inr ⟨fun q => by obtain ⟨-, k2, q1, q2, q3, q4, -⟩ := q; rw [← (nI_eq (by omega) (by omega)).mp q3] at q4; exact hyk q4, rfl⟩⟩)
  · obtain ⟨s, hs, rfl⟩ := hit.is h4
    refine g_iload Z dX7_formula_7 rfl ?_
    refine g_i2l Z dX7_formula_9 ?_
    refine g_lconst (v := 1) Z dX7_formula_10 (by decide) ?_
    refine g_ldc2 (v := 8) Z dX7_formula_11 ct130 ?_
    refine g_csI Z (c_X7_in F.l F.D F.cy F.nw _ _ _ _) 3 gX7_formula_X7_in rfl (by decide +kernel) (by rw [hRf, hRl]; decide) rfl rfl (Nat.le_of_ble_eq_true rfl) dX7_formula_14 (by rw [hRc, hRs]; omega) (fun r1 T1 hp => ?_)
    obtain ⟨rfl, hi0⟩ := hp
    have hin := in_R (x := n0) (a := 1) (b := 8) (by decide) (by decide) hi0
    refine g_if_eq Z 29 dX7_formula_17 (by decide) (fun h17 => ?_) (fun h17 => ?_)
    · refine g_bipush (v := (-2)) Z dX7_formula_29 (by decide) ?_
      exact g_iret Z dX7_formula_31 (by omega) (by omega) (by first | exact ⟨C, R, w, rfl, hI, ⟨rfl, rfl⟩, ew, Or.inr ⟨fun q => hit.nS h4 q.1, rfl⟩⟩ | exact ⟨C, R, w, rfl, hI, ⟨rfl, rfl⟩, ew, Or.inr ⟨fun q => by obtain ⟨-, k, q1, q2, q3, -⟩ := q; exact hin.f h17 ⟨k, q1, q2, q3⟩, rfl⟩⟩ | exact ⟨C, R, w, rfl, hI, ⟨rfl, rfl⟩, ew, Or.inr ⟨fun q => by obtain ⟨-, k2, q1, q2, q3, q4, -⟩ := q; rw [← (nI_eq (by omega) (by omega)).mp q3] at q4; exact hyk q4, rfl⟩⟩)
    · obtain ⟨k, hk1, hk8, rfl⟩ := hin.t h17
      refine g_lload_n Z dX7_formula_20 rfl ?_
      refine g_iload Z dX7_formula_21 rfl ?_
      refine g_csI Z (c_X7_isFormula F.l F.D F.cy F.nw _ _ k (by omega)) 2 gX7_formula_X7_isFormula rfl (by decide +kernel) (by rw [hRf, hRl]; decide) rfl rfl (Nat.le_of_ble_eq_true rfl) dX7_formula_23 (by rw [hRc, hRs]; omega) (fun r2 T2 hp => ?_)
      obtain ⟨rfl, hf⟩ := hp
      refine g_if_ne Z 32 dX7_formula_26 (by decide) (fun h26 => ?_) (fun h26 => ?_)
      · have hyk : hts y k = some 1 := by rcases hf with e | e; exact e.2; exact absurd e.1 h26
        refine g_aload_n Z dX7_formula_32 rfl ?_
        refine m_get_wk Z in6 lk27 dX7_formula_33 ?_
        rw [ew]
        refine g_iload Z dX7_formula_36 rfl ?_
        refine g_icmp_ge Z 44 dX7_formula_38 (by decide) (fun h38 => ?_) (fun h38 => ?_)
        · have hkw : k ≤ w := ge_t (by omega) (by omega) h38
          refine g_aload_n Z dX7_formula_44 rfl ?_
          refine g_dup Z dX7_formula_45 rfl ?_
          refine m_get_wk Z in6 lk27 dX7_formula_46 ?_
          rw [ew]
          refine g_iload Z dX7_formula_49 rfl ?_
          refine g_isub Z dX7_formula_51 ?_
          rw [pk_sub hkw]
          refine m_put_wk Z in6 lk27 dX7_formula_52 ?_
          refine g_bipush (v := 8) Z dX7_formula_55 (by decide) ?_
          refine g_istore Z dX7_formula_57 (by decide) ?_
          refine g_iconst (v := 0) Z dX7_formula_59 (by decide) ?_
          refine g_istore Z dX7_formula_60 (by decide) ?_
          exact g_lv (by (repeat (first | exact trivial | refine And.intro rfl ?_)); done) (loop 9 s k (by omega) rfl hk1 hk8 rfl hyk hkw 0 0 C (by omega) ⟨by omega, by omega, rfl, hI, fun i hi => by omega⟩)
        · have hkw : ¬ k ≤ w := fun q => h38 (nI_le q (by omega))
          refine g_bipush (v := (-5)) Z dX7_formula_41 (by decide) ?_
          exact g_iret Z dX7_formula_43 (by omega) (by omega) (⟨C, R, w, rfl, hI, ⟨rfl, rfl⟩, ew, Or.inr ⟨fun q => by obtain ⟨-, k2, q1, q2, q3, -, q5⟩ := q; rw [← (nI_eq (by omega) (by omega)).mp q3] at q5; exact hkw q5, rfl⟩⟩)
      · have hyk : hts y k ≠ some 1 := by rcases hf with e | e; exact absurd (e.1.symm.trans h26) (by decide); exact e.2
        refine g_bipush (v := (-2)) Z dX7_formula_29 (by decide) ?_
        exact g_iret Z dX7_formula_31 (by omega) (by omega) (by first | exact ⟨C, R, w, rfl, hI, ⟨rfl, rfl⟩, ew, Or.inr ⟨fun q => hit.nS h4 q.1, rfl⟩⟩ | exact ⟨C, R, w, rfl, hI, ⟨rfl, rfl⟩, ew, Or.inr ⟨fun q => by obtain ⟨-, k, q1, q2, q3, -⟩ := q; exact hin.f h17 ⟨k, q1, q2, q3⟩, rfl⟩⟩ | exact ⟨C, R, w, rfl, hI, ⟨rfl, rfl⟩, ew, Or.inr ⟨fun q => by obtain ⟨-, k2, q1, q2, q3, q4, -⟩ := q; rw [← (nI_eq (by omega) (by omega)).mp q3] at q4; exact hyk q4, rfl⟩⟩)
