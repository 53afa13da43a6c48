set_option maxRecDepth 100000 in
set_option maxHeartbeats 2000000 in
/-- a range -/
theorem f_X7_range (l : Launch) (D : va_G) (cy : Nat → ClassId) (nw : Nat) (A : Nat → Nat) (x : Nat) (ho : mOk A x) (C : C5) (R : MR) (V : Nat → Sv) (hM : MV C V) (hV : ∀ s, s < 8 → Vok (V s)) (a b c d e : Int32) : kI l yX7_range wsX7_range 3 78 D cy nw [.ref x, .int a, .int b, .int c, .int d, .int e] (mP A x (C, R)) (fun r T => (∃ j key f t, rgOk a b c d e j key f t ∧ ∃ r0 W E, mP A x (E, R) = T ∧ Chg (V j) key (e = 1) (rg e f t) r0 W ∧ r = (if r0 = -3 then -3 else nI (sT W W.1)) ∧ MV E (va_up V j W)) ∨ ((¬ ∃ j key f t, rgOk a b c d e j key f t) ∧ r = -2 ∧ (mP A x (C, R)) = T)) 0 0 := by
  refine enterI (cc := cX7_range) (nL := 6) (ret := (some .int)) (by decide +kernel) rfl (Nat.le_of_ble_eq_true rfl) ?_
  intro F Z hl hR hD hcy hnw hnm
  subst hl hD hcy hnw
  have hRf : F.R.frames = 3 := by rw [hR]
  have hRc : F.R.cells = 0 := by rw [hR]
  have hRs : F.R.slots = 0 := by rw [hR]
  have hRl : F.R.locals = 78 := by rw [hR]
  have in6 : ∀ w ∈ u_ws RX7 TX7 16, w ∈ wsX7_range := by decide +kernel
  have ct94 : Cond.constantLong RX7 94 (2) ∈ wsX7_range := by decide +kernel
  refine g_iload_n Z dX7_range_0 rfl ?_
  refine g_csI Z (c_X7_isSet F.l F.D F.cy F.nw _ _) 1 gX7_range_X7_isSet rfl (by decide +kernel) (by rw [hRf, hRl]; decide) rfl rfl (Nat.le_of_ble_eq_true rfl) dX7_range_1 (by rw [hRc, hRs]; omega) (fun r T hp => ?_)
  obtain ⟨rfl, his⟩ := hp
  refine g_if_eq Z 48 dX7_range_4 (by decide) (fun h4 => ?_) (fun h4 => ?_)
  · have hno : ¬ ∃ j' key' f' t', rgOk a b c d e j' key' f' t' := fun ⟨j', key', f', t', q1, q2, q3, q4, q5, q6, q7, q8, q9, q10⟩ => his.f h4 ⟨j', by omega, by omega, q2⟩
    refine g_bipush (v := (-2)) Z dX7_range_48 (by decide) ?_
    exact g_iret Z dX7_range_50 (by omega) (by omega) (Or.inr ⟨hno, rfl, rfl⟩)
  · obtain ⟨s, hs, rfl⟩ := his.is h4
    refine g_iload_n Z dX7_range_7 rfl ?_
    refine g_csI Z (c_X7_isLow F.l F.D F.cy F.nw _ _) 1 gX7_range_X7_isLow rfl (by decide +kernel) (by rw [hRf, hRl]; decide) rfl rfl (Nat.le_of_ble_eq_true rfl) dX7_range_8 (by rw [hRc, hRs]; omega) (fun r T hp => ?_)
    obtain ⟨rfl, hik⟩ := hp
    refine g_if_eq Z 48 dX7_range_11 (by decide) (fun h11 => ?_) (fun h11 => ?_)
    · have hno : ¬ ∃ j' key' f' t', rgOk (nI s) b c d e j' key' f' t' := fun ⟨j', key', f', t', q1, q2, q3, q4, q5, q6, q7, q8, q9, q10⟩ => hik.f h11 ⟨key', by omega, by omega, q4⟩
      refine g_bipush (v := (-2)) Z dX7_range_48 (by decide) ?_
      exact g_iret Z dX7_range_50 (by omega) (by omega) (Or.inr ⟨hno, rfl, rfl⟩)
    · obtain ⟨key, hkey, rfl⟩ := hik.is h11
      refine g_iload_n Z dX7_range_14 rfl ?_
      refine g_csI Z (c_X7_isLow F.l F.D F.cy F.nw _ _) 1 gX7_range_X7_isLow rfl (by decide +kernel) (by rw [hRf, hRl]; decide) rfl rfl (Nat.le_of_ble_eq_true rfl) dX7_range_15 (by rw [hRc, hRs]; omega) (fun r T hp => ?_)
      obtain ⟨rfl, hif⟩ := hp
      refine g_if_eq Z 48 dX7_range_18 (by decide) (fun h18 => ?_) (fun h18 => ?_)
      · have hno : ¬ ∃ j' key' f' t', rgOk (nI s) (nI key) c d e j' key' f' t' := fun ⟨j', key', f', t', q1, q2, q3, q4, q5, q6, q7, q8, q9, q10⟩ => hif.f h18 ⟨f', by omega, by omega, q6⟩
        refine g_bipush (v := (-2)) Z dX7_range_48 (by decide) ?_
        exact g_iret Z dX7_range_50 (by omega) (by omega) (Or.inr ⟨hno, rfl, rfl⟩)
      · obtain ⟨f, hf, rfl⟩ := hif.is h18
        refine g_iload Z dX7_range_21 rfl ?_
        refine g_csI Z (c_X7_isLow F.l F.D F.cy F.nw _ _) 1 gX7_range_X7_isLow rfl (by decide +kernel) (by rw [hRf, hRl]; decide) rfl rfl (Nat.le_of_ble_eq_true rfl) dX7_range_23 (by rw [hRc, hRs]; omega) (fun r T hp => ?_)
        obtain ⟨rfl, hit⟩ := hp
        refine g_if_eq Z 48 dX7_range_26 (by decide) (fun h26 => ?_) (fun h26 => ?_)
        · have hno : ¬ ∃ j' key' f' t', rgOk (nI s) (nI key) (nI f) d e j' key' f' t' := fun ⟨j', key', f', t', q1, q2, q3, q4, q5, q6, q7, q8, q9, q10⟩ => hit.f h26 ⟨t', by omega, by omega, q8⟩
          refine g_bipush (v := (-2)) Z dX7_range_48 (by decide) ?_
          exact g_iret Z dX7_range_50 (by omega) (by omega) (Or.inr ⟨hno, rfl, rfl⟩)
        · obtain ⟨t, ht, rfl⟩ := hit.is h26
          refine g_iload_n Z dX7_range_29 rfl ?_
          refine g_iload Z dX7_range_30 rfl ?_
          refine g_icmp_gt Z 48 dX7_range_32 (by decide) (fun h32 => ?_) (fun h32 => ?_)
          · have hno : ¬ ∃ j' key' f' t', rgOk (nI s) (nI key) (nI f) (nI t) e j' key' f' t' := fun ⟨j', key', f', t', q1, q2, q3, q4, q5, q6, q7, q8, q9, q10⟩ => by have h1 := (nI_ltI (a := t) (b := f) (by omega) (by omega)).mp h32; have h2 : f = f' := (nI_eq (by omega) (by omega)).mp q6; have h3 : t = t' := (nI_eq (by omega) (by omega)).mp q8; omega
            refine g_bipush (v := (-2)) Z dX7_range_48 (by decide) ?_
            exact g_iret Z dX7_range_50 (by omega) (by omega) (Or.inr ⟨hno, rfl, rfl⟩)
          · have hft : f ≤ t := Nat.le_of_not_lt (fun q => h32 ((nI_ltI (a := t) (b := f) (by omega) (by omega)).mpr q))
            refine g_iload Z dX7_range_35 rfl ?_
            refine g_i2l Z dX7_range_37 ?_
            refine g_lconst (v := 0) Z dX7_range_38 (by decide) ?_
            refine g_ldc2 (v := 2) Z dX7_range_39 ct94 ?_
            refine g_csI Z (c_X7_in F.l F.D F.cy F.nw _ _ _ _) 3 gX7_range_X7_in rfl (by decide +kernel) (by rw [hRf, hRl]; decide) rfl rfl (Nat.le_of_ble_eq_true rfl) dX7_range_42 (by rw [hRc, hRs]; omega) (fun r T hp => ?_)
            obtain ⟨rfl, hi0⟩ := hp
            have hie := in_R (x := e) (a := 0) (b := 2) (by decide) (by decide) hi0
            refine g_if_ne Z 51 dX7_range_45 (by decide) (fun h45 => ?_) (fun h45 => ?_)
            · have he : e = 0 ∨ e = 1 ∨ e = 2 := by
                obtain ⟨j, hj, rfl⟩ := hie.is h45
                rcases (show j = 0 ∨ j = 1 ∨ j = 2 by omega) with rfl | rfl | rfl
                · exact Or.inl rfl
                · exact Or.inr (Or.inl rfl)
                · exact Or.inr (Or.inr rfl)
              refine g_aload_n Z dX7_range_51 rfl ?_
              refine g_iload_n Z dX7_range_52 rfl ?_
              refine g_iload_n Z dX7_range_53 rfl ?_
              refine g_iload_n Z dX7_range_54 rfl ?_
              refine g_iload Z dX7_range_55 rfl ?_
              refine g_iconst (v := 1) Z dX7_range_57 (by decide) ?_
              refine g_iload Z dX7_range_58 rfl ?_
              refine g_cvI Z (f_X7_sweep F.l F.D F.cy F.nw A x ho C R V hM hV s (by omega) key (by omega) f t 1 (t - f + 1) (by omega) (by omega) hft (by omega) (by omega) (by omega) (fun i hi => by omega) e he) 6 gX7_range_X7_sweep rfl (by decide +kernel) (by rw [hRf, hRl]; decide) (by exact mP_x) (κ := 6) (by exact mP_Kx) rfl (by decide) rfl rfl (Nat.le_of_ble_eq_true rfl) dX7_range_60 (by rw [hRc, hRs]; omega) (fun r T hp => ?_)
              obtain ⟨W, r0, E, rfl, hch, hr, hME⟩ := hp
              rw [show (fun W => sw e W f 1 (t - f + 1)) = rg e f t from funext (fun W => sw_rg hft (by omega) W)] at hch
              exact g_iret Z dX7_range_63 (by omega) (by omega) (Or.inl ⟨s, key, f, t, ⟨by omega, rfl, by omega, rfl, by omega, rfl, by omega, rfl, hft, he⟩, r0, W, E, rfl, hch, hr, hME⟩)
            · have hno : ¬ ∃ j' key' f' t', rgOk (nI s) (nI key) (nI f) (nI t) e j' key' f' t' := by
                intro ⟨j', key', f', t', q1, q2, q3, q4, q5, q6, q7, q8, q9, q10⟩
                refine hie.f h45 ?_
                rcases q10 with rfl | rfl | rfl
                · exact ⟨0, by omega, by omega, rfl⟩
                · exact ⟨1, by omega, by omega, rfl⟩
                · exact ⟨2, by omega, by omega, rfl⟩
              refine g_bipush (v := (-2)) Z dX7_range_48 (by decide) ?_
              exact g_iret Z dX7_range_50 (by omega) (by omega) (Or.inr ⟨hno, rfl, rfl⟩)

set_option maxRecDepth 100000 in
set_option maxHeartbeats 2000000 in
/-- numbers by steps -/
theorem f_X7_steps (l : Launch) (D : va_G) (cy : Nat → ClassId) (nw : Nat) (A : Nat → Nat) (x : Nat) (ho : mOk A x) (C : C5) (R : MR) (V : Nat → Sv) (hM : MV C V) (hV : ∀ s, s < 8 → Vok (V s)) (a b c d : Int32) : kI l yX7_steps wsX7_steps 3 78 D cy nw [.ref x, .int a, .int b, .int c, .int d] (mP A x (C, R)) (fun r T => (∃ j key f q, stOk a b c d j key f q ∧ ∃ r0 W E, mP A x (E, R) = T ∧ Chg (V j) key False (fun W => stR W f q (stN f q)) r0 W ∧ r = (if r0 = -3 then -3 else nI (sT W W.1)) ∧ MV E (va_up V j W)) ∨ ((¬ ∃ j key f q, stOk a b c d j key f q) ∧ r = -2 ∧ (mP A x (C, R)) = T)) 0 0 := by
  refine enterI (cc := cX7_steps) (nL := 5) (ret := (some .int)) (by decide +kernel) rfl (Nat.le_of_ble_eq_true rfl) ?_
  intro F Z hl hR hD hcy hnw hnm
  subst hl hD hcy hnw
  have hRf : F.R.frames = 3 := by rw [hR]
  have hRc : F.R.cells = 0 := by rw [hR]
  have hRs : F.R.slots = 0 := by rw [hR]
  have hRl : F.R.locals = 78 := by rw [hR]
  have in6 : ∀ w ∈ u_ws RX7 TX7 16, w ∈ wsX7_steps := by decide +kernel
  have ct50 : Cond.constantLong RX7 50 (65535) ∈ wsX7_steps := by decide +kernel
  have ct74 : Cond.constant RX7 74 (65535) ∈ wsX7_steps := by decide +kernel
  refine g_iload_n Z dX7_steps_0 rfl ?_
  refine g_csI Z (c_X7_isSet F.l F.D F.cy F.nw _ _) 1 gX7_steps_X7_isSet rfl (by decide +kernel) (by rw [hRf, hRl]; decide) rfl rfl (Nat.le_of_ble_eq_true rfl) dX7_steps_1 (by rw [hRc, hRs]; omega) (fun r T hp => ?_)
  obtain ⟨rfl, his⟩ := hp
  refine g_if_eq Z 34 dX7_steps_4 (by decide) (fun h4 => ?_) (fun h4 => ?_)
  · have hno : ¬ ∃ j' key' f' q', stOk a b c d j' key' f' q' := fun ⟨j', key', f', q', q1, q2, q3, q4, q5, q6, q7, q8, q9⟩ => his.f h4 ⟨j', by omega, by omega, q2⟩
    refine g_bipush (v := (-2)) Z dX7_steps_34 (by decide) ?_
    exact g_iret Z dX7_steps_36 (by omega) (by omega) (Or.inr ⟨hno, rfl, rfl⟩)
  · obtain ⟨s, hs, rfl⟩ := his.is h4
    refine g_iload_n Z dX7_steps_7 rfl ?_
    refine g_csI Z (c_X7_isLow F.l F.D F.cy F.nw _ _) 1 gX7_steps_X7_isLow rfl (by decide +kernel) (by rw [hRf, hRl]; decide) rfl rfl (Nat.le_of_ble_eq_true rfl) dX7_steps_8 (by rw [hRc, hRs]; omega) (fun r T hp => ?_)
    obtain ⟨rfl, hik⟩ := hp
    refine g_if_eq Z 34 dX7_steps_11 (by decide) (fun h11 => ?_) (fun h11 => ?_)
    · have hno : ¬ ∃ j' key' f' q', stOk (nI s) b c d j' key' f' q' := fun ⟨j', key', f', q', q1, q2, q3, q4, q5, q6, q7, q8, q9⟩ => hik.f h11 ⟨key', by omega, by omega, q4⟩
      refine g_bipush (v := (-2)) Z dX7_steps_34 (by decide) ?_
      exact g_iret Z dX7_steps_36 (by omega) (by omega) (Or.inr ⟨hno, rfl, rfl⟩)
    · obtain ⟨key, hkey, rfl⟩ := hik.is h11
      refine g_iload_n Z dX7_steps_14 rfl ?_
      refine g_csI Z (c_X7_isLow F.l F.D F.cy F.nw _ _) 1 gX7_steps_X7_isLow rfl (by decide +kernel) (by rw [hRf, hRl]; decide) rfl rfl (Nat.le_of_ble_eq_true rfl) dX7_steps_15 (by rw [hRc, hRs]; omega) (fun r T hp => ?_)
      obtain ⟨rfl, hif⟩ := hp
      refine g_if_eq Z 34 dX7_steps_18 (by decide) (fun h18 => ?_) (fun h18 => ?_)
      · have hno : ¬ ∃ j' key' f' q', stOk (nI s) (nI key) c d j' key' f' q' := fun ⟨j', key', f', q', q1, q2, q3, q4, q5, q6, q7, q8, q9⟩ => hif.f h18 ⟨f', by omega, by omega, q6⟩
        refine g_bipush (v := (-2)) Z dX7_steps_34 (by decide) ?_
        exact g_iret Z dX7_steps_36 (by omega) (by omega) (Or.inr ⟨hno, rfl, rfl⟩)
      · obtain ⟨f, hf, rfl⟩ := hif.is h18
        refine g_iload Z dX7_steps_21 rfl ?_
        refine g_i2l Z dX7_steps_23 ?_
        refine g_lconst (v := 1) Z dX7_steps_24 (by decide) ?_
        refine g_ldc2 (v := 65535) Z dX7_steps_25 ct50 ?_
        refine g_csI Z (c_X7_in F.l F.D F.cy F.nw _ _ _ _) 3 gX7_steps_X7_in rfl (by decide +kernel) (by rw [hRf, hRl]; decide) rfl rfl (Nat.le_of_ble_eq_true rfl) dX7_steps_28 (by rw [hRc, hRs]; omega) (fun r T hp => ?_)
        obtain ⟨rfl, hi0⟩ := hp
        have hiq := in_R (x := d) (a := 1) (b := 65535) (by decide) (by decide) hi0
        refine g_if_ne Z 37 dX7_steps_31 (by decide) (fun h31 => ?_) (fun h31 => ?_)
        · obtain ⟨q, hq1, hq2, rfl⟩ := hiq.t h31
          obtain ⟨hN1, hN2⟩ := stN_ok (f := f) (q := q) (by omega) hq1
          refine g_aload_n Z dX7_steps_37 rfl ?_
          refine g_iload_n Z dX7_steps_38 rfl ?_
          refine g_iload_n Z dX7_steps_39 rfl ?_
          refine g_iload_n Z dX7_steps_40 rfl ?_
          refine g_ldc (v := 65535) Z dX7_steps_41 ct74 ?_
          refine g_iload Z dX7_steps_43 rfl ?_
          refine g_iconst (v := 0) Z dX7_steps_45 (by decide) ?_
          refine g_cvI Z (f_X7_sweep F.l F.D F.cy F.nw A x ho C R V hM hV s (by omega) key (by omega) f 65535 q (stN f q) (by omega) (by omega) (by omega) hq1 (by omega) hN1 hN2 0 (Or.inl rfl)) 6 gX7_steps_X7_sweep rfl (by decide +kernel) (by rw [hRf, hRl]; decide) (by exact mP_x) (κ := 6) (by exact mP_Kx) rfl (by decide) rfl rfl (Nat.le_of_ble_eq_true rfl) dX7_steps_46 (by rw [hRc, hRs]; omega) (fun r T hp => ?_)
          obtain ⟨W, r0, E, rfl, hch, hr, hME⟩ := hp
          rw [show (fun W => sw 0 W f q (stN f q)) = (fun W => stR W f q (stN f q)) from funext (fun W => sw_st W _ hN2), show ((0 : Int32) = 1) = False from eq_false (by decide)] at hch
          exact g_iret Z dX7_steps_49 (by omega) (by omega) (Or.inl ⟨s, key, f, q, ⟨by omega, rfl, by omega, rfl, by omega, rfl, hq1, by omega, rfl⟩, r0, W, E, rfl, hch, hr, hME⟩)
        · have hno : ¬ ∃ j' key' f' q', stOk (nI s) (nI key) (nI f) d j' key' f' q' := fun ⟨j', key', f', q', q1, q2, q3, q4, q5, q6, q7, q8, q9⟩ => hiq.f h31 ⟨q', by omega, by omega, q9⟩
          refine g_bipush (v := (-2)) Z dX7_steps_34 (by decide) ?_
          exact g_iret Z dX7_steps_36 (by omega) (by omega) (Or.inr ⟨hno, rfl, rfl⟩)

set_option maxRecDepth 100000 in
set_option maxHeartbeats 2000000 in
/-- a set is emptied -/
theorem f_X7_clear (l : Launch) (D : va_G) (cy : Nat → ClassId) (nw : Nat) (A : Nat → Nat) (x : Nat) (ho : mOk A x) (C : C5) (R : MR) (V : Nat → Sv) (hM : MV C V) (hV : ∀ s, s < 8 → Vok (V s)) (a : Int32) : kI l yX7_clear wsX7_clear 2 45 D cy nw [.ref x, .int a] (mP A x (C, R)) (fun r T => (∃ j, j < 8 ∧ a = nI j ∧ r = nI (sT (V j) (V j).1) ∧ ∃ E, mP A x (E, R) = T ∧ MV E (va_up V j eS)) ∨ (¬ isS a ∧ r = -2 ∧ (mP A x (C, R)) = T)) 0 0 := by
  refine enterI (cc := cX7_clear) (nL := 3) (ret := (some .int)) (by decide +kernel) rfl (Nat.le_of_ble_eq_true rfl) ?_
  intro F Z hl hR hD hcy hnw hnm
  subst hl hD hcy hnw
  have hRf : F.R.frames = 2 := by rw [hR]
  have hRc : F.R.cells = 0 := by rw [hR]
  have hRs : F.R.slots = 0 := by rw [hR]
  have hRl : F.R.locals = 45 := by rw [hR]
  have in6 : ∀ w ∈ u_ws RX7 TX7 16, w ∈ wsX7_clear := by decide +kernel
  have lk7 : Cond.fieldLink RX7 7 (TX7 0).1 (TX7 0).2.1 (TX7 0).2.2.1 ∈ wsX7_clear := by decide +kernel
  refine g_iload_n Z dX7_clear_0 rfl ?_
  refine g_csI Z (c_X7_isSet F.l F.D F.cy F.nw _ _) 1 gX7_clear_X7_isSet rfl (by decide +kernel) (by rw [hRf, hRl]; decide) rfl rfl (Nat.le_of_ble_eq_true rfl) dX7_clear_1 (by rw [hRc, hRs]; omega) (fun r T hp => ?_)
  obtain ⟨rfl, his⟩ := hp
  refine g_if_ne Z 10 dX7_clear_4 (by decide) (fun h4 => ?_) (fun h4 => ?_)
  · obtain ⟨s, hs, rfl⟩ := his.is h4
    refine g_aload_n Z dX7_clear_10 rfl ?_
    refine g_iload_n Z dX7_clear_11 rfl ?_
    refine g_cvI Z (f_X7_all F.l F.D F.cy F.nw A x ho _ _ s (by omega) (V s) (hM s (by omega))) 1 gX7_clear_X7_all rfl (by decide +kernel) (by rw [hRf, hRl]; decide) (by exact mP_x) (κ := 6) (by exact mP_Kx) rfl (by decide) rfl rfl (Nat.le_of_ble_eq_true rfl) dX7_clear_12 (by rw [hRc, hRs]; omega) (fun r T hp => ?_)
    obtain ⟨rfl, rfl⟩ := hp
    refine g_istore_n Z dX7_clear_15 (by decide) ?_
    refine g_aload_n Z dX7_clear_16 rfl ?_
    refine m_ref_mn Z in6 lk7 dX7_clear_17 ?_
    refine g_iload_n Z dX7_clear_20 rfl ?_
    refine g_iconst (v := 0) Z dX7_clear_21 (by decide) ?_
    refine m_ast_mn Z ho dX7_clear_22 (by exact vp_in_nI (by omega) (by decide)) ?_
    rw [nI_clamp (by omega)]
    refine g_iload_n Z dX7_clear_23 rfl ?_
    exact g_iret Z dX7_clear_24 (by omega) (by omega) (Or.inl ⟨s, by omega, rfl, rfl, _, rfl, hM.one Me.mn ⟨by decide, pk_us (x := nI 0), fun i hi => absurd hi (Nat.not_lt_zero _)⟩⟩)
  · refine g_bipush (v := (-2)) Z dX7_clear_7 (by decide) ?_
    exact g_iret Z dX7_clear_9 (by omega) (by omega) (Or.inr ⟨his.f' h4, rfl, rfl⟩)

set_option maxRecDepth 100000 in
set_option maxHeartbeats 2000000 in
/-- kinds are chosen anew -/
theorem f_X7_shrink (l : Launch) (D : va_G) (cy : Nat → ClassId) (nw : Nat) (A : Nat → Nat) (x : Nat) (ho : mOk A x) (C : C5) (R : MR) (V : Nat → Sv) (hM : MV C V) (hV : ∀ s, s < 8 → Vok (V s)) (w : Nat) (hw : w ≤ 300) (ew : R.wk = nI w) (a : Int32) : kI l yX7_shrink wsX7_shrink 2 50 D cy nw [.ref x, .int a] (mP A x (C, R)) (fun r T => (∃ j, j < 8 ∧ a = nI j ∧ 1 ≤ w ∧ r = nI (kN (shV (V j)) 2 (V j).1) ∧ ∃ E, mP A x (E, R.s_wk (nI (w - 1))) = T ∧ MV E (va_up V j (shV (V j)))) ∨ (¬ (isS a ∧ 1 ≤ w) ∧ (mP A x (C, R)) = T ∧ ((isS a ∧ r = -5) ∨ (¬ isS a ∧ r = -2)))) 0 0 := by
  refine enterI (cc := cX7_shrink) (nL := 6) (ret := (some .int)) (by decide +kernel) rfl (Nat.le_of_ble_eq_true rfl) ?_
  intro F Z hl hR hD hcy hnw hnm
  subst hl hD hcy hnw
  have hRf : F.R.frames = 2 := by rw [hR]
  have hRc : F.R.cells = 0 := by rw [hR]
  have hRs : F.R.slots = 0 := by rw [hR]
  have hRl : F.R.locals = 50 := by rw [hR]
  have in6 : ∀ w ∈ u_ws RX7 TX7 16, w ∈ wsX7_shrink := by decide +kernel
  have lk7 : Cond.fieldLink RX7 7 (TX7 0).1 (TX7 0).2.1 (TX7 0).2.2.1 ∈ wsX7_shrink := by decide +kernel
  have lk16 : Cond.fieldLink RX7 16 (TX7 2).1 (TX7 2).2.1 (TX7 2).2.2.1 ∈ wsX7_shrink := by decide +kernel
  have lk19 : Cond.fieldLink RX7 19 (TX7 3).1 (TX7 3).2.1 (TX7 3).2.2.1 ∈ wsX7_shrink := by decide +kernel
  have lk27 : Cond.fieldLink RX7 27 (TX7 5).1 (TX7 5).2.1 (TX7 5).2.2.1 ∈ wsX7_shrink := by decide +kernel
  have loop : ∀ (n s : Nat), s < 8 → a = nI s → 1 ≤ w → ∀ (k : Nat) (g : Nat → Int32), (V s).1 - k < n → (k ≤ (V s).1 ∧ (∀ i, i < k → g (6 * s + i) = ((shV (V s)).2 i).2.1) ∧ ∀ d, (∀ i, i < k → d ≠ 6 * s + i) → g d = C.kd d) → G F 6 (mP A x (C.s_kd g, R.s_wk (nI (w - 1)))) 0 0 (QI F (fun r T => (∃ j, j < 8 ∧ a = nI j ∧ 1 ≤ w ∧ r = nI (kN (shV (V j)) 2 (V j).1) ∧ ∃ E, mP A x (E, R.s_wk (nI (w - 1))) = T ∧ MV E (va_up V j (shV (V j)))) ∨ (¬ (isS a ∧ 1 ≤ w) ∧ (mP A x (C, R)) = T ∧ ((isS a ∧ r = -5) ∨ (¬ isS a ∧ r = -2)))) 0 0) 35 [(0, .ref x), (1, .int (nI s)), (2, .int (nI (kN (shV (V s)) 2 k))), (3, .int (nI k))] [] := by
    intro n s hs ea hw1
    induction n with
    | zero => intros; omega
    | succ n ih =>
      intro k g hn ⟨hk, hg1, hg2⟩
      have hms := hM s hs
      have hn6 := hms.1
      have j132 : ∀ (u : Int32), k < (V s).1 → u = (if ((shV (V s)).2 k).2.1 = 2 then 1 else 0) → G F 6 (mP A x (C.s_kd (upd g (6 * s + k) ((shV (V s)).2 k).2.1), R.s_wk (nI (w - 1)))) 0 0 (QI F (fun r T => (∃ j, j < 8 ∧ a = nI j ∧ 1 ≤ w ∧ r = nI (kN (shV (V j)) 2 (V j).1) ∧ ∃ E, mP A x (E, R.s_wk (nI (w - 1))) = T ∧ MV E (va_up V j (shV (V j)))) ∨ (¬ (isS a ∧ 1 ≤ w) ∧ (mP A x (C, R)) = T ∧ ((isS a ∧ r = -5) ∨ (¬ isS a ∧ r = -2)))) 0 0) 132 [(0, .ref x), (1, .int (nI s)), (3, .int (nI k))] [.int u, .int (nI (kN (shV (V s)) 2 k))] := by
        intro u hlt hu
        have hsum : nI (kN (shV (V s)) 2 k) + u = nI (kN (shV (V s)) 2 (k + 1)) := by
          rw [hu]
          show _ = nI (if ((shV (V s)).2 k).2.1 = 2 then kN (shV (V s)) 2 k + 1 else kN (shV (V s)) 2 k)
          by_cases e : ((shV (V s)).2 k).2.1 = 2
          · rw [if_pos e, if_pos e, nI_1]
          · rw [if_neg e, if_neg e]; exact add0 _
        refine g_iadd Z dX7_shrink_132 ?_
        rw [hsum]
        refine g_istore_n Z dX7_shrink_133 (by decide) ?_
        refine g_iinc (c := 1) Z dX7_shrink_134 rfl (by decide) (by decide) ?_
        rw [nI_1]
        refine g_goto Z 35 dX7_shrink_137 (by decide) ?_
        exact g_lv (by (repeat (first | exact trivial | refine And.intro rfl ?_)); done) (ih (k + 1) _ (by omega) ⟨by omega, fun i hi => by
          by_cases e : i = k
          · subst e; exact pk_us
          · exact (pk_un (by omega)).trans (hg1 i (by omega)), fun d hd => (pk_un (hd k (by omega))).trans (hg2 d (fun i hi => hd i (by omega)))⟩)
      have j114 : ∀ (z : Int32), k < (V s).1 → z = ((shV (V s)).2 k).2.1 → G F 6 (mP A x (C.s_kd g, R.s_wk (nI (w - 1)))) 0 0 (QI F (fun r T => (∃ j, j < 8 ∧ a = nI j ∧ 1 ≤ w ∧ r = nI (kN (shV (V j)) 2 (V j).1) ∧ ∃ E, mP A x (E, R.s_wk (nI (w - 1))) = T ∧ MV E (va_up V j (shV (V j)))) ∨ (¬ (isS a ∧ 1 ≤ w) ∧ (mP A x (C, R)) = T ∧ ((isS a ∧ r = -5) ∨ (¬ isS a ∧ r = -2)))) 0 0) 114 [(0, .ref x), (1, .int (nI s)), (2, .int (nI (kN (shV (V s)) 2 k))), (3, .int (nI k)), (4, .int (nI (6 * s + k)))] [.int z, .int (nI (6 * s + k)), .ref (A 2)] := by
        intro z hlt hz
        subst hz
        refine m_ast_kd Z ho dX7_shrink_114 (by exact vp_in_nI (by omega) (by decide)) ?_
        rw [nI_clamp (by omega)]
        refine g_iload_n Z dX7_shrink_115 rfl ?_
        refine g_aload_n Z dX7_shrink_116 rfl ?_
        refine m_ref_kd Z in6 lk16 dX7_shrink_117 ?_
        refine g_iload Z dX7_shrink_120 rfl ?_
        refine m_ald_kd Z ho dX7_shrink_122 (by exact vp_in_nI (by omega) (by decide)) ?_
        rw [nI_clamp (by omega), show C5.kd (C.s_kd (upd g (6 * s + k) ((shV (V s)).2 k).2.1)) (6 * s + k) = ((shV (V s)).2 k).2.1 from pk_us]
        refine g_iconst (v := 2) Z dX7_shrink_123 (by decide) ?_
        refine g_icmp_ne Z 131 dX7_shrink_124 (by decide) (fun h124 => ?_) (fun h124 => ?_)
        · refine g_iconst (v := 0) Z dX7_shrink_131 (by decide) ?_
          first | exact g_lv (by (repeat (first | exact trivial | refine And.intro rfl ?_)); done) (j132 _ hlt (by rw [if_pos h124])) | exact g_lv (by (repeat (first | exact trivial | refine And.intro rfl ?_)); done) (j132 _ hlt (by rw [if_neg h124]))
        · refine g_iconst (v := 1) Z dX7_shrink_127 (by decide) ?_
          refine g_goto Z 132 dX7_shrink_128 (by decide) ?_
          first | exact g_lv (by (repeat (first | exact trivial | refine And.intro rfl ?_)); done) (j132 _ hlt (by rw [if_pos h124])) | exact g_lv (by (repeat (first | exact trivial | refine And.intro rfl ?_)); done) (j132 _ hlt (by rw [if_neg h124]))
      have j81 : ∀ (z : Int32), k < (V s).1 → z = (if (4096 : Int32) < nI (tot ((V s).2 k).2.2) then 8192 else 2 * nI (tot ((V s).2 k).2.2)) → G F 6 (mP A x (C.s_kd g, R.s_wk (nI (w - 1)))) 0 0 (QI F (fun r T => (∃ j, j < 8 ∧ a = nI j ∧ 1 ≤ w ∧ r = nI (kN (shV (V j)) 2 (V j).1) ∧ ∃ E, mP A x (E, R.s_wk (nI (w - 1))) = T ∧ MV E (va_up V j (shV (V j)))) ∨ (¬ (isS a ∧ 1 ≤ w) ∧ (mP A x (C, R)) = T ∧ ((isS a ∧ r = -5) ∨ (¬ isS a ∧ r = -2)))) 0 0) 81 [(0, .ref x), (1, .int (nI s)), (2, .int (nI (kN (shV (V s)) 2 k))), (3, .int (nI k)), (4, .int (nI (6 * s + k)))] [.int z] := by
        intro z hlt hz
        have hmc := hms.mc hlt
        have hrn : rn C.wd (6 * s + k) 65536 = rnT ((V s).2 k).2.2 := by rw [rnT_eq]; exact (rn_congr 65536 hmc.2.2.2).1
        have hkd : ((shV (V s)).2 k).2.1 = (if z ≤ 2 + 4 * nI (rnT ((V s).2 k).2.2) then plK (nI (tot ((V s).2 k).2.2)) else 2) := by rw [hz]; rfl
        refine g_istore Z dX7_shrink_81 (by decide) ?_
        refine g_aload_n Z dX7_shrink_83 rfl ?_
        refine m_ref_kd Z in6 lk16 dX7_shrink_84 ?_
        refine g_iload Z dX7_shrink_87 rfl ?_
        refine g_iconst (v := 2) Z dX7_shrink_89 (by decide) ?_
        refine g_iconst (v := 4) Z dX7_shrink_90 (by decide) ?_
        refine g_aload_n Z dX7_shrink_91 rfl ?_
        refine g_iload Z dX7_shrink_92 rfl ?_
        refine g_cvI Z (c_X7_runsOf F.l F.D F.cy F.nw A x ho _ _ _ (by omega)) 1 gX7_shrink_X7_runsOf rfl (by decide +kernel) (by rw [hRf, hRl]; decide) (by exact mP_x) (κ := 6) (by exact mP_Kx) rfl (by decide) rfl rfl (Nat.le_of_ble_eq_true rfl) dX7_shrink_94 (by rw [hRc, hRs]; omega) (fun r1 T1 hp => ?_)
        obtain ⟨rfl, rfl⟩ := hp
        rw [show C5.wd (C.s_kd g) = C.wd from rfl, hrn]
        refine g_imul Z dX7_shrink_97 ?_
        refine g_iadd Z dX7_shrink_98 ?_
        refine g_iload Z dX7_shrink_99 rfl ?_
        refine g_icmp_ge Z 108 dX7_shrink_101 (by decide) (fun h101 => ?_) (fun h101 => ?_)
        · refine g_aload_n Z dX7_shrink_108 rfl ?_
          refine g_iload Z dX7_shrink_109 rfl ?_
          refine g_cvI Z (f_X7_plainKind F.l F.D F.cy F.nw A x ho _ _ _ (by omega)) 1 gX7_shrink_X7_plainKind rfl (by decide +kernel) (by rw [hRf, hRl]; decide) (by exact mP_x) (κ := 6) (by exact mP_Kx) rfl (by decide) rfl rfl (Nat.le_of_ble_eq_true rfl) dX7_shrink_111 (by rw [hRc, hRs]; omega) (fun r2 T2 hp => ?_)
          obtain ⟨rfl, rfl⟩ := hp
          rw [show C5.sz (C.s_kd g) (6 * s + k) = nI (tot ((V s).2 k).2.2) from hmc.2.2.1]
          first | exact g_lv (by (repeat (first | exact trivial | refine And.intro rfl ?_)); done) (j114 _ hlt (by rw [hkd, if_pos h101])) | exact g_lv (by (repeat (first | exact trivial | refine And.intro rfl ?_)); done) (j114 _ hlt (by rw [hkd, if_neg h101]))
        · refine g_iconst (v := 2) Z dX7_shrink_104 (by decide) ?_
          refine g_goto Z 114 dX7_shrink_105 (by decide) ?_
          first | exact g_lv (by (repeat (first | exact trivial | refine And.intro rfl ?_)); done) (j114 _ hlt (by rw [hkd, if_pos h101])) | exact g_lv (by (repeat (first | exact trivial | refine And.intro rfl ?_)); done) (j114 _ hlt (by rw [hkd, if_neg h101]))
      refine g_iload_n Z dX7_shrink_35 rfl ?_
      refine g_aload_n Z dX7_shrink_36 rfl ?_
      refine m_ref_mn Z in6 lk7 dX7_shrink_37 ?_
      refine g_iload_n Z dX7_shrink_40 rfl ?_
      refine m_ald_mn Z ho dX7_shrink_41 (by exact vp_in_nI (by omega) (by decide)) ?_
      rw [nI_clamp (by omega), show C5.mn (C.s_kd g) s = nI (V s).1 from hms.2.1]
      refine g_icmp_ge Z 140 dX7_shrink_42 (by decide) (fun h42 => ?_) (fun h42 => ?_)
      · have he : k = (V s).1 := by have := ge_t (i := k) (N := (V s).1) (by omega) (by omega) h42; omega
        subst he
        refine g_iload_n Z dX7_shrink_140 rfl ?_
        exact g_iret Z dX7_shrink_141 (by omega) (by omega) (Or.inl ⟨s, hs, ea, hw1, rfl, _, rfl, hM.one (fun t _ ht => ⟨rfl, fun i hi => ⟨rfl, hg2 _ (fun q hq => by omega), rfl, fun _ _ => rfl⟩⟩) ⟨hn6, hms.2.1, fun i hi => ⟨(hms.mc hi).1, hg1 i hi, (hms.mc hi).2.2.1, (hms.mc hi).2.2.2⟩⟩⟩)
      · have hlt : k < (V s).1 := ge_f (by omega) (by omega) h42
        have hmc0 := hms.mc hlt
        refine g_bipush (v := 6) Z dX7_shrink_45 (by decide) ?_
        refine g_iload_n Z dX7_shrink_47 rfl ?_
        refine g_imul Z dX7_shrink_48 ?_
        refine g_iload_n Z dX7_shrink_49 rfl ?_
        refine g_iadd Z dX7_shrink_50 ?_
        rw [ix6]
        refine g_istore Z dX7_shrink_51 (by decide) ?_
        refine g_aload_n Z dX7_shrink_53 rfl ?_
        refine m_ref_sz Z in6 lk19 dX7_shrink_54 ?_
        refine g_iload Z dX7_shrink_57 rfl ?_
        refine m_ald_sz Z ho dX7_shrink_59 (by exact vp_in_nI (by omega) (by decide)) ?_
        rw [nI_clamp (by omega), show C5.sz (C.s_kd g) (6 * s + k) = nI (tot ((V s).2 k).2.2) from hmc0.2.2.1]
        refine g_sipush (v := 4096) Z dX7_shrink_60 (by decide) ?_
        refine g_icmp_gt Z 78 dX7_shrink_63 (by decide) (fun h63 => ?_) (fun h63 => ?_)
        · refine g_sipush (v := 8192) Z dX7_shrink_78 (by decide) ?_
          first | exact g_lv (by (repeat (first | exact trivial | refine And.intro rfl ?_)); done) (j81 _ hlt (by rw [if_pos h63])) | exact g_lv (by (repeat (first | exact trivial | refine And.intro rfl ?_)); done) (j81 _ hlt (by rw [if_neg h63]))
        · refine g_iconst (v := 2) Z dX7_shrink_66 (by decide) ?_
          refine g_aload_n Z dX7_shrink_67 rfl ?_
          refine m_ref_sz Z in6 lk19 dX7_shrink_68 ?_
          refine g_iload Z dX7_shrink_71 rfl ?_
          refine m_ald_sz Z ho dX7_shrink_73 (by exact vp_in_nI (by omega) (by decide)) ?_
          rw [nI_clamp (by omega), show C5.sz (C.s_kd g) (6 * s + k) = nI (tot ((V s).2 k).2.2) from hmc0.2.2.1]
          refine g_imul Z dX7_shrink_74 ?_
          refine g_goto Z 81 dX7_shrink_75 (by decide) ?_
          first | exact g_lv (by (repeat (first | exact trivial | refine And.intro rfl ?_)); done) (j81 _ hlt (by rw [if_pos h63])) | exact g_lv (by (repeat (first | exact trivial | refine And.intro rfl ?_)); done) (j81 _ hlt (by rw [if_neg h63]))
  refine g_iload_n Z dX7_shrink_0 rfl ?_
  refine g_csI Z (c_X7_isSet F.l F.D F.cy F.nw _ _) 1 gX7_shrink_X7_isSet rfl (by decide +kernel) (by rw [hRf, hRl]; decide) rfl rfl (Nat.le_of_ble_eq_true rfl) dX7_shrink_1 (by rw [hRc, hRs]; omega) (fun r T hp => ?_)
  obtain ⟨rfl, his⟩ := hp
  refine g_if_ne Z 10 dX7_shrink_4 (by decide) (fun h4 => ?_) (fun h4 => ?_)
  · obtain ⟨s, hs, rfl⟩ := his.is h4
    refine g_aload_n Z dX7_shrink_10 rfl ?_
    refine m_get_wk Z in6 lk27 dX7_shrink_11 ?_
    rw [ew]
    refine g_iconst (v := 1) Z dX7_shrink_14 (by decide) ?_
    refine g_icmp_ge Z 21 dX7_shrink_15 (by decide) (fun h15 => ?_) (fun h15 => ?_)
    · have hw1 : 1 ≤ w := ge_t (N := 1) (by omega) (by decide) h15
      refine g_aload_n Z dX7_shrink_21 rfl ?_
      refine g_dup Z dX7_shrink_22 rfl ?_
      refine m_get_wk Z in6 lk27 dX7_shrink_23 ?_
      rw [ew]
      refine g_iconst (v := 1) Z dX7_shrink_26 (by decide) ?_
      refine g_isub Z dX7_shrink_27 ?_
      rw [s1' hw1]
      refine m_put_wk Z in6 lk27 dX7_shrink_28 ?_
      refine g_iconst (v := 0) Z dX7_shrink_31 (by decide) ?_
      refine g_istore_n Z dX7_shrink_32 (by decide) ?_
      refine g_iconst (v := 0) Z dX7_shrink_33 (by decide) ?_
      refine g_istore_n Z dX7_shrink_34 (by decide) ?_
      exact g_lv (by (repeat (first | exact trivial | refine And.intro rfl ?_)); done) (loop 7 s (by omega) rfl hw1 0 C.kd (by have := (hM s (by omega)).1; omega) ⟨by omega, fun i hi => by omega, fun _ _ => rfl⟩)
    · have hw0 : ¬ 1 ≤ w := fun q => h15 (nI_le (a := 1) q (by omega))
      refine g_bipush (v := (-5)) Z dX7_shrink_18 (by decide) ?_
      exact g_iret Z dX7_shrink_20 (by omega) (by omega) (Or.inr ⟨fun q => hw0 q.2, rfl, Or.inl ⟨isS_of hs, rfl⟩⟩)
  · refine g_bipush (v := (-2)) Z dX7_shrink_7 (by decide) ?_
    exact g_iret Z dX7_shrink_9 (by omega) (by omega) (Or.inr ⟨fun q => his.nS h4 q.1, rfl, Or.inr ⟨his.nS h4, rfl⟩⟩)

set_option maxRecDepth 100000 in
set_option maxHeartbeats 2000000 in
/-- all lows of key 0 -/
theorem f_X7_layAll (l : Launch) (D : va_G) (cy : Nat → ClassId) (nw : Nat) (A : Nat → Nat) (x : Nat) (ho : mOk A x) (C : C5) (R : MR) (s : Nat) (hs : s < 17) : kV l yX7_layAll wsX7_layAll 2 48 D cy nw [.ref x, .int (nI s)] (mP A x (C, R)) (fun T => ∃ E, mP A x (E, R) = T ∧ Me s C E ∧ Ms E s aV) 0 0 := by
  refine enterV (cc := cX7_layAll) (nL := 4) (ret := none) (by decide +kernel) rfl (Nat.le_of_ble_eq_true rfl) ?_
  intro F Z hl hR hD hcy hnw hnm
  subst hl hD hcy hnw
  have hRf : F.R.frames = 2 := by rw [hR]
  have hRc : F.R.cells = 0 := by rw [hR]
  have hRs : F.R.slots = 0 := by rw [hR]
  have hRl : F.R.locals = 48 := by rw [hR]
  have in6 : ∀ w ∈ u_ws RX7 TX7 16, w ∈ wsX7_layAll := by decide +kernel
  have lk7 : Cond.fieldLink RX7 7 (TX7 0).1 (TX7 0).2.1 (TX7 0).2.2.1 ∈ wsX7_layAll := by decide +kernel
  have lk16 : Cond.fieldLink RX7 16 (TX7 2).1 (TX7 2).2.1 (TX7 2).2.2.1 ∈ wsX7_layAll := by decide +kernel
  have lk19 : Cond.fieldLink RX7 19 (TX7 3).1 (TX7 3).2.1 (TX7 3).2.2.1 ∈ wsX7_layAll := by decide +kernel
  have lk23 : Cond.fieldLink RX7 23 (TX7 4).1 (TX7 4).2.1 (TX7 4).2.2.1 ∈ wsX7_layAll := by decide +kernel
  have ct52 : Cond.constantLong RX7 52 (-1) ∈ wsX7_layAll := by decide +kernel
  have ct107 : Cond.constant RX7 107 (65536) ∈ wsX7_layAll := by decide +kernel
  have loop : ∀ (n : Nat) (E : C5), Me s C E → Ms E s (eS.ins 0 (0, 0, zW)) → ∀ (w : Nat) (g : Nat → Int64), 1024 - w < n → (w ≤ 1024 ∧ (∀ d, d ≠ 6 * s + 0 → ∀ l, l < 65536 → cb g d l = cb E.wd d l) ∧ ∀ l, l < 64 * w → cb g (6 * s + 0) l = 1) → G F 4 (mP A x (E.s_wd g, R)) 0 0 (QV F (fun T => ∃ E, mP A x (E, R) = T ∧ Me s C E ∧ Ms E s aV) 0 0) 16 [(0, .ref x), (1, .int (nI s)), (2, .int (nI (6 * s + 0))), (3, .int (nI w))] [] := by
    intro n E hS hE
    induction n with
    | zero => intros; omega
    | succ n ih =>
      intro w g hn ⟨hw, h1, h2⟩
      refine g_iload_n Z dX7_layAll_16 rfl ?_
      refine g_sipush (v := 1024) Z dX7_layAll_17 (by decide) ?_
      refine g_icmp_ge Z 44 dX7_layAll_20 (by decide) (fun h20 => ?_) (fun h20 => ?_)
      · have he : w = 1024 := by have := ge_t (N := 1024) (by omega) (by decide) h20; omega
        subst he
        have hC : Mb (6 * s + 0) E (((E.s_wd g).s_sz (upd E.sz (6 * s + 0) 65536)).s_kd (upd E.kd (6 * s + 0) 1)) := ⟨rfl, fun d hd => ⟨rfl, pk_un hd, pk_un hd, h1 d hd⟩⟩
        have hm0 := hE.mc (i := 0) (by decide)
        rw [in_at] at hm0
        refine g_aload_n Z dX7_layAll_44 rfl ?_
        refine m_ref_sz Z in6 lk19 dX7_layAll_45 ?_
        refine g_iload_n Z dX7_layAll_48 rfl ?_
        refine g_ldc (v := 65536) Z dX7_layAll_49 ct107 ?_
        refine m_ast_sz Z ho dX7_layAll_51 (by exact vp_in_nI (by omega) (by decide)) ?_
        rw [nI_clamp (by omega)]
        refine g_aload_n Z dX7_layAll_52 rfl ?_
        refine m_ref_kd Z in6 lk16 dX7_layAll_53 ?_
        refine g_iload_n Z dX7_layAll_56 rfl ?_
        refine g_iconst (v := 1) Z dX7_layAll_57 (by decide) ?_
        refine m_ast_kd Z ho dX7_layAll_58 (by exact vp_in_nI (by omega) (by decide)) ?_
        rw [nI_clamp (by omega)]
        exact g_vret Z dX7_layAll_59 (by omega) (by omega) (⟨_, rfl, hS.tr (hC.me (by omega)), by decide, hE.2.1, fun i hi => by
          have e : i = 0 := by have : i < 1 := hi; omega
          subst e
          exact ⟨hm0.1, pk_us, pk_us.trans (by show (65536 : Int32) = nI (tot mW); rw [tot_mW]; rfl), fun l hl => (h2 l (by omega)).trans (mW_bit l).symm⟩⟩)
      · have hlt : w < 1024 := ge_f (by omega) (by decide) h20
        obtain ⟨k1, k2⟩ := on_step hlt h1 h2
        refine g_aload_n Z dX7_layAll_23 rfl ?_
        refine m_ref_wd Z in6 lk23 dX7_layAll_24 ?_
        refine g_sipush (v := 1024) Z dX7_layAll_27 (by decide) ?_
        refine g_iload_n Z dX7_layAll_30 rfl ?_
        refine g_imul Z dX7_layAll_31 ?_
        refine g_iload_n Z dX7_layAll_32 rfl ?_
        refine g_iadd Z dX7_layAll_33 ?_
        rw [ixw]
        refine g_ldc2 (v := -1) Z dX7_layAll_34 ct52 ?_
        refine m_ast_wd Z ho dX7_layAll_37 (by exact vp_in_nI (by omega) (by decide)) ?_
        rw [nI_clamp (by omega)]
        refine g_iinc (c := 1) Z dX7_layAll_38 rfl (by decide) (by decide) ?_
        rw [nI_1]
        refine g_goto Z 16 dX7_layAll_41 (by decide) ?_
        exact g_lv (by (repeat (first | exact trivial | refine And.intro rfl ?_)); done) (ih (w + 1) _ (by omega) ⟨by omega, k1, k2⟩)
  refine g_aload_n Z dX7_layAll_0 rfl ?_
  refine m_ref_mn Z in6 lk7 dX7_layAll_1 ?_
  refine g_iload_n Z dX7_layAll_4 rfl ?_
  refine g_iconst (v := 0) Z dX7_layAll_5 (by decide) ?_
  refine m_ast_mn Z ho dX7_layAll_6 (by exact vp_in_nI (by omega) (by decide)) ?_
  rw [nI_clamp (by omega)]
  refine g_aload_n Z dX7_layAll_7 rfl ?_
  refine g_iload_n Z dX7_layAll_8 rfl ?_
  refine g_iconst (v := 0) Z dX7_layAll_9 (by decide) ?_
  refine g_cvI Z (f_X7_made F.l F.D F.cy F.nw A x ho _ _ s (by omega) eS ⟨by decide, pk_us (x := nI 0), fun i hi => absurd hi (Nat.not_lt_zero _)⟩ (fun i hi => absurd hi (Nat.not_lt_zero _)) (fun i j _ hj => absurd hj (Nat.not_lt_zero _)) (by decide) 0 (by decide) (fun i hi => absurd hi (Nat.not_lt_zero _))) 2 gX7_layAll_X7_made rfl (by decide +kernel) (by rw [hRf, hRl]; decide) (by exact mP_x) (κ := 6) (by exact mP_Kx) rfl (by decide) rfl rfl (Nat.le_of_ble_eq_true rfl) dX7_layAll_10 (by rw [hRc, hRs]; omega) (fun r T hp => ?_)
  obtain ⟨E, j, rfl, rfl, hix, e3, e4⟩ := hp
  have ej : j = 0 := Nat.le_zero.mp hix.1
  subst ej
  refine g_istore_n Z dX7_layAll_13 (by decide) ?_
  refine g_iconst (v := 0) Z dX7_layAll_14 (by decide) ?_
  refine g_istore_n Z dX7_layAll_15 (by decide) ?_
  exact g_lv (by (repeat (first | exact trivial | refine And.intro rfl ?_)); done) (loop 1025 E (Me.mn.tr e3) e4 0 E.wd (by omega) ⟨by omega, fun _ _ _ _ => rfl, fun l hl => by omega⟩)

set_option maxRecDepth 100000 in
set_option maxHeartbeats 2000000 in
/-- a formula -/
theorem f_X7_formula_w (l : Launch) (D : va_G) (cy : Nat → ClassId) (nw : Nat) (A : Nat → Nat) (x : Nat) (ho : mOk A x) (C : C5) (R : MR) (V : Nat → Sv) (hM : MV C V) (hV : ∀ s, s < 8 → Vok (V s)) (w : Nat) (hw : w ≤ 300) (ew : R.wk = nI w) (jt : Nat) (hjt : jt < 8) (y : Int64) (k : Nat) (hk1 : 1 ≤ k) (hk8 : k ≤ 8) (hhts : hts y k = some 1) (hkw : k ≤ w) : kI l yX7_formula wsX7_formula 4 104 D cy nw [.ref x, .int (nI jt), .long y, .int (nI k)] (mP A x (C, R)) (fun r T => ∃ E V2, mP A x (E, R.s_wk (nI (w - k))) = T ∧ MV E V2 ∧ ((∃ L, evF V y k 0 0 (fun _ => eS) = some L ∧ r = nI (sT (L 0) (L 0).1) ∧ V2 = va_up V jt (L 0)) ∨ (evF V y k 0 0 (fun _ => eS) = none ∧ r = -3 ∧ V2 = V))) 0 0 := by
  refine enterI (cc := cX7_formula) (nL := 8) (ret := (some .int)) (by decide +kernel) rfl (Nat.le_of_ble_eq_true rfl) ?_
  intro F Z hl hR hD hcy hnw hnm
  subst hl hD hcy hnw
  have hRf : F.R.frames = 4 := by rw [hR]
  have hRc : F.R.cells = 0 := by rw [hR]
  have hRs : F.R.slots = 0 := by rw [hR]
  have hRl : F.R.locals = 104 := by rw [hR]
  have in6 : ∀ w ∈ u_ws RX7 TX7 16, w ∈ wsX7_formula := by decide +kernel
  have lk27 : Cond.fieldLink RX7 27 (TX7 5).1 (TX7 5).2.1 (TX7 5).2.2.1 ∈ wsX7_formula := by decide +kernel
  have ct124 : Cond.constantLong RX7 124 (255) ∈ wsX7_formula := by decide +kernel
  have ct126 : Cond.constantLong RX7 126 (16) ∈ wsX7_formula := by decide +kernel
  have ct128 : Cond.constantLong RX7 128 (19) ∈ wsX7_formula := by decide +kernel
  have ct130 : Cond.constantLong RX7 130 (8) ∈ wsX7_formula := by decide +kernel
  have loop : ∀ (n j h : Nat) (E : C5) (L : Nat → Sv), k - j < n → (j ≤ k ∧ h ≤ 8 ∧ hts y j = some h ∧ MV E V ∧ (∀ i, i < h → Ms E (8 + i) (L i)) ∧ (∀ i, Vok (L i)) ∧ evF V y (k - j) j h L = evF V y k 0 0 (fun _ => eS)) → G F 8 (mP A x (E, R.s_wk (nI (w - k)))) 0 0 (QI F (fun r T => ∃ E V2, mP A x (E, R.s_wk (nI (w - k))) = T ∧ MV E V2 ∧ ((∃ L, evF V y k 0 0 (fun _ => eS) = some L ∧ r = nI (sT (L 0) (L 0).1) ∧ V2 = va_up V jt (L 0)) ∨ (evF V y k 0 0 (fun _ => eS) = none ∧ r = -3 ∧ V2 = V))) 0 0) 62 [(0, .ref x), (1, .int (nI jt)), (2, .long y), (4, .int (nI k)), (5, .int (nI (8 + h))), (6, .int (nI j))] [] := by
    intro n
    induction n with
    | zero => intros; omega
    | succ n ih =>
      intro j h E L hn ⟨hj, hh, eh, hME, hP, hL, hev⟩
      have hs1 := hts_s eh
      have hlt256 := sg_lt y j
      have next : ∀ (h2 : Nat) (D : C5) (L2 : Nat → Sv), j < k → stp h (sg y j) = some h2 → MV D V → (∀ i, i < h2 → Ms D (8 + i) (L2 i)) → (∀ i, Vok (L2 i)) → evF V y (k - (j + 1)) (j + 1) h2 L2 = evF V y k 0 0 (fun _ => eS) → G F 8 (mP A x (D, R.s_wk (nI (w - k)))) 0 0 (QI F (fun r T => ∃ E V2, mP A x (E, R.s_wk (nI (w - k))) = T ∧ MV E V2 ∧ ((∃ L, evF V y k 0 0 (fun _ => eS) = some L ∧ r = nI (sT (L 0) (L 0).1) ∧ V2 = va_up V jt (L 0)) ∨ (evF V y k 0 0 (fun _ => eS) = none ∧ r = -3 ∧ V2 = V))) 0 0) 173 [(0, .ref x), (1, .int (nI jt)), (2, .long y), (4, .int (nI k)), (5, .int (nI (8 + h2))), (6, .int (nI j))] [] := by
        intro h2 D L2 hlt e2 hID hPD hL2 hev2
        refine g_iinc (c := 1) Z dX7_formula_173 rfl (by decide) (by decide) ?_
        rw [nI_1]
        refine g_goto Z 62 dX7_formula_176 (by decide) ?_
        exact g_lv (by (repeat (first | exact trivial | refine And.intro rfl ?_)); done) (ih (j + 1) h2 D L2 (by omega) ⟨by omega, stp_le hh e2, hs1.trans e2, hID, hPD, hL2, hev2⟩)
      refine g_iload Z dX7_formula_62 rfl ?_
      refine g_iload Z dX7_formula_64 rfl ?_
      refine g_icmp_ge Z 179 dX7_formula_66 (by decide) (fun h66 => ?_) (fun h66 => ?_)
      · have he : j = k := by have := ge_t (i := j) (N := k) (by omega) (by omega) h66; omega
        subst he
        have hh1 : h = 1 := Option.some.inj (eh.symm.trans hhts)
        subst hh1
        rw [show j - j = 0 by omega] at hev
        have hP0 := hP 0 (by omega)
        refine g_aload_n Z dX7_formula_179 rfl ?_
        refine g_bipush (v := 8) Z dX7_formula_180 (by decide) ?_
        refine g_iload_n Z dX7_formula_182 rfl ?_
        refine g_cvV Z (f_X7_copySet F.l F.D F.cy F.nw A x ho _ _ 8 jt (by decide) (by omega) (by omega) (L 0) hP0) 2 gX7_formula_X7_copySet rfl (by decide +kernel) (by rw [hRf, hRl]; decide) (by exact mP_x) (κ := 6) (by exact mP_Kx) rfl (by decide) rfl rfl (Nat.le_of_ble_eq_true rfl) dX7_formula_183 (by rw [hRc, hRs]; omega) (fun T6 hp => ?_)
        obtain ⟨E2, rfl, k1, k2⟩ := hp
        refine g_aload_n Z dX7_formula_186 rfl ?_
        refine g_iload_n Z dX7_formula_187 rfl ?_
        refine g_cvI Z (f_X7_all F.l F.D F.cy F.nw A x ho _ _ jt (by omega) (L 0) k2) 1 gX7_formula_X7_all rfl (by decide +kernel) (by rw [hRf, hRl]; decide) (by exact mP_x) (κ := 6) (by exact mP_Kx) rfl (by decide) rfl rfl (Nat.le_of_ble_eq_true rfl) dX7_formula_188 (by rw [hRc, hRs]; omega) (fun r7 T7 hp => ?_)
        obtain ⟨rfl, rfl⟩ := hp
        exact g_iret Z dX7_formula_191 (by omega) (by omega) (⟨E2, _, rfl, hME.one k1 k2, Or.inl ⟨L, hev.symm, rfl, rfl⟩⟩)
      · have hlt : j < k := ge_f (by omega) (by omega) h66
        obtain ⟨u, eu⟩ := hts_some hhts (j := j + 1) (by omega)
        rw [hs1] at eu
        have hfu : k - j = (k - (j + 1)) + 1 := by omega
        refine g_lload_n Z dX7_formula_69 rfl ?_
        refine g_bipush (v := 8) Z dX7_formula_70 (by decide) ?_
        refine g_iload Z dX7_formula_72 rfl ?_
        refine g_imul Z dX7_formula_74 ?_
        refine g_lushr Z dX7_formula_75 ?_
        refine g_ldc2 (v := 255) Z dX7_formula_76 ct124 ?_
        refine g_land Z dX7_formula_79 ?_
        refine g_l2i Z dX7_formula_80 ?_
        rw [sg_m y j]
        refine g_istore Z dX7_formula_81 (by decide) ?_
        refine g_iload Z dX7_formula_83 rfl ?_
        refine g_i2l Z dX7_formula_85 ?_
        refine g_ldc2 (v := 16) Z dX7_formula_86 ct126 ?_
        refine g_ldc2 (v := 19) Z dX7_formula_89 ct128 ?_
        refine g_csI Z (c_X7_in F.l F.D F.cy F.nw _ _ _ _) 3 gX7_formula_X7_in rfl (by decide +kernel) (by rw [hRf, hRl]; decide) rfl rfl (Nat.le_of_ble_eq_true rfl) dX7_formula_92 (by rw [hRc, hRs]; omega) (fun r1 T1 hp => ?_)
        obtain ⟨rfl, hi0⟩ := hp
        have hi1 := inN (by omega) (by decide) (in_R (x := nI (sg y j)) (a := 16) (b := 19) (by decide) (by decide) hi0)
        refine g_if_eq Z 135 dX7_formula_95 (by decide) (fun h95 => ?_) (fun h95 => ?_)
        · have hnj := inN.f hi1 h95
          refine g_iload Z dX7_formula_135 rfl ?_
          refine g_bipush (v := 20) Z dX7_formula_137 (by decide) ?_
          refine g_icmp_ne Z 154 dX7_formula_139 (by decide) (fun h139 => ?_) (fun h139 => ?_)
          · have hn20 : sg y j ≠ 20 := fun e => h139 (by rw [e]; rfl)
            refine g_iload Z dX7_formula_154 rfl ?_
            refine g_sipush (v := 255) Z dX7_formula_156 (by decide) ?_
            refine g_icmp_eq Z 173 dX7_formula_159 (by decide) (fun h159 => ?_) (fun h159 => ?_)
            · have h255 : sg y j = 255 := (nI_eq (b := 255) (by omega) (by decide)).mp h159
              rw [hfu, ev_n h255] at hev
              first | exact g_lv (by (repeat (first | exact trivial | refine And.intro rfl ?_)); done) (next (h + 1) E3 (va_up L h (V (sg y j))) hlt (stp_set (Or.inl hg7) h8) (hME.oth (by omega) k1) (fun i hi => by
                by_cases e : i = h
                · subst e; rw [va_up_self]; exact k2
                · rw [va_up_ne _ _ e]; exact k1.ms (by omega) (by omega) (hP i (by omega))) (fun i => by
                by_cases e : i = h
                · subst e; rw [va_up_self]; exact hV _ hg7
                · rw [va_up_ne _ _ e]; exact hL i) hev) | exact g_lv (by (repeat (first | exact trivial | refine And.intro rfl ?_)); done) (next h E L hlt (stp_255 h255) hME hP hL hev)
            · have h255 : sg y j ≠ 255 := fun e => h159 (by rw [e]; rfl)
              have hg7 : sg y j < 8 := Decidable.byContradiction (fun q => by rw [stp_bad hnj (by omega) h255] at eu; cases eu)
              have h8 : h ≠ 8 := fun q => by rw [stp_setN (Or.inl hg7) q] at eu; cases eu
              rw [hfu, ev_s hg7] at hev
              refine g_aload_n Z dX7_formula_162 rfl ?_
              refine g_iload Z dX7_formula_163 rfl ?_
              refine g_iload Z dX7_formula_165 rfl ?_
              refine g_cvV Z (f_X7_copySet F.l F.D F.cy F.nw A x ho _ _ (sg y j) (8 + h) (by omega) (by omega) (by omega) (V (sg y j)) (hME _ hg7)) 2 gX7_formula_X7_copySet rfl (by decide +kernel) (by rw [hRf, hRl]; decide) (by exact mP_x) (κ := 6) (by exact mP_Kx) rfl (by decide) rfl rfl (Nat.le_of_ble_eq_true rfl) dX7_formula_167 (by rw [hRc, hRs]; omega) (fun T5 hp => ?_)
              obtain ⟨E3, rfl, k1, k2⟩ := hp
              refine g_iinc (c := 1) Z dX7_formula_170 rfl (by decide) (by decide) ?_
              rw [nI_1]
              first | exact g_lv (by (repeat (first | exact trivial | refine And.intro rfl ?_)); done) (next (h + 1) E3 (va_up L h (V (sg y j))) hlt (stp_set (Or.inl hg7) h8) (hME.oth (by omega) k1) (fun i hi => by
                by_cases e : i = h
                · subst e; rw [va_up_self]; exact k2
                · rw [va_up_ne _ _ e]; exact k1.ms (by omega) (by omega) (hP i (by omega))) (fun i => by
                by_cases e : i = h
                · subst e; rw [va_up_self]; exact hV _ hg7
                · rw [va_up_ne _ _ e]; exact hL i) hev) | exact g_lv (by (repeat (first | exact trivial | refine And.intro rfl ?_)); done) (next h E L hlt (stp_255 h255) hME hP hL hev)
          · have hg20 : sg y j = 20 := (nI_eq (b := 20) (by omega) (by decide)).mp h139
            have h8 : h ≠ 8 := fun q => by rw [stp_setN (Or.inr hg20) q] at eu; cases eu
            rw [hfu, ev_a hg20] at hev
            refine g_aload_n Z dX7_formula_142 rfl ?_
            refine g_iload Z dX7_formula_143 rfl ?_
            refine g_cvV Z (f_X7_layAll F.l F.D F.cy F.nw A x ho _ _ (8 + h) (by omega)) 1 gX7_formula_X7_layAll rfl (by decide +kernel) (by rw [hRf, hRl]; decide) (by exact mP_x) (κ := 6) (by exact mP_Kx) rfl (by decide) rfl rfl (Nat.le_of_ble_eq_true rfl) dX7_formula_145 (by rw [hRc, hRs]; omega) (fun T4 hp => ?_)
            obtain ⟨E3, rfl, k1, k2⟩ := hp
            refine g_iinc (c := 1) Z dX7_formula_148 rfl (by decide) (by decide) ?_
            rw [nI_1]
            refine g_goto Z 173 dX7_formula_151 (by decide) ?_
            exact g_lv (by (repeat (first | exact trivial | refine And.intro rfl ?_)); done) (next (h + 1) E3 (va_up L h aV) hlt (stp_set (Or.inr hg20) h8) (hME.oth (by omega) k1) (fun i hi => by
              by_cases e : i = h
              · subst e; rw [va_up_self]; exact k2
              · rw [va_up_ne _ _ e]; exact k1.ms (by omega) (by omega) (hP i (by omega))) (fun i => by
              by_cases e : i = h
              · subst e; rw [va_up_self]; exact Vok.aV
              · rw [va_up_ne _ _ e]; exact hL i) hev)
        · have hjn := inN.t hi1 h95
          have h2 : 2 ≤ h := Decidable.byContradiction (fun q => by rw [stp_joinN hjn q] at eu; cases eu)
          obtain ⟨h', rfl⟩ : ∃ h', h = h' + 2 := ⟨h - 2, by omega⟩
          rw [hfu, ev_j hjn, show h' + 2 - 2 = h' by omega, show h' + 2 - 1 = h' + 1 by omega] at hev
          have hx4 : nI (sg y j - 16) = 0 ∨ nI (sg y j - 16) = 1 ∨ nI (sg y j - 16) = 2 ∨ nI (sg y j - 16) = 3 := by
            rcases (show sg y j = 16 ∨ sg y j = 17 ∨ sg y j = 18 ∨ sg y j = 19 by omega) with e | e | e | e <;> rw [e]
            · exact Or.inl rfl
            · exact Or.inr (Or.inl rfl)
            · exact Or.inr (Or.inr (Or.inl rfl))
            · exact Or.inr (Or.inr (Or.inr rfl))
          refine g_iinc (c := (-1)) Z dX7_formula_98 rfl (by decide) (by decide) ?_
          rw [show nI (8 + (h' + 2)) + (-1) = nI (8 + (h' + 1)) from pk_m1 (8 + (h' + 1))]
          refine g_aload_n Z dX7_formula_101 rfl ?_
          refine g_iload Z dX7_formula_102 rfl ?_
          refine g_bipush (v := 16) Z dX7_formula_104 (by decide) ?_
          refine g_isub Z dX7_formula_106 ?_
          rw [show nI (sg y j) - 16 = nI (sg y j - 16) from pk_sub (a := sg y j) (b := 16) (by omega)]
          refine g_iload Z dX7_formula_107 rfl ?_
          refine g_iconst (v := 1) Z dX7_formula_109 (by decide) ?_
          refine g_isub Z dX7_formula_110 ?_
          rw [show nI (8 + (h' + 1)) - 1 = nI (8 + h') from nI_pred (8 + h')]
          refine g_iload Z dX7_formula_111 rfl ?_
          refine g_cvI Z (f_X7_make F.l F.D F.cy F.nw A x ho _ _ _ hx4 _ _ (by omega) (by omega) (L h') (L (h' + 1)) (hP h' (by omega)) (hP (h' + 1) (by omega)) (hL _) (hL _)) 3 gX7_formula_X7_make rfl (by decide +kernel) (by rw [hRf, hRl]; decide) (by exact mP_x) (κ := 6) (by exact mP_Kx) rfl (by decide) rfl rfl (Nat.le_of_ble_eq_true rfl) dX7_formula_113 (by rw [hRc, hRs]; omega) (fun r2 T2 hp => ?_)
          obtain ⟨E2, rfl, s1, hr⟩ := hp
          have hME2 := hME.oth (s := 16) (by omega) s1
          refine g_if_ne Z 122 dX7_formula_116 (by decide) (fun h116 => ?_) (fun h116 => ?_)
          · obtain ⟨W, hW, hmW⟩ : ∃ W, mgR (nI (sg y j - 16)) (L h') (L (h' + 1)) 13 0 0 eS = some W ∧ Ms E2 16 W := by
              rcases hr with ⟨-, e⟩ | ⟨e, -⟩
              · exact e
              · exact absurd e h116
            rw [hW] at hev
            have hWok := mg_ok0 (hL _) (hL _) hW
            refine g_aload_n Z dX7_formula_122 rfl ?_
            refine g_bipush (v := 16) Z dX7_formula_123 (by decide) ?_
            refine g_iload Z dX7_formula_125 rfl ?_
            refine g_iconst (v := 1) Z dX7_formula_127 (by decide) ?_
            refine g_isub Z dX7_formula_128 ?_
            rw [show nI (8 + (h' + 1)) - 1 = nI (8 + h') from nI_pred (8 + h')]
            refine g_cvV Z (f_X7_copySet F.l F.D F.cy F.nw A x ho _ _ 16 (8 + h') (by decide) (by omega) (by omega) W hmW) 2 gX7_formula_X7_copySet rfl (by decide +kernel) (by rw [hRf, hRl]; decide) (by exact mP_x) (κ := 6) (by exact mP_Kx) rfl (by decide) rfl rfl (Nat.le_of_ble_eq_true rfl) dX7_formula_129 (by rw [hRc, hRs]; omega) (fun T3 hp => ?_)
            obtain ⟨E3, rfl, k1, k2⟩ := hp
            refine g_goto Z 173 dX7_formula_132 (by decide) ?_
            exact g_lv (by (repeat (first | exact trivial | refine And.intro rfl ?_)); done) (next (h' + 1) E3 (va_up L h' W) hlt (stp_join hjn (by omega)) (hME2.oth (by omega) k1) (fun i hi => by
              by_cases e : i = h'
              · subst e; rw [va_up_self]; exact k2
              · rw [va_up_ne _ _ e]; exact k1.ms (by omega) (by omega) (s1.ms (by omega) (by omega) (hP i (by omega)))) (fun i => by
              by_cases e : i = h'
              · subst e; rw [va_up_self]; exact hWok
              · rw [va_up_ne _ _ e]; exact hL i) hev)
          · have hnone : mgR (nI (sg y j - 16)) (L h') (L (h' + 1)) 13 0 0 eS = none := by
              rcases hr with ⟨e, -⟩ | ⟨-, e⟩
              · rw [e] at h116; exact absurd h116 (by decide)
              · exact e
            rw [hnone] at hev
            refine g_bipush (v := (-3)) Z dX7_formula_119 (by decide) ?_
            exact g_iret Z dX7_formula_121 (by omega) (by omega) (⟨E2, V, rfl, hME2, Or.inr ⟨hev.symm, rfl, rfl⟩⟩)
  refine g_iload_n Z dX7_formula_0 rfl ?_
  refine g_csI Z (c_X7_isSet F.l F.D F.cy F.nw _ _) 1 gX7_formula_X7_isSet rfl (by decide +kernel) (by rw [hRf, hRl]; decide) rfl rfl (Nat.le_of_ble_eq_true rfl) dX7_formula_1 (by rw [hRc, hRs]; omega) (fun r T hp => ?_)
  obtain ⟨rfl, hit⟩ := hp
  refine g_if_eq Z 29 dX7_formula_4 (by decide) (fun h4 => absurd h4 (inR.y hit (by omega))) (fun h4 => ?_)
  refine g_iload Z dX7_formula_7 rfl ?_
  refine g_i2l Z dX7_formula_9 ?_
  refine g_lconst (v := 1) Z dX7_formula_10 (by decide) ?_
  refine g_ldc2 (v := 8) Z dX7_formula_11 ct130 ?_
  refine g_csI Z (c_X7_in F.l F.D F.cy F.nw _ _ _ _) 3 gX7_formula_X7_in rfl (by decide +kernel) (by rw [hRf, hRl]; decide) rfl rfl (Nat.le_of_ble_eq_true rfl) dX7_formula_14 (by rw [hRc, hRs]; omega) (fun r1 T1 hp => ?_)
  obtain ⟨rfl, hi0⟩ := hp
  have hin := in_R (x := nI k) (a := 1) (b := 8) (by decide) (by decide) hi0
  refine g_if_eq Z 29 dX7_formula_17 (by decide) (fun h17 => absurd h17 (fun e => hin.f e ⟨k, hk1, hk8, rfl⟩)) (fun h17 => ?_)
  refine g_lload_n Z dX7_formula_20 rfl ?_
  refine g_iload Z dX7_formula_21 rfl ?_
  refine g_csI Z (c_X7_isFormula F.l F.D F.cy F.nw _ _ k (by omega)) 2 gX7_formula_X7_isFormula rfl (by decide +kernel) (by rw [hRf, hRl]; decide) rfl rfl (Nat.le_of_ble_eq_true rfl) dX7_formula_23 (by rw [hRc, hRs]; omega) (fun r2 T2 hp => ?_)
  obtain ⟨rfl, hf⟩ := hp
  refine g_if_ne Z 32 dX7_formula_26 (by decide) (fun h26 => ?_) (fun h26 => ?_)
  · skip
    refine g_aload_n Z dX7_formula_32 rfl ?_
    refine m_get_wk Z in6 lk27 dX7_formula_33 ?_
    rw [ew]
    refine g_iload Z dX7_formula_36 rfl ?_
    refine g_icmp_ge Z 44 dX7_formula_38 (by decide) (fun h38 => ?_) (fun h38 => absurd (nI_le hkw (by omega)) h38)
    refine g_aload_n Z dX7_formula_44 rfl ?_
    refine g_dup Z dX7_formula_45 rfl ?_
    refine m_get_wk Z in6 lk27 dX7_formula_46 ?_
    rw [ew]
    refine g_iload Z dX7_formula_49 rfl ?_
    refine g_isub Z dX7_formula_51 ?_
    rw [pk_sub hkw]
    refine m_put_wk Z in6 lk27 dX7_formula_52 ?_
    refine g_bipush (v := 8) Z dX7_formula_55 (by decide) ?_
    refine g_istore Z dX7_formula_57 (by decide) ?_
    refine g_iconst (v := 0) Z dX7_formula_59 (by decide) ?_
    refine g_istore Z dX7_formula_60 (by decide) ?_
    exact g_lv (by (repeat (first | exact trivial | refine And.intro rfl ?_)); done) (loop 9 0 0 C (fun _ => eS) (by omega) ⟨by omega, by omega, rfl, hM, fun i hi => by omega, fun _ => Vok.eS, by rw [Nat.sub_zero]⟩)
  · rcases hf with e | e
    · exact absurd (e.1.symm.trans h26) (by decide)
    · exact absurd hhts e.2

set_option maxRecDepth 100000 in
set_option maxHeartbeats 2000000 in
/-- a formula that is refused -/
theorem f_X7_formula_n (l : Launch) (D : va_G) (cy : Nat → ClassId) (nw : Nat) (A : Nat → Nat) (x : Nat) (ho : mOk A x) (C : C5) (R : MR) (w : Nat) (hw : w ≤ 300) (ew : R.wk = nI w) (t : Int32) (y : Int64) (n0 : Int32) (hno : ¬ (isS t ∧ ∃ k : Nat, 1 ≤ k ∧ k ≤ 8 ∧ n0 = nI k ∧ hts y k = some 1 ∧ k ≤ w)) : kI l yX7_formula wsX7_formula 2 50 D cy nw [.ref x, .int t, .long y, .int n0] (mP A x (C, R)) (fun r T => (mP A x (C, R)) = T ∧ (((isS t ∧ sound y n0) ∧ r = -5) ∨ (¬ (isS t ∧ sound y n0) ∧ r = -2))) 0 0 := by
  refine enterI (cc := cX7_formula) (nL := 8) (ret := (some .int)) (by decide +kernel) rfl (Nat.le_of_ble_eq_true rfl) ?_
  intro F Z hl hR hD hcy hnw hnm
  subst hl hD hcy hnw
  have hRf : F.R.frames = 2 := by rw [hR]
  have hRc : F.R.cells = 0 := by rw [hR]
  have hRs : F.R.slots = 0 := by rw [hR]
  have hRl : F.R.locals = 50 := by rw [hR]
  have in6 : ∀ w ∈ u_ws RX7 TX7 16, w ∈ wsX7_formula := by decide +kernel
  have lk27 : Cond.fieldLink RX7 27 (TX7 5).1 (TX7 5).2.1 (TX7 5).2.2.1 ∈ wsX7_formula := by decide +kernel
  have ct130 : Cond.constantLong RX7 130 (8) ∈ wsX7_formula := by decide +kernel
  refine g_iload_n Z dX7_formula_0 rfl ?_
  refine g_csI Z (c_X7_isSet F.l F.D F.cy F.nw _ _) 1 gX7_formula_X7_isSet rfl (by decide +kernel) (by rw [hRf, hRl]; decide) rfl rfl (Nat.le_of_ble_eq_true rfl) dX7_formula_1 (by rw [hRc, hRs]; omega) (fun r T hp => ?_)
  obtain ⟨rfl, hit⟩ := hp
  refine g_if_eq Z 29 dX7_formula_4 (by decide) (fun h4 => ?_) (fun h4 => ?_)
  · refine g_bipush (v := (-2)) Z dX7_formula_29 (by decide) ?_
    exact g_iret Z dX7_formula_31 (by omega) (by omega) (⟨rfl, Or.inr ⟨by first | exact (fun q => hit.nS h4 q.1) | exact (fun q => by obtain ⟨-, k, q1, q2, q3, -⟩ := q; exact hin.f h17 ⟨k, q1, q2, q3⟩) | exact (fun q => by obtain ⟨-, k2, q1, q2, q3, q4⟩ := q; rw [← (nI_eq (by omega) (by omega)).mp q3] at q4; exact hyk q4), rfl⟩⟩)
  · obtain ⟨s, hs, rfl⟩ := hit.is h4
    refine g_iload Z dX7_formula_7 rfl ?_
    refine g_i2l Z dX7_formula_9 ?_
    refine g_lconst (v := 1) Z dX7_formula_10 (by decide) ?_
    refine g_ldc2 (v := 8) Z dX7_formula_11 ct130 ?_
    refine g_csI Z (c_X7_in F.l F.D F.cy F.nw _ _ _ _) 3 gX7_formula_X7_in rfl (by decide +kernel) (by rw [hRf, hRl]; decide) rfl rfl (Nat.le_of_ble_eq_true rfl) dX7_formula_14 (by rw [hRc, hRs]; omega) (fun r1 T1 hp => ?_)
    obtain ⟨rfl, hi0⟩ := hp
    have hin := in_R (x := n0) (a := 1) (b := 8) (by decide) (by decide) hi0
    refine g_if_eq Z 29 dX7_formula_17 (by decide) (fun h17 => ?_) (fun h17 => ?_)
    · refine g_bipush (v := (-2)) Z dX7_formula_29 (by decide) ?_
      exact g_iret Z dX7_formula_31 (by omega) (by omega) (⟨rfl, Or.inr ⟨by first | exact (fun q => hit.nS h4 q.1) | exact (fun q => by obtain ⟨-, k, q1, q2, q3, -⟩ := q; exact hin.f h17 ⟨k, q1, q2, q3⟩) | exact (fun q => by obtain ⟨-, k2, q1, q2, q3, q4⟩ := q; rw [← (nI_eq (by omega) (by omega)).mp q3] at q4; exact hyk q4), rfl⟩⟩)
    · obtain ⟨k, hk1, hk8, rfl⟩ := hin.t h17
      refine g_lload_n Z dX7_formula_20 rfl ?_
      refine g_iload Z dX7_formula_21 rfl ?_
      refine g_csI Z (c_X7_isFormula F.l F.D F.cy F.nw _ _ k (by omega)) 2 gX7_formula_X7_isFormula rfl (by decide +kernel) (by rw [hRf, hRl]; decide) rfl rfl (Nat.le_of_ble_eq_true rfl) dX7_formula_23 (by rw [hRc, hRs]; omega) (fun r2 T2 hp => ?_)
      obtain ⟨rfl, hf⟩ := hp
      refine g_if_ne Z 32 dX7_formula_26 (by decide) (fun h26 => ?_) (fun h26 => ?_)
      · have hyk : hts y k = some 1 := by
          rcases hf with e | e
          · exact e.2
          · exact absurd e.1 h26
        refine g_aload_n Z dX7_formula_32 rfl ?_
        refine m_get_wk Z in6 lk27 dX7_formula_33 ?_
        rw [ew]
        refine g_iload Z dX7_formula_36 rfl ?_
        refine g_icmp_ge Z 44 dX7_formula_38 (by decide) (fun h38 => ?_) (fun h38 => ?_)
        · exact absurd ⟨isS_of hs, k, hk1, hk8, rfl, hyk, ge_t (by omega) (by omega) h38⟩ hno
        · refine g_bipush (v := (-5)) Z dX7_formula_41 (by decide) ?_
          exact g_iret Z dX7_formula_43 (by omega) (by omega) (⟨rfl, Or.inl ⟨⟨isS_of hs, k, hk1, hk8, rfl, hyk⟩, rfl⟩⟩)
      · have hyk : hts y k ≠ some 1 := by
          rcases hf with e | e
          · exact absurd (e.1.symm.trans h26) (by decide)
          · exact e.2
        refine g_bipush (v := (-2)) Z dX7_formula_29 (by decide) ?_
        exact g_iret Z dX7_formula_31 (by omega) (by omega) (⟨rfl, Or.inr ⟨by first | exact (fun q => hit.nS h4 q.1) | exact (fun q => by obtain ⟨-, k, q1, q2, q3, -⟩ := q; exact hin.f h17 ⟨k, q1, q2, q3⟩) | exact (fun q => by obtain ⟨-, k2, q1, q2, q3, q4⟩ := q; rw [← (nI_eq (by omega) (by omega)).mp q3] at q4; exact hyk q4), rfl⟩⟩)
