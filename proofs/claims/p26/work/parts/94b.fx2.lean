set_option maxRecDepth 100000 in
set_option maxHeartbeats 2000000 in
/-- work is taken, if there is so much -/
theorem f_X6_takeWork (l : Launch) (D : va_G) (cy : Nat → ClassId) (nw : Nat) (S : PS) (x w : Nat) (hxL : x ∈ S.L) (hxK : S.K x = 5) (hxw : S.fi x 5 = nI w) (hw3 : w ≤ 300) (k : Nat) (hk : k < 2 ^ 31) : kI l yX6_takeWork wsX6_takeWork 0 0 D cy nw [.ref x, .int (nI k)] S (fun r T => (r = 1 ∧ k ≤ w ∧ T = S.setI x 5 (nI (w - k))) ∨ (r = 0 ∧ S = T ∧ w < k)) 0 0 := by
  refine enterI (cc := cX6_takeWork) (nL := 2) (ret := (some .boolean)) (by decide +kernel) rfl (Nat.le_of_ble_eq_true rfl) ?_
  intro F Z hl hR hD hcy hnw hnm
  subst hl hD hcy hnw
  have hRf : F.R.frames = 0 := by rw [hR]
  have hRc : F.R.cells = 0 := by rw [hR]
  have hRs : F.R.slots = 0 := by rw [hR]
  have hRl : F.R.locals = 0 := by rw [hR]
  have in5 : ∀ w ∈ u_ws RX6 TX6 6, w ∈ wsX6_takeWork := by decide +kernel
  have lk41 : Cond.fieldLink RX6 41 (TX6 5).1 (TX6 5).2.1 (TX6 5).2.2.1 ∈ wsX6_takeWork := by decide +kernel
  refine g_iload_n Z dX6_takeWork_0 rfl ?_
  refine g_aload_n Z dX6_takeWork_1 rfl ?_
  refine g_geti Z 5 5 rfl (by decide) in5 lk41 dX6_takeWork_2 (by assumption) (by assumption) ?_
  rw [hxw]
  refine g_icmp_le Z 10 dX6_takeWork_5 (by decide) (fun h5 => ?_) (fun h5 => ?_)
  · have hle : k ≤ w := le_t (by omega) (by omega) h5
    refine g_aload_n Z dX6_takeWork_10 rfl ?_
    refine g_dup Z dX6_takeWork_11 rfl ?_
    refine g_geti Z 5 5 rfl (by decide) in5 lk41 dX6_takeWork_12 (by assumption) (by assumption) ?_
    rw [hxw]
    refine g_iload_n Z dX6_takeWork_15 rfl ?_
    refine g_isub Z dX6_takeWork_16 ?_
    rw [pk_sub hle]
    refine g_puti Z 5 5 rfl (by decide) tyX6 tyX6_ok nmX6 rfl in5 lk41 dX6_takeWork_17 rfl rfl (by assumption) (by assumption) ?_
    refine g_iconst (v := 1) Z dX6_takeWork_20 (by decide) ?_
    exact g_zret Z dX6_takeWork_21 (by rfl) (by omega) (by omega) (Or.inl ⟨rfl, hle, rfl⟩)
  · refine g_iconst (v := 0) Z dX6_takeWork_8 (by decide) ?_
    exact g_zret Z dX6_takeWork_9 (by rfl) (by omega) (by omega) (Or.inr ⟨rfl, rfl, by have := le_f (i := k) (N := w) (by omega) (by omega) h5; omega⟩)

/-- three numbers -/
theorem i012 {e : Int32} (h1 : ¬ e < 0) (h2 : e ≤ 2) : e = 0 ∨ e = 1 ∨ e = 2 := by
  obtain ⟨k, hk, rfl⟩ : ∃ k : Nat, k ≤ 2 ∧ e = nI k := nI_of2 (M := 2) (n := 2) (by decide) h1 h2
  rcases (show k = 0 ∨ k = 1 ∨ k = 2 by omega) with rfl | rfl | rfl
  · exact Or.inl rfl
  · exact Or.inr (Or.inl rfl)
  · exact Or.inr (Or.inr rfl)
/-- what range may be asked -/
def rgOk (a b c d e : Int32) (j key f t : Nat) : Prop := j < 8 ∧ a = nI j ∧ key < 65536 ∧ b = nI key ∧ f < 65536 ∧ c = nI f ∧ t < 65536 ∧ d = nI t ∧ f ≤ t ∧ (e = 0 ∨ e = 1 ∨ e = 2)
def stOk (a b c d : Int32) (j key f q : Nat) : Prop := j < 8 ∧ a = nI j ∧ key < 65536 ∧ b = nI key ∧ f < 65536 ∧ c = nI f ∧ 1 ≤ q ∧ q < 65536 ∧ d = nI q

set_option maxRecDepth 100000 in
set_option maxHeartbeats 2000000 in
/-- numbers of a key from one to another -/
theorem f_X6_range (l : Launch) (D : va_G) (cy : Nat → ClassId) (nw : Nat) (S : PS) (x sa pl la br h n u rd rk rt w fa : Nat) (so O : Nat → Nat) (V : Nat → Sv) (B : Nat → Nat) (hx : FX S nw x sa pl la br h n u rd rk rt w fa so O V B) (a b c d e : Int32) : kI l yX6_range wsX6_range 4 94 D cy nw [.ref x, .int a, .int b, .int c, .int d, .int e] S (fun r T => (∃ j key f t, rgOk a b c d e j key f t ∧ ∃ r0 W O2, Chg (V j) key (e = 1) (rg e f t) r0 W ∧ r = (if r0 = -3 then -3 else nI (sT W W.1)) ∧ FX T nw x sa pl la br h n u rd rk rt w fa so O2 (va_up V j W) B) ∨ ((¬ ∃ j key f t, rgOk a b c d e j key f t) ∧ r = -2 ∧ S = T)) 1 1024 := by
  refine enterI (cc := cX6_range) (nL := 7) (ret := (some .int)) (by decide +kernel) rfl (Nat.le_of_ble_eq_true rfl) ?_
  intro F Z hl hR hD hcy hnw hnm
  subst hl hD hcy hnw
  have hRf : F.R.frames = 4 := by rw [hR]
  have hRc : F.R.cells = 1 := by rw [hR]
  have hRs : F.R.slots = 1024 := by rw [hR]
  have hRl : F.R.locals = 94 := by rw [hR]
  have in5 : ∀ w ∈ u_ws RX6 TX6 6, w ∈ wsX6_range := by decide +kernel
  have lk11 : Cond.fieldLink RX6 11 (TX6 0).1 (TX6 0).2.1 (TX6 0).2.2.1 ∈ wsX6_range := by decide +kernel
  obtain ⟨hFO, hGV, hVok⟩ := id hx
  obtain ⟨hFx, hSa, ⟨dp, hPl⟩, hFb, hFr⟩ := id hFO
  obtain ⟨hxL, hxK, hxO, hsa, hsp, hpl, hbr, hrd, hxw, hw3⟩ := id hFx
  obtain ⟨hsaL, hsaK, hsal, hsas, hsaO⟩ := id hSa
  obtain ⟨be, it, C, hgx⟩ := id hGV
  refine g_iload_n Z dX6_range_0 rfl ?_
  refine g_csI Z (c_X6_isNoSet F.l F.D F.cy F.nw _ _) 1 gX6_range_X6_isNoSet rfl (by decide +kernel) (by rw [hRf, hRl]; decide) rfl rfl (Nat.le_of_ble_eq_true rfl) dX6_range_1 (by rw [hRc, hRs]; omega) (fun r0 T0 hq0 => ?_)
  obtain ⟨rfl, hi1⟩ := hq0
  refine g_if_ne Z 35 dX6_range_4 (by decide) (fun h4 => ?_) (fun h4 => ?_)
  · have hno : ¬ ∃ j key f t, rgOk a b c d e j key f t := fun ⟨j, key, f, t, q1, q2, q3, q4, q5, q6, q7, q8, q9, q10⟩ => isIx_1 (by decide) hi1 h4 ⟨j, q1, q2⟩
    refine g_bipush (v := (-2)) Z dX6_range_35 (by decide) ?_
    exact g_iret Z dX6_range_37 (by omega) (by omega) (Or.inr ⟨hno, rfl, rfl⟩)
  · obtain ⟨j, hj, rfl⟩ := isIx_0 hi1 h4
    refine g_iload_n Z dX6_range_7 rfl ?_
    refine g_csI Z (c_X6_isNoHalf F.l F.D F.cy F.nw _ _) 1 gX6_range_X6_isNoHalf rfl (by decide +kernel) (by rw [hRf, hRl]; decide) rfl rfl (Nat.le_of_ble_eq_true rfl) dX6_range_8 (by rw [hRc, hRs]; omega) (fun r0 T0 hq0 => ?_)
    obtain ⟨rfl, hi2⟩ := hq0
    refine g_if_ne Z 35 dX6_range_11 (by decide) (fun h11 => ?_) (fun h11 => ?_)
    · have hno : ¬ ∃ j' key f t, rgOk (nI j) b c d e j' key f t := fun ⟨j', key, f, t, q1, q2, q3, q4, q5, q6, q7, q8, q9, q10⟩ => isIx_1 (by decide) hi2 h11 ⟨key, q3, q4⟩
      refine g_bipush (v := (-2)) Z dX6_range_35 (by decide) ?_
      exact g_iret Z dX6_range_37 (by omega) (by omega) (Or.inr ⟨hno, rfl, rfl⟩)
    · obtain ⟨key, hkey, rfl⟩ := isIx_0 hi2 h11
      refine g_iload_n Z dX6_range_14 rfl ?_
      refine g_csI Z (c_X6_isNoHalf F.l F.D F.cy F.nw _ _) 1 gX6_range_X6_isNoHalf rfl (by decide +kernel) (by rw [hRf, hRl]; decide) rfl rfl (Nat.le_of_ble_eq_true rfl) dX6_range_15 (by rw [hRc, hRs]; omega) (fun r0 T0 hq0 => ?_)
      obtain ⟨rfl, hi3⟩ := hq0
      refine g_if_ne Z 35 dX6_range_18 (by decide) (fun h18 => ?_) (fun h18 => ?_)
      · have hno : ¬ ∃ j' key' f t, rgOk (nI j) (nI key) c d e j' key' f t := fun ⟨j', key', f, t, q1, q2, q3, q4, q5, q6, q7, q8, q9, q10⟩ => isIx_1 (by decide) hi3 h18 ⟨f, q5, q6⟩
        refine g_bipush (v := (-2)) Z dX6_range_35 (by decide) ?_
        exact g_iret Z dX6_range_37 (by omega) (by omega) (Or.inr ⟨hno, rfl, rfl⟩)
      · obtain ⟨f, hf, rfl⟩ := isIx_0 hi3 h18
        refine g_iload Z dX6_range_21 rfl ?_
        refine g_csI Z (c_X6_isNoHalf F.l F.D F.cy F.nw _ _) 1 gX6_range_X6_isNoHalf rfl (by decide +kernel) (by rw [hRf, hRl]; decide) rfl rfl (Nat.le_of_ble_eq_true rfl) dX6_range_23 (by rw [hRc, hRs]; omega) (fun r0 T0 hq0 => ?_)
        obtain ⟨rfl, hi4⟩ := hq0
        refine g_if_ne Z 35 dX6_range_26 (by decide) (fun h26 => ?_) (fun h26 => ?_)
        · have hno : ¬ ∃ j' key' f' t, rgOk (nI j) (nI key) (nI f) d e j' key' f' t := fun ⟨j', key', f', t, q1, q2, q3, q4, q5, q6, q7, q8, q9, q10⟩ => isIx_1 (by decide) hi4 h26 ⟨t, q7, q8⟩
          refine g_bipush (v := (-2)) Z dX6_range_35 (by decide) ?_
          exact g_iret Z dX6_range_37 (by omega) (by omega) (Or.inr ⟨hno, rfl, rfl⟩)
        · obtain ⟨t, ht, rfl⟩ := isIx_0 hi4 h26
          refine g_iload_n Z dX6_range_29 rfl ?_
          refine g_iload Z dX6_range_30 rfl ?_
          refine g_icmp_le Z 38 dX6_range_32 (by decide) (fun h32 => ?_) (fun h32 => ?_)
          · have hft : f ≤ t := le_t (by omega) (by omega) h32
            refine g_iload Z dX6_range_38 rfl ?_
            refine g_if_lt Z 49 dX6_range_40 (by decide) (fun h40 => ?_) (fun h40 => ?_)
            · have hno : ¬ ∃ j' key' f' t', rgOk (nI j) (nI key) (nI f) (nI t) e j' key' f' t' := fun ⟨j', key', f', t', q1, q2, q3, q4, q5, q6, q7, q8, q9, q10⟩ => by rcases q10 with rfl | rfl | rfl <;> exact absurd h40 (by decide)
              refine g_bipush (v := (-2)) Z dX6_range_49 (by decide) ?_
              exact g_iret Z dX6_range_51 (by omega) (by omega) (Or.inr ⟨hno, rfl, rfl⟩)
            · refine g_iload Z dX6_range_43 rfl ?_
              refine g_iconst (v := 2) Z dX6_range_45 (by decide) ?_
              refine g_icmp_le Z 52 dX6_range_46 (by decide) (fun h46 => ?_) (fun h46 => ?_)
              · have hsv := (hgx.1 j (by omega)).1
                have hcj : (nI j).toNatClampNeg = j := nI_clamp (by omega)
                have hsL := hsv.1
                have hsK := hsv.2.1
                have he := i012 h40 h46
                refine g_aload_n Z dX6_range_52 rfl ?_
                refine g_getr Z 5 0 rfl (by decide) in5 lk11 dX6_range_53 (by assumption) (by assumption) (by assumption) ?_
                refine g_iload_n Z dX6_range_56 rfl ?_
                refine g_aald11 Z dX6_range_57 (by assumption) (by assumption) (by exact vin_of hsal (by omega) (by decide)) (by rw [hcj]; exact hsas j hj) ?_
                refine g_iload_n Z dX6_range_58 rfl ?_
                refine g_iload_n Z dX6_range_59 rfl ?_
                refine g_iload Z dX6_range_60 rfl ?_
                refine g_iload Z dX6_range_62 rfl ?_
                refine g_cvI Z (f_X2_changeSpan F.l F.D F.cy F.nw S O (be j) (so j) (it j) (C j) (V j) hsv (hVok j hj).2.1 key f t hkey hf ht hft e) 4 gX6_range_X2_changeSpan rfl (by decide +kernel) (by rw [hRf, hRl]; decide) (by assumption) (κ := 2) (by assumption) rfl (by decide) rfl rfl (Nat.le_of_ble_eq_true rfl) dX6_range_64 (by rw [hRc, hRs]; omega) (fun r2 T2 hp => ?_)
                obtain ⟨W, hch, haf⟩ := hp
                refine g_nw Z (fun hnT => ?_)
                obtain ⟨O2, hx2⟩ := hx.one hgx hj hnT haf (hch.ok (hVok j hj) hkey)
                obtain ⟨⟨⟨hxL2, hxK2, -, hsa2, -⟩, ⟨hsaL2, hsaK2, hsal2, hsas2, -⟩, -⟩, ⟨be2, it2, C2, hgx2⟩, -⟩ := id hx2
                have hsv2 := (hgx2.1 j (by omega)).1
                rw [va_up_self] at hsv2
                refine g_istore Z dX6_range_67 (by decide) ?_
                refine g_iload Z dX6_range_69 rfl ?_
                refine g_bipush (v := (-3)) Z dX6_range_71 (by decide) ?_
                refine g_icmp_ne Z 81 dX6_range_73 (by decide) (fun h73 => ?_) (fun h73 => ?_)
                · refine g_aload_n Z dX6_range_81 rfl ?_
                  refine g_getr Z 5 0 rfl (by decide) in5 lk11 dX6_range_82 (by exact hxL2) (by exact hxK2) (by exact hsa2) ?_
                  refine g_iload_n Z dX6_range_85 rfl ?_
                  refine g_aald11 Z dX6_range_86 (by exact hsaL2) (by exact hsaK2) (by exact vin_of hsal2 (by omega) (by decide)) (by rw [hcj]; exact hsas2 j hj) ?_
                  refine g_cvI Z (f_X2_total F.l F.D F.cy F.nw T2 O2 (be2 j) (so j) (it2 j) (C2 j) W hsv2) 0 gX6_range_X2_total rfl (by decide +kernel) (by rw [hRf, hRl]; decide) (by exact hsv2.1) (κ := 2) (by exact hsv2.2.1) rfl (by decide) rfl rfl (Nat.le_of_ble_eq_true rfl) dX6_range_87 (by rw [hRc, hRs]; omega) (fun r3 T3 hq3 => ?_)
                  obtain ⟨rfl, rfl⟩ := hq3
                  exact g_iret Z dX6_range_90 (by omega) (by omega) (by first | exact Or.inl ⟨j, key, f, t, ⟨hj, rfl, hkey, rfl, hf, rfl, ht, rfl, hft, he⟩, r2, W, O2, hch, by rw [if_neg h73], hx2⟩ | exact Or.inl ⟨j, key, f, t, ⟨hj, rfl, hkey, rfl, hf, rfl, ht, rfl, hft, he⟩, r2, W, O2, hch, by rw [if_pos h73], hx2⟩)
                · refine g_bipush (v := (-3)) Z dX6_range_76 (by decide) ?_
                  refine g_goto Z 90 dX6_range_78 (by decide) ?_
                  exact g_iret Z dX6_range_90 (by omega) (by omega) (by first | exact Or.inl ⟨j, key, f, t, ⟨hj, rfl, hkey, rfl, hf, rfl, ht, rfl, hft, he⟩, r2, W, O2, hch, by rw [if_neg h73], hx2⟩ | exact Or.inl ⟨j, key, f, t, ⟨hj, rfl, hkey, rfl, hf, rfl, ht, rfl, hft, he⟩, r2, W, O2, hch, by rw [if_pos h73], hx2⟩)
              · have hno : ¬ ∃ j' key' f' t', rgOk (nI j) (nI key) (nI f) (nI t) e j' key' f' t' := fun ⟨j', key', f', t', q1, q2, q3, q4, q5, q6, q7, q8, q9, q10⟩ => by rcases q10 with rfl | rfl | rfl <;> exact absurd h46 (by decide)
                refine g_bipush (v := (-2)) Z dX6_range_49 (by decide) ?_
                exact g_iret Z dX6_range_51 (by omega) (by omega) (Or.inr ⟨hno, rfl, rfl⟩)
          · have hno : ¬ ∃ j' key' f' t', rgOk (nI j) (nI key) (nI f) (nI t) e j' key' f' t' := fun ⟨j', key', f', t', q1, q2, q3, q4, q5, q6, q7, q8, q9, q10⟩ => h32 (by rw [q6, q8]; exact (nI_leI (by omega) (by omega)).mpr q9)
            refine g_bipush (v := (-2)) Z dX6_range_35 (by decide) ?_
            exact g_iret Z dX6_range_37 (by omega) (by omega) (Or.inr ⟨hno, rfl, rfl⟩)

/-- how many steps there are -/
def stN (f q : Nat) : Nat := (65535 - f) / q + 1
theorem stN_ok {f q : Nat} (hf : f < 65536) (hq : 1 ≤ q) : stP f q (stN f q) := by
  unfold stP stN
  have h1 : q * ((65535 - f) / q) + (65535 - f) % q = 65535 - f := Nat.div_add_mod _ _
  have h2 : (65535 - f) % q < q := Nat.mod_lt _ hq
  refine ⟨by rw [Nat.mul_add]; omega, fun i hi => ?_⟩
  have h3 : q * i ≤ q * ((65535 - f) / q) := Nat.mul_le_mul_left q (by omega)
  omega

set_option maxRecDepth 100000 in
set_option maxHeartbeats 2000000 in
/-- numbers of a key by steps -/
theorem f_X6_steps (l : Launch) (D : va_G) (cy : Nat → ClassId) (nw : Nat) (S : PS) (x sa pl la br h n u rd rk rt w fa : Nat) (so O : Nat → Nat) (V : Nat → Sv) (B : Nat → Nat) (hx : FX S nw x sa pl la br h n u rd rk rt w fa so O V B) (a b c d : Int32) : kI l yX6_steps wsX6_steps 4 93 D cy nw [.ref x, .int a, .int b, .int c, .int d] S (fun r T => (∃ j key f q, stOk a b c d j key f q ∧ ∃ r0 W O2, Chg (V j) key False (fun W => stR W f q (stN f q)) r0 W ∧ r = (if r0 = -3 then -3 else nI (sT W W.1)) ∧ FX T nw x sa pl la br h n u rd rk rt w fa so O2 (va_up V j W) B) ∨ ((¬ ∃ j key f q, stOk a b c d j key f q) ∧ r = -2 ∧ S = T)) 1 1024 := by
  refine enterI (cc := cX6_steps) (nL := 6) (ret := (some .int)) (by decide +kernel) rfl (Nat.le_of_ble_eq_true rfl) ?_
  intro F Z hl hR hD hcy hnw hnm
  subst hl hD hcy hnw
  have hRf : F.R.frames = 4 := by rw [hR]
  have hRc : F.R.cells = 1 := by rw [hR]
  have hRs : F.R.slots = 1024 := by rw [hR]
  have hRl : F.R.locals = 93 := by rw [hR]
  have in5 : ∀ w ∈ u_ws RX6 TX6 6, w ∈ wsX6_steps := by decide +kernel
  have lk11 : Cond.fieldLink RX6 11 (TX6 0).1 (TX6 0).2.1 (TX6 0).2.2.1 ∈ wsX6_steps := by decide +kernel
  obtain ⟨hFO, hGV, hVok⟩ := id hx
  obtain ⟨hFx, hSa, ⟨dp, hPl⟩, hFb, hFr⟩ := id hFO
  obtain ⟨hxL, hxK, hxO, hsa, hsp, hpl, hbr, hrd, hxw, hw3⟩ := id hFx
  obtain ⟨hsaL, hsaK, hsal, hsas, hsaO⟩ := id hSa
  obtain ⟨be, it, C, hgx⟩ := id hGV
  refine g_iload_n Z dX6_steps_0 rfl ?_
  refine g_csI Z (c_X6_isNoSet F.l F.D F.cy F.nw _ _) 1 gX6_steps_X6_isNoSet rfl (by decide +kernel) (by rw [hRf, hRl]; decide) rfl rfl (Nat.le_of_ble_eq_true rfl) dX6_steps_1 (by rw [hRc, hRs]; omega) (fun r0 T0 hq0 => ?_)
  obtain ⟨rfl, hi1⟩ := hq0
  refine g_if_ne Z 35 dX6_steps_4 (by decide) (fun h4 => ?_) (fun h4 => ?_)
  · have hno : ¬ ∃ j key f q, stOk a b c d j key f q := fun ⟨j, key, f, q, q1, q2, q3, q4, q5, q6, q7, q8, q9⟩ => isIx_1 (by decide) hi1 h4 ⟨j, q1, q2⟩
    refine g_bipush (v := (-2)) Z dX6_steps_35 (by decide) ?_
    exact g_iret Z dX6_steps_37 (by omega) (by omega) (Or.inr ⟨hno, rfl, rfl⟩)
  · obtain ⟨j, hj, rfl⟩ := isIx_0 hi1 h4
    refine g_iload_n Z dX6_steps_7 rfl ?_
    refine g_csI Z (c_X6_isNoHalf F.l F.D F.cy F.nw _ _) 1 gX6_steps_X6_isNoHalf rfl (by decide +kernel) (by rw [hRf, hRl]; decide) rfl rfl (Nat.le_of_ble_eq_true rfl) dX6_steps_8 (by rw [hRc, hRs]; omega) (fun r0 T0 hq0 => ?_)
    obtain ⟨rfl, hi2⟩ := hq0
    refine g_if_ne Z 35 dX6_steps_11 (by decide) (fun h11 => ?_) (fun h11 => ?_)
    · have hno : ¬ ∃ j' key f q, stOk (nI j) b c d j' key f q := fun ⟨j', key, f, q, q1, q2, q3, q4, q5, q6, q7, q8, q9⟩ => isIx_1 (by decide) hi2 h11 ⟨key, q3, q4⟩
      refine g_bipush (v := (-2)) Z dX6_steps_35 (by decide) ?_
      exact g_iret Z dX6_steps_37 (by omega) (by omega) (Or.inr ⟨hno, rfl, rfl⟩)
    · obtain ⟨key, hkey, rfl⟩ := isIx_0 hi2 h11
      refine g_iload_n Z dX6_steps_14 rfl ?_
      refine g_csI Z (c_X6_isNoHalf F.l F.D F.cy F.nw _ _) 1 gX6_steps_X6_isNoHalf rfl (by decide +kernel) (by rw [hRf, hRl]; decide) rfl rfl (Nat.le_of_ble_eq_true rfl) dX6_steps_15 (by rw [hRc, hRs]; omega) (fun r0 T0 hq0 => ?_)
      obtain ⟨rfl, hi3⟩ := hq0
      refine g_if_ne Z 35 dX6_steps_18 (by decide) (fun h18 => ?_) (fun h18 => ?_)
      · have hno : ¬ ∃ j' key' f q, stOk (nI j) (nI key) c d j' key' f q := fun ⟨j', key', f, q, q1, q2, q3, q4, q5, q6, q7, q8, q9⟩ => isIx_1 (by decide) hi3 h18 ⟨f, q5, q6⟩
        refine g_bipush (v := (-2)) Z dX6_steps_35 (by decide) ?_
        exact g_iret Z dX6_steps_37 (by omega) (by omega) (Or.inr ⟨hno, rfl, rfl⟩)
      · obtain ⟨f, hf, rfl⟩ := isIx_0 hi3 h18
        refine g_iload Z dX6_steps_21 rfl ?_
        refine g_csI Z (c_X6_isNoHalf F.l F.D F.cy F.nw _ _) 1 gX6_steps_X6_isNoHalf rfl (by decide +kernel) (by rw [hRf, hRl]; decide) rfl rfl (Nat.le_of_ble_eq_true rfl) dX6_steps_23 (by rw [hRc, hRs]; omega) (fun r0 T0 hq0 => ?_)
        obtain ⟨rfl, hi4⟩ := hq0
        refine g_if_ne Z 35 dX6_steps_26 (by decide) (fun h26 => ?_) (fun h26 => ?_)
        · have hno : ¬ ∃ j' key' f' q, stOk (nI j) (nI key) (nI f) d j' key' f' q := fun ⟨j', key', f', q, q1, q2, q3, q4, q5, q6, q7, q8, q9⟩ => isIx_1 (by decide) hi4 h26 ⟨q, q8, q9⟩
          refine g_bipush (v := (-2)) Z dX6_steps_35 (by decide) ?_
          exact g_iret Z dX6_steps_37 (by omega) (by omega) (Or.inr ⟨hno, rfl, rfl⟩)
        · obtain ⟨t, ht, rfl⟩ := isIx_0 hi4 h26
          refine g_iload Z dX6_steps_29 rfl ?_
          refine g_iconst (v := 1) Z dX6_steps_31 (by decide) ?_
          refine g_icmp_ge Z 38 dX6_steps_32 (by decide) (fun h32 => ?_) (fun h32 => ?_)
          · have hsv := (hgx.1 j (by omega)).1
            have hcj : (nI j).toNatClampNeg = j := nI_clamp (by omega)
            have hsL := hsv.1
            have hsK := hsv.2.1
            have ht1 : 1 ≤ t := ge_t (i := t) (N := 1) (by omega) (by decide) h32
            refine g_aload_n Z dX6_steps_38 rfl ?_
            refine g_getr Z 5 0 rfl (by decide) in5 lk11 dX6_steps_39 (by assumption) (by assumption) (by assumption) ?_
            refine g_iload_n Z dX6_steps_42 rfl ?_
            refine g_aald11 Z dX6_steps_43 (by assumption) (by assumption) (by exact vin_of hsal (by omega) (by decide)) (by rw [hcj]; exact hsas j hj) ?_
            refine g_iload_n Z dX6_steps_44 rfl ?_
            refine g_iload_n Z dX6_steps_45 rfl ?_
            refine g_iload Z dX6_steps_46 rfl ?_
            refine g_cvI Z (f_X2_putSteps F.l F.D F.cy F.nw S O (be j) (so j) (it j) (C j) (V j) hsv (hVok j hj).2.1 key f t (stN f t) hkey hf ht1 ht (stN_ok hf ht1)) 3 gX6_steps_X2_putSteps rfl (by decide +kernel) (by rw [hRf, hRl]; decide) (by assumption) (κ := 2) (by assumption) rfl (by decide) rfl rfl (Nat.le_of_ble_eq_true rfl) dX6_steps_48 (by rw [hRc, hRs]; omega) (fun r2 T2 hp => ?_)
            obtain ⟨W, hch, haf⟩ := hp
            refine g_nw Z (fun hnT => ?_)
            obtain ⟨O2, hx2⟩ := hx.one hgx hj hnT haf (hch.ok (hVok j hj) hkey)
            obtain ⟨⟨⟨hxL2, hxK2, -, hsa2, -⟩, ⟨hsaL2, hsaK2, hsal2, hsas2, -⟩, -⟩, ⟨be2, it2, C2, hgx2⟩, -⟩ := id hx2
            have hsv2 := (hgx2.1 j (by omega)).1
            rw [va_up_self] at hsv2
            refine g_istore Z dX6_steps_51 (by decide) ?_
            refine g_iload Z dX6_steps_53 rfl ?_
            refine g_bipush (v := (-3)) Z dX6_steps_55 (by decide) ?_
            refine g_icmp_ne Z 65 dX6_steps_57 (by decide) (fun h57 => ?_) (fun h57 => ?_)
            · refine g_aload_n Z dX6_steps_65 rfl ?_
              refine g_getr Z 5 0 rfl (by decide) in5 lk11 dX6_steps_66 (by exact hxL2) (by exact hxK2) (by exact hsa2) ?_
              refine g_iload_n Z dX6_steps_69 rfl ?_
              refine g_aald11 Z dX6_steps_70 (by exact hsaL2) (by exact hsaK2) (by exact vin_of hsal2 (by omega) (by decide)) (by rw [hcj]; exact hsas2 j hj) ?_
              refine g_cvI Z (f_X2_total F.l F.D F.cy F.nw T2 O2 (be2 j) (so j) (it2 j) (C2 j) W hsv2) 0 gX6_steps_X2_total rfl (by decide +kernel) (by rw [hRf, hRl]; decide) (by exact hsv2.1) (κ := 2) (by exact hsv2.2.1) rfl (by decide) rfl rfl (Nat.le_of_ble_eq_true rfl) dX6_steps_71 (by rw [hRc, hRs]; omega) (fun r3 T3 hq3 => ?_)
              obtain ⟨rfl, rfl⟩ := hq3
              exact g_iret Z dX6_steps_74 (by omega) (by omega) (by first | exact Or.inl ⟨j, key, f, t, ⟨hj, rfl, hkey, rfl, hf, rfl, ht1, ht, rfl⟩, r2, W, O2, hch, by rw [if_neg h57], hx2⟩ | exact Or.inl ⟨j, key, f, t, ⟨hj, rfl, hkey, rfl, hf, rfl, ht1, ht, rfl⟩, r2, W, O2, hch, by rw [if_pos h57], hx2⟩)
            · refine g_bipush (v := (-3)) Z dX6_steps_60 (by decide) ?_
              refine g_goto Z 74 dX6_steps_62 (by decide) ?_
              exact g_iret Z dX6_steps_74 (by omega) (by omega) (by first | exact Or.inl ⟨j, key, f, t, ⟨hj, rfl, hkey, rfl, hf, rfl, ht1, ht, rfl⟩, r2, W, O2, hch, by rw [if_neg h57], hx2⟩ | exact Or.inl ⟨j, key, f, t, ⟨hj, rfl, hkey, rfl, hf, rfl, ht1, ht, rfl⟩, r2, W, O2, hch, by rw [if_pos h57], hx2⟩)
          · have hno : ¬ ∃ j' key' f' q, stOk (nI j) (nI key) (nI f) (nI t) j' key' f' q := fun ⟨j', key', f', q, q1, q2, q3, q4, q5, q6, q7, q8, q9⟩ => by have h1 : t = q := (nI_eq (by omega) (by omega)).mp q9; have h2 : t < 1 := ge_f (i := t) (N := 1) (by omega) (by decide) h32; omega
            refine g_bipush (v := (-2)) Z dX6_steps_35 (by decide) ?_
            exact g_iret Z dX6_steps_37 (by omega) (by omega) (Or.inr ⟨hno, rfl, rfl⟩)

theorem Vok.eS : Vok eS := ⟨by decide, fun i j _ hj => absurd hj (Nat.not_lt_zero _), fun i hi => absurd hi (Nat.not_lt_zero _)⟩
theorem clr {S : PS} {nw : Nat} {O : Nat → Nat} {b s it : Nat} {C : Nat → Nat} {V : Sv} (h : SV S nw O b s it C V) : After S (S.setI s 1 0) nw O b s it eS := by
  obtain ⟨e1, e2⟩ := SP.used (m := 0) (j := 0) (f := eS.2) ⟨h.1, h.2.1, h.2.2.1, h.2.2.2.1, h.2.2.2.2.2.1, fun i hi => absurd hi (Nat.not_lt_zero _)⟩ (by omega)
  exact ⟨O, C, fun _ _ => rfl, e2.mono (fun a _ q => Or.inr q), SP.sv (by omega) e1 rfl (fun i hi => rfl)⟩

set_option maxRecDepth 100000 in
set_option maxHeartbeats 2000000 in
/-- a set is empty -/
theorem f_X6_clear (l : Launch) (D : va_G) (cy : Nat → ClassId) (nw : Nat) (S : PS) (x sa pl la br h n u rd rk rt w fa : Nat) (so O : Nat → Nat) (V : Nat → Sv) (B : Nat → Nat) (hx : FX S nw x sa pl la br h n u rd rk rt w fa so O V B) (a : Int32) : kI l yX6_clear wsX6_clear 1 22 D cy nw [.ref x, .int a] S (fun r T => (∃ j, j < 8 ∧ a = nI j ∧ r = nI (sT (V j) (V j).1) ∧ ∃ O2, FX T nw x sa pl la br h n u rd rk rt w fa so O2 (va_up V j eS) B) ∨ (¬ isS a ∧ r = -2 ∧ S = T)) 0 0 := by
  refine enterI (cc := cX6_clear) (nL := 3) (ret := (some .int)) (by decide +kernel) rfl (Nat.le_of_ble_eq_true rfl) ?_
  intro F Z hl hR hD hcy hnw hnm
  subst hl hD hcy hnw
  have hRf : F.R.frames = 1 := by rw [hR]
  have hRc : F.R.cells = 0 := by rw [hR]
  have hRs : F.R.slots = 0 := by rw [hR]
  have hRl : F.R.locals = 22 := by rw [hR]
  have in2 : ∀ w ∈ u_ws RX2 TX2 2, w ∈ wsX6_clear := by decide +kernel
  have in5 : ∀ w ∈ u_ws RX6 TX6 6, w ∈ wsX6_clear := by decide +kernel
  have lk11 : Cond.fieldLink RX6 11 (TX6 0).1 (TX6 0).2.1 (TX6 0).2.2.1 ∈ wsX6_clear := by decide +kernel
  have lk71 : Cond.fieldLink RX6 71 (TX2 1).1 (TX2 1).2.1 (TX2 1).2.2.1 ∈ wsX6_clear := by decide +kernel
  obtain ⟨hFO, hGV, hVok⟩ := id hx
  obtain ⟨hFx, hSa, ⟨dp, hPl⟩, hFb, hFr⟩ := id hFO
  obtain ⟨hxL, hxK, hxO, hsa, hsp, hpl, hbr, hrd, hxw, hw3⟩ := id hFx
  obtain ⟨hsaL, hsaK, hsal, hsas, hsaO⟩ := id hSa
  obtain ⟨be, it, C, hgx⟩ := id hGV
  refine g_iload_n Z dX6_clear_0 rfl ?_
  refine g_csI Z (c_X6_isNoSet F.l F.D F.cy F.nw _ _) 1 gX6_clear_X6_isNoSet rfl (by decide +kernel) (by rw [hRf, hRl]; decide) rfl rfl (Nat.le_of_ble_eq_true rfl) dX6_clear_1 (by rw [hRc, hRs]; omega) (fun r0 T0 hq0 => ?_)
  obtain ⟨rfl, hi⟩ := hq0
  refine g_if_eq Z 10 dX6_clear_4 (by decide) (fun h4 => ?_) (fun h4 => ?_)
  · obtain ⟨j, hj, rfl⟩ := isIx_0 hi h4
    have hsv := (hgx.1 j (by omega)).1
    have hcj : (nI j).toNatClampNeg = j := nI_clamp (by omega)
    have hsL := hsv.1
    have hsK := hsv.2.1
    refine g_aload_n Z dX6_clear_10 rfl ?_
    refine g_getr Z 5 0 rfl (by decide) in5 lk11 dX6_clear_11 (by assumption) (by assumption) (by assumption) ?_
    refine g_iload_n Z dX6_clear_14 rfl ?_
    refine g_aald11 Z dX6_clear_15 (by assumption) (by assumption) (by exact vin_of hsal (by omega) (by decide)) (by rw [hcj]; exact hsas j hj) ?_
    refine g_cvI Z (f_X2_total F.l F.D F.cy F.nw S O (be j) (so j) (it j) (C j) (V j) hsv) 0 gX6_clear_X2_total rfl (by decide +kernel) (by rw [hRf, hRl]; decide) (by assumption) (κ := 2) (by assumption) rfl (by decide) rfl rfl (Nat.le_of_ble_eq_true rfl) dX6_clear_16 (by rw [hRc, hRs]; omega) (fun r3 T3 hq3 => ?_)
    obtain ⟨rfl, rfl⟩ := hq3
    refine g_istore_n Z dX6_clear_19 (by decide) ?_
    refine g_aload_n Z dX6_clear_20 rfl ?_
    refine g_getr Z 5 0 rfl (by decide) in5 lk11 dX6_clear_21 (by assumption) (by assumption) (by assumption) ?_
    refine g_iload_n Z dX6_clear_24 rfl ?_
    refine g_aald11 Z dX6_clear_25 (by assumption) (by assumption) (by exact vin_of hsal (by omega) (by decide)) (by rw [hcj]; exact hsas j hj) ?_
    refine g_iconst (v := 0) Z dX6_clear_26 (by decide) ?_
    refine g_puti Z 2 1 rfl (by decide) tyX2 tyX2_ok nmX2 rfl in2 lk71 dX6_clear_27 rfl rfl (by assumption) (by assumption) ?_
    refine g_nw Z (fun hnT => ?_)
    obtain ⟨O2, hx2⟩ := hx.one hgx hj hnT (clr hsv) Vok.eS
    refine g_iload_n Z dX6_clear_30 rfl ?_
    exact g_iret Z dX6_clear_31 (by omega) (by omega) (Or.inl ⟨j, hj, rfl, rfl, O2, hx2⟩)
  · have hno := isIx_1 (by decide) hi h4
    refine g_bipush (v := (-2)) Z dX6_clear_7 (by decide) ?_
    exact g_iret Z dX6_clear_9 (by omega) (by omega) (Or.inr ⟨hno, rfl, rfl⟩)

theorem smK_3 (v r : Int32) : smK v r = 0 ∨ smK v r = 1 ∨ smK v r = 2 := by
  unfold smK
  by_cases e : (if (4096 : Int32) < v then 8192 else 2 * v) ≤ 2 + 4 * r
  · rw [if_pos e]; exact (plK_01 v).imp id Or.inl
  · rw [if_neg e]; exact Or.inr (Or.inr rfl)
theorem Vok.sh {V : Sv} (h : Vok V) : Vok (shV V) := ⟨h.1, h.2.1, fun i hi => ⟨(h.2.2 i hi).1, (h.2.2 i hi).2.1, smK_3 _ _⟩⟩

set_option maxRecDepth 100000 in
set_option maxHeartbeats 2000000 in
/-- each container as told -/
theorem f_X6_shrink (l : Launch) (D : va_G) (cy : Nat → ClassId) (nw : Nat) (S : PS) (x sa pl la br h n u rd rk rt w fa : Nat) (so O : Nat → Nat) (V : Nat → Sv) (B : Nat → Nat) (hx : FX S nw x sa pl la br h n u rd rk rt w fa so O V B) (a : Int32) : kI l yX6_shrink wsX6_shrink 4 89 D cy nw [.ref x, .int a] S (fun r T => (∃ j, j < 8 ∧ a = nI j ∧ 1 ≤ w ∧ r = nI (kN (shV (V j)) 2 (V j).1) ∧ ∃ O2, FX T nw x sa pl la br h n u rd rk rt (w - 1) fa so O2 (va_up V j (shV (V j))) B) ∨ (¬ (isS a ∧ 1 ≤ w) ∧ S = T ∧ ((isS a ∧ r = -5) ∨ (¬ isS a ∧ r = -2)))) 0 0 := by
  refine enterI (cc := cX6_shrink) (nL := 2) (ret := (some .int)) (by decide +kernel) rfl (Nat.le_of_ble_eq_true rfl) ?_
  intro F Z hl hR hD hcy hnw hnm
  subst hl hD hcy hnw
  have hRf : F.R.frames = 4 := by rw [hR]
  have hRc : F.R.cells = 0 := by rw [hR]
  have hRs : F.R.slots = 0 := by rw [hR]
  have hRl : F.R.locals = 89 := by rw [hR]
  have in5 : ∀ w ∈ u_ws RX6 TX6 6, w ∈ wsX6_shrink := by decide +kernel
  have lk11 : Cond.fieldLink RX6 11 (TX6 0).1 (TX6 0).2.1 (TX6 0).2.2.1 ∈ wsX6_shrink := by decide +kernel
  obtain ⟨hFO, hGV, hVok⟩ := id hx
  obtain ⟨hFx, hSa, ⟨dp, hPl⟩, hFb, hFr⟩ := id hFO
  obtain ⟨hxL, hxK, hxO, hsa, hsp, hpl, hbr, hrd, hxw, hw3⟩ := id hFx
  obtain ⟨hsaL, hsaK, hsal, hsas, hsaO⟩ := id hSa
  obtain ⟨be, it, C, hgx⟩ := id hGV
  refine g_iload_n Z dX6_shrink_0 rfl ?_
  refine g_csI Z (c_X6_isNoSet F.l F.D F.cy F.nw _ _) 1 gX6_shrink_X6_isNoSet rfl (by decide +kernel) (by rw [hRf, hRl]; decide) rfl rfl (Nat.le_of_ble_eq_true rfl) dX6_shrink_1 (by rw [hRc, hRs]; omega) (fun r0 T0 hq0 => ?_)
  obtain ⟨rfl, hi⟩ := hq0
  refine g_if_eq Z 10 dX6_shrink_4 (by decide) (fun h4 => ?_) (fun h4 => ?_)
  · obtain ⟨j, hj, rfl⟩ := isIx_0 hi h4
    have hsv := (hgx.1 j (by omega)).1
    have hcj : (nI j).toNatClampNeg = j := nI_clamp (by omega)
    have hsL := hsv.1
    have hsK := hsv.2.1
    refine g_aload_n Z dX6_shrink_10 rfl ?_
    refine g_iconst (v := 1) Z dX6_shrink_11 (by decide) ?_
    refine g_cvI Z (f_X6_takeWork F.l F.D F.cy F.nw S x w hxL hxK hxw hw3 1 (by omega)) 1 gX6_shrink_X6_takeWork rfl (by decide +kernel) (by rw [hRf, hRl]; decide) (by assumption) (κ := 5) (by assumption) rfl (by decide) rfl rfl (Nat.le_of_ble_eq_true rfl) dX6_shrink_12 (by rw [hRc, hRs]; omega) (fun r1 T1 hq1 => ?_)
    refine g_if_ne Z 21 dX6_shrink_15 (by decide) (fun h15 => ?_) (fun h15 => ?_)
    · obtain ⟨hle, rfl⟩ : 1 ≤ w ∧ T1 = S.setI x 5 (nI (w - 1)) := by
        rcases hq1 with ⟨-, h2, h3⟩ | ⟨h1, -⟩
        · exact ⟨h2, h3⟩
        · exact absurd h1 h15
      refine g_nw Z (fun hnw1 => ?_)
      have hx1 := hx.work (S := S) (w2 := w - 1) hnw1 (by omega)
      generalize S.setI x 5 (nI (w - 1)) = T1 at hx1 hnw1 ⊢
      obtain ⟨⟨⟨hxL1, hxK1, -, hsa1, hsp1, hpl1, hbr1, hrd1, -⟩, ⟨hsaL1, hsaK1, hsal1, hsas1, -⟩, -⟩, hg1, -⟩ := id hx1
      obtain ⟨be1, it1, C1, hgx1⟩ := id hg1
      have hsv1 := (hgx1.1 j (by omega)).1
      refine g_aload_n Z dX6_shrink_21 rfl ?_
      refine g_getr Z 5 0 rfl (by decide) in5 lk11 dX6_shrink_22 (by exact hxL1) (by exact hxK1) (by exact hsa1) ?_
      refine g_iload_n Z dX6_shrink_25 rfl ?_
      refine g_aald11 Z dX6_shrink_26 (by exact hsaL1) (by exact hsaK1) (by exact vin_of hsal1 (by omega) (by decide)) (by rw [hcj]; exact hsas1 j hj) ?_
      refine g_cvV Z (f_X2_shrinkAll F.l F.D F.cy F.nw T1 O (be1 j) (so j) (it1 j) (C1 j) (V j) hsv1) 0 gX6_shrink_X2_shrinkAll rfl (by decide +kernel) (by rw [hRf, hRl]; decide) (by exact hsv1.1) (κ := 2) (by exact hsv1.2.1) rfl (by decide) rfl rfl (Nat.le_of_ble_eq_true rfl) dX6_shrink_27 (by rw [hRc, hRs]; omega) (fun T2 hp => ?_)
      obtain ⟨hs2, hk2⟩ := hp
      refine g_nw Z (fun hnT => ?_)
      obtain ⟨O2, hx2⟩ := hx1.one hgx1 hj hnT ⟨O, C1 j, fun _ _ => rfl, hk2.mono (fun a _ q => Or.inl q), hs2⟩ (hVok j hj).sh
      obtain ⟨⟨⟨hxL2, hxK2, -, hsa2, -⟩, ⟨hsaL2, hsaK2, hsal2, hsas2, -⟩, -⟩, ⟨be2, it2, C2, hgx2⟩, -⟩ := id hx2
      have hsv2 := (hgx2.1 j (by omega)).1
      rw [va_up_self] at hsv2
      refine g_aload_n Z dX6_shrink_30 rfl ?_
      refine g_getr Z 5 0 rfl (by decide) in5 lk11 dX6_shrink_31 (by exact hxL2) (by exact hxK2) (by exact hsa2) ?_
      refine g_iload_n Z dX6_shrink_34 rfl ?_
      refine g_aald11 Z dX6_shrink_35 (by exact hsaL2) (by exact hsaK2) (by exact vin_of hsal2 (by omega) (by decide)) (by rw [hcj]; exact hsas2 j hj) ?_
      refine g_iconst (v := 2) Z dX6_shrink_36 (by decide) ?_
      refine g_cvI Z (c_X2_totalOfKind F.l F.D F.cy F.nw T2 (so j) (it2 j) (shV (V j)).1 hsv2.at _) 1 gX6_shrink_X2_totalOfKind rfl (by decide +kernel) (by rw [hRf, hRl]; decide) (by exact hsv2.1) (κ := 2) (by exact hsv2.2.1) rfl (by decide) rfl rfl (Nat.le_of_ble_eq_true rfl) dX6_shrink_37 (by rw [hRc, hRs]; omega) (fun r3 T3 hq3 => ?_)
      obtain ⟨rfl, hr3⟩ := hq3
      exact g_iret Z dX6_shrink_40 (by omega) (by omega) (Or.inl ⟨j, hj, rfl, hle, by rw [hr3]; exact hsv2.sq.tk 2 _ (Nat.le_refl _), O2, hx2⟩)
    · obtain ⟨rfl, hlt⟩ : S = T1 ∧ w < 1 := by
        rcases hq1 with ⟨h1, -⟩ | ⟨-, h2, h3⟩
        · rw [h1] at h15; exact absurd h15 (by decide)
        · exact ⟨h2, h3⟩
      refine g_bipush (v := (-5)) Z dX6_shrink_18 (by decide) ?_
      exact g_iret Z dX6_shrink_20 (by omega) (by omega) (Or.inr ⟨fun h => by have := h.2; omega, rfl, Or.inl ⟨⟨j, hj, rfl⟩, rfl⟩⟩)
  · have hno := isIx_1 (by decide) hi h4
    refine g_bipush (v := (-2)) Z dX6_shrink_7 (by decide) ?_
    exact g_iret Z dX6_shrink_9 (by omega) (by omega) (Or.inr ⟨fun h => hno h.1, rfl, Or.inr ⟨hno, rfl⟩⟩)
