/-! compare -/
def anW (f g : Nat → Int64) : Nat → Int64 := fun j => f j &&& g j
theorem an_cb (f g : Nat → Int64) (l : Nat) : cb (anW f g) 0 l = cb f 0 l * cb g 0 l := by
  rw [cbz, cbz, cbz]
  exact and_bit _ _ _
theorem mul_b {x y : Nat} (hx : x ≤ 1) (hy : y ≤ 1) : x * y ≤ x ∧ (x * y = x ↔ x ≤ y) := by
  rcases (show x = 0 ∨ x = 1 by omega) with rfl | rfl <;> rcases (show y = 0 ∨ y = 1 by omega) with rfl | rfl <;> decide
theorem an_bl (f g : Nat → Int64) (l : Nat) : cb (anW f g) 0 l ≤ cb f 0 l := by
  rw [an_cb]
  exact (mul_b (cb_le _ _ _) (cb_le _ _ _)).1
theorem an_le (f g : Nat → Int64) : tot (anW f g) ≤ tot f := by
  rw [tot_ct, tot_ct]
  exact (ct_sub 65536 (fun l _ => an_bl f g l)).1
theorem an_sub (f g : Nat → Int64) : tot (anW f g) = tot f ↔ ∀ l, l < 65536 → cb f 0 l ≤ cb g 0 l := by
  rw [tot_ct, tot_ct]
  constructor
  · intro h l hl
    have h2 := (ct_sub 65536 (fun l _ => an_bl f g l)).2 h l hl
    rw [an_cb] at h2
    exact (mul_b (cb_le _ _ _) (cb_le _ _ _)).2.mp h2
  · intro h
    exact ct_congr 65536 (fun l hl => by
      rw [an_cb]
      exact (mul_b (cb_le _ _ _) (cb_le _ _ _)).2.mpr (h l hl))
theorem nb_sub {f g : Nat → Int64} (h : ∀ j, j < 1024 → f j &&& (g j ^^^ -1) = 0) : tot (anW f g) = tot f :=
  (an_sub f g).mpr (fun l hl => by
    rw [cbz, cbz]
    exact and_not0 (h (l / 64) (by omega)) (Nat.mod_lt _ (by decide)))
theorem nb_no {f g : Nat → Int64} {j : Nat} (hj : j < 1024) (h : ¬ f j &&& (g j ^^^ -1) = 0) : ¬ tot (anW f g) = tot f := fun e => h (by
  have hs := (an_sub f g).mp e
  apply w_ext
  intro k hk
  have h1 := hs (64 * j + k) (by omega)
  rw [cbz_at f hk, cbz_at g hk] at h1
  rw [and_bit, not_bit _ hk, show wv 0 = 0 from rfl, Nat.zero_div]
  have b1 := Nat.mod_lt (wv (f j) / 2 ^ k) (show 2 > 0 by decide)
  have b2 := Nat.mod_lt (wv (g j) / 2 ^ k) (show 2 > 0 by decide)
  clear hs h e
  generalize wv (f j) / 2 ^ k % 2 = x at *
  generalize wv (g j) / 2 ^ k % 2 = y at *
  rcases (show x = 0 ∨ x = 1 by omega) with rfl | rfl
  · rw [Nat.zero_mul]
  · rw [show y = 1 by omega])
theorem li_1 {f g : Nat → Int64} {j : Nat} (hj : j < 1024) (h : ¬ f j &&& g j = 0) : 0 < tot (anW f g) := Classical.byContradiction (fun q => h (tot_nz q j hj))
noncomputable def eC (a b : Cn) : Nat := if a.1 = b.1 then tot (anW a.2.2 b.2.2) else 0
theorem eC_p {a b : Cn} (h : a.1 = b.1) : eC a b = tot (anW a.2.2 b.2.2) := if_pos h
theorem eC_n {a b : Cn} (h : ¬ a.1 = b.1) : eC a b = 0 := if_neg h
theorem eC_sym (a b : Cn) : eC a b = eC b a := by
  by_cases h : a.1 = b.1
  · rw [eC_p h, eC_p h.symm, tot_ct, tot_ct]
    exact ct_congr 65536 (fun l _ => by rw [an_cb, an_cb]; exact Nat.mul_comm _ _)
  · rw [eC_n h, eC_n (fun e => h e.symm)]
/-- how many of a container's a set has -/
noncomputable def biN (a : Cn) (W : Sv) : Nat → Nat
  | 0 => 0
  | j + 1 => biN a W j + eC a (W.2 j)
/-- how many two sets have both -/
noncomputable def bth (V W : Sv) (m : Nat) : Nat → Nat
  | 0 => 0
  | i + 1 => bth V W m i + biN (V.2 i) W m
theorem bth_0 (V W : Sv) : ∀ n, bth V W 0 n = 0
  | 0 => rfl
  | n + 1 => by
    show bth V W 0 n + 0 = 0
    rw [bth_0 V W n]
theorem bth_s (V W : Sv) (m : Nat) : ∀ n, bth V W (m + 1) n = bth V W m n + biN (W.2 m) V n
  | 0 => rfl
  | n + 1 => by
    show bth V W (m + 1) n + (biN (V.2 n) W m + eC (V.2 n) (W.2 m)) = bth V W m n + biN (V.2 n) W m + (biN (W.2 m) V n + eC (W.2 m) (V.2 n))
    rw [bth_s V W m n, eC_sym (V.2 n) (W.2 m)]
    omega
theorem bth_sym (V W : Sv) (n : Nat) : ∀ m, bth V W m n = bth W V n m
  | 0 => bth_0 V W n
  | m + 1 => by
    show _ = bth W V n m + biN (W.2 m) V n
    rw [bth_s, bth_sym V W n m]
theorem bi_no {a : Cn} {W : Sv} : ∀ n, (∀ j, j < n → (W.2 j).1 ≠ a.1) → biN a W n = 0
  | 0, _ => rfl
  | n + 1, h => by
    show biN a W n + eC a (W.2 n) = 0
    rw [bi_no n (fun j hj => h j (by omega)), eC_n (fun e => h n (by omega) e.symm)]
theorem bi_at {a : Cn} {W : Sv} {i : Nat} (he : (W.2 i).1 = a.1) : ∀ n, i < n → (∀ j, j < n → j ≠ i → (W.2 j).1 ≠ a.1) → biN a W n = tot (anW a.2.2 (W.2 i).2.2)
  | 0, hi, _ => absurd hi (Nat.not_lt_zero _)
  | n + 1, hi, h => by
    show biN a W n + eC a (W.2 n) = _
    by_cases q : i = n
    · subst q
      rw [bi_no i (fun j hj => h j (by omega) (by omega)), Nat.zero_add, eC_p he.symm]
    · rw [bi_at he n (by omega) (fun j hj => h j (by omega)), eC_n (fun e => h n (by omega) (fun z => q z.symm) e.symm), Nat.add_zero]
theorem bi_ix {a : Cn} {W : Sv} (hs : Srt W) {i : Nat} (hi : i < W.1) (he : (W.2 i).1 = a.1) : biN a W W.1 = tot (anW a.2.2 (W.2 i).2.2) :=
  bi_at he W.1 hi (fun j hj hne e => by
    rcases Nat.lt_trichotomy i j with q | q | q
    · have := hs i j q hj
      omega
    · exact hne q.symm
    · have := hs j i q hi
      omega)
theorem bi_none {a : Cn} {W : Sv} (hs : Srt W) (h : ∃ i, IsIx W a.1 i ∧ (i < W.1 → (W.2 i).1 ≠ a.1)) : biN a W W.1 = 0 := by
  obtain ⟨i, hx, hn⟩ := h
  refine bi_no W.1 (fun j hj e => ?_)
  have q := hx.uniq hs hj e
  subst q
  exact hn hj e
theorem bi_le {a : Cn} {W : Sv} (hs : Srt W) : biN a W W.1 ≤ tot a.2.2 := by
  by_cases h : ∃ i, i < W.1 ∧ (W.2 i).1 = a.1
  · obtain ⟨i, hi, he⟩ := h
    rw [bi_ix hs hi he]
    exact an_le _ _
  · rw [bi_no W.1 (fun j hj e => h ⟨j, hj, e⟩)]
    exact Nat.zero_le _
theorem bth_le {V W : Sv} (hs : Srt W) : ∀ n, bth V W W.1 n ≤ sT V n
  | 0 => Nat.le_refl _
  | n + 1 => by
    have h1 := bth_le (V := V) hs n
    have h2 := bi_le (a := V.2 n) hs
    show bth V W W.1 n + biN (V.2 n) W W.1 ≤ sT V n + tot (V.2 n).2.2
    omega
theorem bth_eq {V W : Sv} : ∀ n, (∀ i, i < n → biN (V.2 i) W W.1 = tot (V.2 i).2.2) → bth V W W.1 n = sT V n
  | 0, _ => rfl
  | n + 1, h => by
    show bth V W W.1 n + biN (V.2 n) W W.1 = sT V n + tot (V.2 n).2.2
    rw [bth_eq n (fun i hi => h i (by omega)), h n (by omega)]
theorem bth_ne {V W : Sv} (hs : Srt W) {i : Nat} (h : ¬ biN (V.2 i) W W.1 = tot (V.2 i).2.2) : ∀ n, i < n → ¬ bth V W W.1 n = sT V n
  | 0, hi => absurd hi (Nat.not_lt_zero _)
  | n + 1, hi => by
    have h1 := bth_le (V := V) hs n
    have h2 := bi_le (a := V.2 n) hs
    intro e
    have e2 : bth V W W.1 n + biN (V.2 n) W W.1 = sT V n + tot (V.2 n).2.2 := e
    by_cases q : i = n
    · subst q
      omega
    · exact bth_ne hs h n (by omega) (by omega)
theorem bth_z {V W : Sv} : ∀ n, (∀ i, i < n → biN (V.2 i) W W.1 = 0) → bth V W W.1 n = 0
  | 0, _ => rfl
  | n + 1, h => by
    show bth V W W.1 n + biN (V.2 n) W W.1 = 0
    rw [bth_z n (fun i hi => h i (by omega)), h n (by omega)]
theorem bth_p {V W : Sv} {i : Nat} (h : 0 < biN (V.2 i) W W.1) : ∀ n, i < n → 0 < bth V W W.1 n
  | 0, hi => absurd hi (Nat.not_lt_zero _)
  | n + 1, hi => by
    show 0 < bth V W W.1 n + biN (V.2 n) W W.1
    by_cases q : i = n
    · subst q
      omega
    · have := bth_p h n (by omega)
      omega
theorem sT_up (V : Sv) : ∀ n, sT V n ≤ 65536 * n
  | 0 => Nat.le_refl _
  | n + 1 => by
    have h1 := sT_up V n
    have h2 := tot_le (V.2 n).2.2
    show sT V n + tot (V.2 n).2.2 ≤ _
    omega
noncomputable def cmpV (V W : Sv) : Int32 := if bth V W W.1 V.1 = sT V V.1 then (if bth V W W.1 V.1 = sT W W.1 then 2 else 3) else if bth V W W.1 V.1 = sT W W.1 then 4 else if 0 < bth V W W.1 V.1 then 1 else 0
theorem cmp_2 {V W : Sv} (h : bth V W W.1 V.1 = sT V V.1) (k : bth V W W.1 V.1 = sT W W.1) : cmpV V W = 2 := by
  unfold cmpV
  rw [if_pos h, if_pos k]
theorem cmp_3 {V W : Sv} (h : bth V W W.1 V.1 = sT V V.1) (k : ¬ bth V W W.1 V.1 = sT W W.1) : cmpV V W = 3 := by
  unfold cmpV
  rw [if_pos h, if_neg k]
theorem cmp_4 {V W : Sv} (h : ¬ bth V W W.1 V.1 = sT V V.1) (k : bth V W W.1 V.1 = sT W W.1) : cmpV V W = 4 := by
  unfold cmpV
  rw [if_neg h, if_pos k]
theorem cmp_1 {V W : Sv} (h : ¬ bth V W W.1 V.1 = sT V V.1) (k : ¬ bth V W W.1 V.1 = sT W W.1) (z : 0 < bth V W W.1 V.1) : cmpV V W = 1 := by
  unfold cmpV
  rw [if_neg h, if_neg k, if_pos z]
theorem cmp_0 {V W : Sv} (h : ¬ bth V W W.1 V.1 = sT V V.1) (k : ¬ bth V W W.1 V.1 = sT W W.1) (z : ¬ 0 < bth V W W.1 V.1) : cmpV V W = 0 := by
  unfold cmpV
  rw [if_neg h, if_neg k, if_neg z]
theorem yn_0 {r : Int32} {X : Prop} (h : (r = 1 ∧ X) ∨ (r = 0 ∧ ¬ X)) (e : r = 0) : ¬ X := by
  rcases h with ⟨q, -⟩ | ⟨-, q⟩
  · exact absurd (q.symm.trans e) (by decide)
  · exact q
theorem yn_1 {r : Int32} {X : Prop} (h : (r = 1 ∧ X) ∨ (r = 0 ∧ ¬ X)) (e : ¬ r = 0) : X := by
  rcases h with ⟨-, q⟩ | ⟨q, -⟩
  · exact q
  · exact absurd q e
theorem nI_nm {n : Nat} (h : n < 2 ^ 31) : ¬ nI n = -1 := fun e => by
  have q := congrArg Int32.toInt e
  rw [nI_toInt h, show (-1 : Int32).toInt = -1 by decide] at q
  omega

set_option maxRecDepth 100000 in
set_option maxHeartbeats 2000000 in
theorem f_X2_isInside (l : Launch) (D : va_G) (cy : Nat → ClassId) (nw : Nat) (S : PS) (O : Nat → Nat) (b s it : Nat) (C : Nat → Nat) (V : Sv) (hv : SV S nw O b s it C V) (b2 o io : Nat) (C2 : Nat → Nat) (W : Sv) (hw : SV S nw O b2 o io C2 W) (hst : Srt W) (hVt : ∀ i, i < V.1 → 0 < tot (V.2 i).2.2) : kI l yX2_isInside wsX2_isInside 2 44 D cy nw [.ref s, .ref o] S (fun r T => S = T ∧ ((r = 1 ∧ bth V W W.1 V.1 = sT V V.1) ∨ (r = 0 ∧ ¬ bth V W W.1 V.1 = sT V V.1))) 0 0 := by
  refine enterI (cc := cX2_isInside) (nL := 4) (ret := (some .boolean)) (by decide +kernel) rfl (Nat.le_of_ble_eq_true rfl) ?_
  intro F Z hl hR hD hcy hnw hnm
  subst hl hD hcy hnw
  have hRf : F.R.frames = 2 := by rw [hR]
  have hRc : F.R.cells = 0 := by rw [hR]
  have hRs : F.R.slots = 0 := by rw [hR]
  have hRl : F.R.locals = 44 := by rw [hR]
  have in1 : ∀ w ∈ u_ws RX1 TX1 4, w ∈ wsX2_isInside := by decide +kernel
  have in2 : ∀ w ∈ u_ws RX2 TX2 2, w ∈ wsX2_isInside := by decide +kernel
  have lk11 : Cond.fieldLink RX2 11 (TX2 0).1 (TX2 0).2.1 (TX2 0).2.2.1 ∈ wsX2_isInside := by decide +kernel
  have lk18 : Cond.fieldLink RX2 18 (TX2 1).1 (TX2 1).2.1 (TX2 1).2.2.1 ∈ wsX2_isInside := by decide +kernel
  have lk26 : Cond.fieldLink RX2 26 (TX1 0).1 (TX1 0).2.1 (TX1 0).2.2.1 ∈ wsX2_isInside := by decide +kernel
  obtain ⟨hsL, hsK, hsit, hitL, hitK, hitl, -, hu7, hsw, hsr⟩ := id hv.at
  have hsu := hv.2.2.2.1
  have hoL := hw.1
  have hoK := hw.2.1
  have loop : ∀ (n : Nat) (j : Nat), 8 - j < n → j ≤ V.1 → (∀ i, i < j → biN (V.2 i) W W.1 = tot (V.2 i).2.2) → G F 4 S 0 0 (QI F (fun r T => S = T ∧ ((r = 1 ∧ bth V W W.1 V.1 = sT V V.1) ∨ (r = 0 ∧ ¬ bth V W W.1 V.1 = sT V V.1))) 0 0) 2 [(0, .ref s), (1, .ref o), (2, .int (nI j))] [] := by
    intro n
    induction n with
    | zero => intros; omega
    | succ n ih =>
      intro j hn hj h0
      refine g_iload_n Z dX2_isInside_2 rfl ?_
      refine g_aload_n Z dX2_isInside_3 rfl ?_
      refine g_geti Z 2 1 rfl (by decide) in2 lk18 dX2_isInside_4 (by assumption) (by assumption) ?_
      rw [hsu]
      refine g_icmp_ge Z 49 dX2_isInside_7 (by decide) (fun h7 => ?_) (fun h7 => ?_)
      · refine g_iconst (v := 1) Z dX2_isInside_49 (by decide) ?_
        exact g_zret Z dX2_isInside_50 (by rfl) (by omega) (by omega) (⟨rfl, Or.inl ⟨rfl, bth_eq V.1 (fun i hi => h0 i (by have := ge_t (by omega) (by omega) h7; omega))⟩⟩)
      · have hlt : j < V.1 := ge_f (by omega) (by omega) h7
        have hc := hv.rr (j := j) (by omega)
        have hcv := hv.cv hlt
        obtain ⟨hcL, hcK, -, -⟩ := id hcv.cr
        have hkj := hcv.ky
        obtain ⟨w1, hcq, -, -, -, -, hwd⟩ := id hcv
        have hcl : (nI j).toNatClampNeg = j := nI_clamp (by omega)
        refine g_aload_n Z dX2_isInside_10 rfl ?_
        refine g_aload_n Z dX2_isInside_11 rfl ?_
        refine g_getr Z 2 0 rfl (by decide) in2 lk11 dX2_isInside_12 (by assumption) (by assumption) (by assumption) ?_
        refine g_iload_n Z dX2_isInside_15 rfl ?_
        refine g_aald10 Z dX2_isInside_16 (by assumption) (by assumption) (by exact vin_of hitl (by omega) (by decide)) (by rw [hcl]; exact hc) ?_
        refine g_geti Z 1 0 rfl (by decide) in1 lk26 dX2_isInside_17 (by assumption) (by assumption) ?_
        rw [hkj.1]
        refine g_cvR Z (f_X2_find F.l F.D F.cy F.nw _ O b2 o io C2 W hw (V.2 j).1 hkj.2) 1 gX2_isInside_X2_find rfl (by decide +kernel) (by rw [hRf, hRl]; decide) (by assumption) (κ := 2) (by assumption) rfl (by decide) rfl rfl (Nat.le_of_ble_eq_true rfl) dX2_isInside_20 (by rw [hRc, hRs]; omega) (fun r U hp => ?_)
        obtain ⟨rfl, hr⟩ := hp
        rcases hr.symm with ⟨rfl, hnn⟩ | ⟨i2, hi2, hei, rfl⟩
        · refine g_astore_nN Z dX2_isInside_23 (by decide) ?_
          refine g_aload_nN Z dX2_isInside_24 rfl ?_
          refine g_ifnullN Z 41 dX2_isInside_25 (by decide) ?_
          refine g_iconst (v := 0) Z dX2_isInside_41 (by decide) ?_
          exact g_zret Z dX2_isInside_42 (by rfl) (by omega) (by omega) (⟨rfl, Or.inr ⟨rfl, bth_ne hst (i := j) (by rw [bi_none hst hnn]; exact Nat.ne_of_lt (hVt j hlt)) V.1 hlt⟩⟩)
        · have hbi := bi_ix hst hi2 hei
          obtain ⟨w2, hdq, -, -, -, -, hwd2⟩ := id (hw.cv hi2)
          refine g_astore_n Z dX2_isInside_23 (by decide) ?_
          refine g_aload_n Z dX2_isInside_24 rfl ?_
          refine g_ifnull Z dX2_isInside_25 ?_
          refine g_aload_n Z dX2_isInside_28 rfl ?_
          refine g_getr Z 2 0 rfl (by decide) in2 lk11 dX2_isInside_29 (by assumption) (by assumption) (by assumption) ?_
          refine g_iload_n Z dX2_isInside_32 rfl ?_
          refine g_aald10 Z dX2_isInside_33 (by assumption) (by assumption) (by exact vin_of hitl (by omega) (by decide)) (by rw [hcl]; exact hc) ?_
          refine g_aload_n Z dX2_isInside_34 rfl ?_
          refine g_cvI Z (f_X1_hasNoLowBut F.l F.D F.cy F.nw _ (C j) (C2 i2) w1 w2 hcq hdq) 1 gX2_isInside_X1_hasNoLowBut rfl (by decide +kernel) (by rw [hRf, hRl]; decide) (by assumption) (κ := 1) (by assumption) rfl (by decide) rfl rfl (Nat.le_of_ble_eq_true rfl) dX2_isInside_35 (by rw [hRc, hRs]; omega) (fun r2 U hp2 => ?_)
          obtain ⟨rfl, hr2⟩ := hp2
          refine g_if_ne Z 43 dX2_isInside_38 (by decide) (fun h38 => ?_) (fun h38 => ?_)
          · have hb : biN (V.2 j) W W.1 = tot (V.2 j).2.2 := by
              rcases hr2 with ⟨-, h⟩ | ⟨e, -⟩
              · rw [hbi]; exact nb_sub (fun q hq => by rw [← hwd q hq, ← hwd2 q hq]; exact h q hq)
              · exact absurd e h38
            refine g_iinc (c := 1) Z dX2_isInside_43 rfl (by decide) (by decide) ?_
            rw [nI_1]
            refine g_goto Z 2 dX2_isInside_46 (by decide) ?_
            exact g_lv (by (repeat (first | exact trivial | refine And.intro rfl ?_)); done) (ih (j + 1) (by omega) (by omega) (fun i hi => by
              rcases Nat.lt_or_ge i j with z | z
              · exact h0 i z
              · rw [show i = j by omega]; exact hb))
          · have hb : ¬ biN (V.2 j) W W.1 = tot (V.2 j).2.2 := by
              rcases hr2 with ⟨e, -⟩ | ⟨-, q, hq, h⟩
              · exact absurd (e.symm.trans h38) (by decide)
              · rw [hbi]; exact nb_no hq (by rw [← hwd q hq, ← hwd2 q hq]; exact h)
            refine g_iconst (v := 0) Z dX2_isInside_41 (by decide) ?_
            exact g_zret Z dX2_isInside_42 (by rfl) (by omega) (by omega) (⟨rfl, Or.inr ⟨rfl, bth_ne hst hb V.1 hlt⟩⟩)
  refine g_iconst (v := 0) Z dX2_isInside_0 (by decide) ?_
  refine g_istore_n Z dX2_isInside_1 (by decide) ?_
  exact g_lv (by (repeat (first | exact trivial | refine And.intro rfl ?_)); done) (loop 9 0 (by omega) (by omega) (fun i hi => absurd hi (Nat.not_lt_zero _)))

set_option maxRecDepth 100000 in
set_option maxHeartbeats 2000000 in
theorem f_X2_meets (l : Launch) (D : va_G) (cy : Nat → ClassId) (nw : Nat) (S : PS) (O : Nat → Nat) (b s it : Nat) (C : Nat → Nat) (V : Sv) (hv : SV S nw O b s it C V) (b2 o io : Nat) (C2 : Nat → Nat) (W : Sv) (hw : SV S nw O b2 o io C2 W) (hst : Srt W) : kI l yX2_meets wsX2_meets 2 44 D cy nw [.ref s, .ref o] S (fun r T => S = T ∧ ((r = 1 ∧ 0 < bth V W W.1 V.1) ∨ (r = 0 ∧ ¬ 0 < bth V W W.1 V.1))) 0 0 := by
  refine enterI (cc := cX2_meets) (nL := 4) (ret := (some .boolean)) (by decide +kernel) rfl (Nat.le_of_ble_eq_true rfl) ?_
  intro F Z hl hR hD hcy hnw hnm
  subst hl hD hcy hnw
  have hRf : F.R.frames = 2 := by rw [hR]
  have hRc : F.R.cells = 0 := by rw [hR]
  have hRs : F.R.slots = 0 := by rw [hR]
  have hRl : F.R.locals = 44 := by rw [hR]
  have in1 : ∀ w ∈ u_ws RX1 TX1 4, w ∈ wsX2_meets := by decide +kernel
  have in2 : ∀ w ∈ u_ws RX2 TX2 2, w ∈ wsX2_meets := by decide +kernel
  have lk11 : Cond.fieldLink RX2 11 (TX2 0).1 (TX2 0).2.1 (TX2 0).2.2.1 ∈ wsX2_meets := by decide +kernel
  have lk18 : Cond.fieldLink RX2 18 (TX2 1).1 (TX2 1).2.1 (TX2 1).2.2.1 ∈ wsX2_meets := by decide +kernel
  have lk26 : Cond.fieldLink RX2 26 (TX1 0).1 (TX1 0).2.1 (TX1 0).2.2.1 ∈ wsX2_meets := by decide +kernel
  obtain ⟨hsL, hsK, hsit, hitL, hitK, hitl, -, hu7, hsw, hsr⟩ := id hv.at
  have hsu := hv.2.2.2.1
  have hoL := hw.1
  have hoK := hw.2.1
  have loop : ∀ (n : Nat) (j : Nat), 8 - j < n → j ≤ V.1 → (∀ i, i < j → biN (V.2 i) W W.1 = 0) → G F 4 S 0 0 (QI F (fun r T => S = T ∧ ((r = 1 ∧ 0 < bth V W W.1 V.1) ∨ (r = 0 ∧ ¬ 0 < bth V W W.1 V.1))) 0 0) 2 [(0, .ref s), (1, .ref o), (2, .int (nI j))] [] := by
    intro n
    induction n with
    | zero => intros; omega
    | succ n ih =>
      intro j hn hj h0
      refine g_iload_n Z dX2_meets_2 rfl ?_
      refine g_aload_n Z dX2_meets_3 rfl ?_
      refine g_geti Z 2 1 rfl (by decide) in2 lk18 dX2_meets_4 (by assumption) (by assumption) ?_
      rw [hsu]
      refine g_icmp_ge Z 49 dX2_meets_7 (by decide) (fun h7 => ?_) (fun h7 => ?_)
      · refine g_iconst (v := 0) Z dX2_meets_49 (by decide) ?_
        exact g_zret Z dX2_meets_50 (by rfl) (by omega) (by omega) (⟨rfl, Or.inr ⟨rfl, by rw [bth_z V.1 (fun i hi => h0 i (by have := ge_t (by omega) (by omega) h7; omega))]; exact Nat.lt_irrefl 0⟩⟩)
      · have hlt : j < V.1 := ge_f (by omega) (by omega) h7
        have hc := hv.rr (j := j) (by omega)
        have hcv := hv.cv hlt
        obtain ⟨hcL, hcK, -, -⟩ := id hcv.cr
        have hkj := hcv.ky
        obtain ⟨w1, hcq, -, -, -, -, hwd⟩ := id hcv
        have hcl : (nI j).toNatClampNeg = j := nI_clamp (by omega)
        refine g_aload_n Z dX2_meets_10 rfl ?_
        refine g_aload_n Z dX2_meets_11 rfl ?_
        refine g_getr Z 2 0 rfl (by decide) in2 lk11 dX2_meets_12 (by assumption) (by assumption) (by assumption) ?_
        refine g_iload_n Z dX2_meets_15 rfl ?_
        refine g_aald10 Z dX2_meets_16 (by assumption) (by assumption) (by exact vin_of hitl (by omega) (by decide)) (by rw [hcl]; exact hc) ?_
        refine g_geti Z 1 0 rfl (by decide) in1 lk26 dX2_meets_17 (by assumption) (by assumption) ?_
        rw [hkj.1]
        refine g_cvR Z (f_X2_find F.l F.D F.cy F.nw _ O b2 o io C2 W hw (V.2 j).1 hkj.2) 1 gX2_meets_X2_find rfl (by decide +kernel) (by rw [hRf, hRl]; decide) (by assumption) (κ := 2) (by assumption) rfl (by decide) rfl rfl (Nat.le_of_ble_eq_true rfl) dX2_meets_20 (by rw [hRc, hRs]; omega) (fun r U hp => ?_)
        obtain ⟨rfl, hr⟩ := hp
        rcases hr.symm with ⟨rfl, hnn⟩ | ⟨i2, hi2, hei, rfl⟩
        · refine g_astore_nN Z dX2_meets_23 (by decide) ?_
          refine g_aload_nN Z dX2_meets_24 rfl ?_
          refine g_ifnullN Z 43 dX2_meets_25 (by decide) ?_
          refine g_iinc (c := 1) Z dX2_meets_43 rfl (by decide) (by decide) ?_
          rw [nI_1]
          refine g_goto Z 2 dX2_meets_46 (by decide) ?_
          exact g_lv (by (repeat (first | exact trivial | refine And.intro rfl ?_)); done) (ih (j + 1) (by omega) (by omega) (fun i hi => by
              rcases Nat.lt_or_ge i j with z | z
              · exact h0 i z
              · rw [show i = j by omega]; exact bi_none hst hnn))
        · have hbi := bi_ix hst hi2 hei
          obtain ⟨w2, hdq, -, -, -, -, hwd2⟩ := id (hw.cv hi2)
          refine g_astore_n Z dX2_meets_23 (by decide) ?_
          refine g_aload_n Z dX2_meets_24 rfl ?_
          refine g_ifnull Z dX2_meets_25 ?_
          refine g_aload_n Z dX2_meets_28 rfl ?_
          refine g_getr Z 2 0 rfl (by decide) in2 lk11 dX2_meets_29 (by assumption) (by assumption) (by assumption) ?_
          refine g_iload_n Z dX2_meets_32 rfl ?_
          refine g_aald10 Z dX2_meets_33 (by assumption) (by assumption) (by exact vin_of hitl (by omega) (by decide)) (by rw [hcl]; exact hc) ?_
          refine g_aload_n Z dX2_meets_34 rfl ?_
          refine g_cvI Z (f_X1_hasLowIn F.l F.D F.cy F.nw _ (C j) (C2 i2) w1 w2 hcq hdq) 1 gX2_meets_X1_hasLowIn rfl (by decide +kernel) (by rw [hRf, hRl]; decide) (by assumption) (κ := 1) (by assumption) rfl (by decide) rfl rfl (Nat.le_of_ble_eq_true rfl) dX2_meets_35 (by rw [hRc, hRs]; omega) (fun r2 U hp2 => ?_)
          obtain ⟨rfl, hr2⟩ := hp2
          refine g_if_eq Z 43 dX2_meets_38 (by decide) (fun h38 => ?_) (fun h38 => ?_)
          · have hb : biN (V.2 j) W W.1 = 0 := by
              rcases hr2 with ⟨-, h⟩ | ⟨e, -⟩
              · rw [hbi]; exact tot_n0 (fun q hq => by show (V.2 j).2.2 q &&& (W.2 i2).2.2 q = 0; rw [← hwd q hq, ← hwd2 q hq]; exact h q hq)
              · exact absurd (e.symm.trans h38) (by decide)
            refine g_iinc (c := 1) Z dX2_meets_43 rfl (by decide) (by decide) ?_
            rw [nI_1]
            refine g_goto Z 2 dX2_meets_46 (by decide) ?_
            exact g_lv (by (repeat (first | exact trivial | refine And.intro rfl ?_)); done) (ih (j + 1) (by omega) (by omega) (fun i hi => by
              rcases Nat.lt_or_ge i j with z | z
              · exact h0 i z
              · rw [show i = j by omega]; exact hb))
          · have hb : 0 < biN (V.2 j) W W.1 := by
              rcases hr2 with ⟨e, -⟩ | ⟨-, q, hq, h⟩
              · exact absurd e h38
              · rw [hbi]; exact li_1 hq (by rw [← hwd q hq, ← hwd2 q hq]; exact h)
            refine g_iconst (v := 1) Z dX2_meets_41 (by decide) ?_
            exact g_zret Z dX2_meets_42 (by rfl) (by omega) (by omega) (⟨rfl, Or.inl ⟨rfl, bth_p hb V.1 hlt⟩⟩)
  refine g_iconst (v := 0) Z dX2_meets_0 (by decide) ?_
  refine g_istore_n Z dX2_meets_1 (by decide) ?_
  exact g_lv (by (repeat (first | exact trivial | refine And.intro rfl ?_)); done) (loop 9 0 (by omega) (by omega) (fun i hi => absurd hi (Nat.not_lt_zero _)))

set_option maxRecDepth 100000 in
set_option maxHeartbeats 2000000 in
theorem f_X6_compare (l : Launch) (D : va_G) (cy : Nat → ClassId) (nw : Nat) (S : PS) (x sa pl la br h n u rd rk rt w fa : Nat) (so O : Nat → Nat) (V : Nat → Sv) (B : Nat → Nat) (hx : FX S nw x sa pl la br h n u rd rk rt w fa so O V B) (a b : Int32) : kI l yX6_compare wsX6_compare 3 67 D cy nw [.ref x, .int a, .int b] S (fun r T => S = T ∧ ((∃ j k, j < 8 ∧ k < 8 ∧ a = nI j ∧ b = nI k ∧ r = cmpV (V j) (V k)) ∨ (¬ (isS a ∧ isS b) ∧ r = -2))) 0 0 := by
  refine enterI (cc := cX6_compare) (nL := 5) (ret := (some .int)) (by decide +kernel) rfl (Nat.le_of_ble_eq_true rfl) ?_
  intro F Z hl hR hD hcy hnw hnm
  subst hl hD hcy hnw
  have hRf : F.R.frames = 3 := by rw [hR]
  have hRc : F.R.cells = 0 := by rw [hR]
  have hRs : F.R.slots = 0 := by rw [hR]
  have hRl : F.R.locals = 67 := by rw [hR]
  have in5 : ∀ w ∈ u_ws RX6 TX6 6, w ∈ wsX6_compare := by decide +kernel
  have lk11 : Cond.fieldLink RX6 11 (TX6 0).1 (TX6 0).2.1 (TX6 0).2.2.1 ∈ wsX6_compare := by decide +kernel
  obtain ⟨hFO, hGV, hVok⟩ := id hx
  obtain ⟨hFx, hSa, -, -, -⟩ := id hFO
  obtain ⟨hxL, hxK, hxO, hsa, hsp, hpl, hbr, hrd, hxw, hw3⟩ := id hFx
  obtain ⟨hsaL, hsaK, hsal, hsas, hsaO⟩ := id hSa
  obtain ⟨be, it, C, hgx⟩ := id hGV
  refine g_iload_n Z dX6_compare_0 rfl ?_
  refine g_csI Z (c_X6_isNoSet F.l F.D F.cy F.nw _ _) 1 gX6_compare_X6_isNoSet rfl (by decide +kernel) (by rw [hRf, hRl]; decide) rfl rfl (Nat.le_of_ble_eq_true rfl) dX6_compare_1 (by rw [hRc, hRs]; omega) (fun r0 T0 hq0 => ?_)
  obtain ⟨rfl, hi1⟩ := hq0
  refine g_if_ne Z 14 dX6_compare_4 (by decide) (fun h4 => ?_) (fun h4 => ?_)
  · refine g_bipush (v := (-2)) Z dX6_compare_14 (by decide) ?_
    exact g_iret Z dX6_compare_16 (by omega) (by omega) ⟨rfl, Or.inr ⟨fun q => isIx_1 (by decide) hi1 h4 q.1, rfl⟩⟩
  · obtain ⟨j, hj, rfl⟩ := isIx_0 hi1 h4
    have hss := (hgx.1 j (by omega)).1
    have hcj : (nI j).toNatClampNeg = j := nI_clamp (by omega)
    refine g_iload_n Z dX6_compare_7 rfl ?_
    refine g_csI Z (c_X6_isNoSet F.l F.D F.cy F.nw _ _) 1 gX6_compare_X6_isNoSet rfl (by decide +kernel) (by rw [hRf, hRl]; decide) rfl rfl (Nat.le_of_ble_eq_true rfl) dX6_compare_8 (by rw [hRc, hRs]; omega) (fun r0 T0 hq0 => ?_)
    obtain ⟨rfl, hi2⟩ := hq0
    refine g_if_eq Z 17 dX6_compare_11 (by decide) (fun h11 => ?_) (fun h11 => ?_)
    · obtain ⟨k, hk, rfl⟩ := isIx_0 hi2 h11
      have hss2 := (hgx.1 k (by omega)).1
      have hsy := bth_sym (V j) (V k) (V j).1 (V k).1
      have hck : (nI k).toNatClampNeg = k := nI_clamp (by omega)
      refine g_aload_n Z dX6_compare_17 rfl ?_
      refine g_getr Z 5 0 rfl (by decide) in5 lk11 dX6_compare_18 (by assumption) (by assumption) (by assumption) ?_
      refine g_iload_n Z dX6_compare_21 rfl ?_
      refine g_aald11 Z dX6_compare_22 (by assumption) (by assumption) (by exact vin_of hsal (by omega) (by decide)) (by rw [hcj]; exact hsas j hj) ?_
      refine g_aload_n Z dX6_compare_23 rfl ?_
      refine g_getr Z 5 0 rfl (by decide) in5 lk11 dX6_compare_24 (by assumption) (by assumption) (by assumption) ?_
      refine g_iload_n Z dX6_compare_27 rfl ?_
      refine g_aald11 Z dX6_compare_28 (by assumption) (by assumption) (by exact vin_of hsal (by omega) (by decide)) (by rw [hck]; exact hsas k hk) ?_
      refine g_cvI Z (f_X2_isInside F.l F.D F.cy F.nw _ O (be j) (so j) (it j) (C j) (V j) hss (be k) (so k) (it k) (C k) (V k) hss2 (hVok k hk).2.1 (fun i h => ((hVok j hj).2.2 i h).2.1)) 1 gX6_compare_X2_isInside rfl (by decide +kernel) (by rw [hRf, hRl]; decide) (by exact hss.1) (κ := 2) (by exact hss.2.1) rfl (by decide) rfl rfl (Nat.le_of_ble_eq_true rfl) dX6_compare_29 (by rw [hRc, hRs]; omega) (fun r3 T3 hq3 => ?_)
      obtain ⟨rfl, hA⟩ := hq3
      refine g_istore_n Z dX6_compare_32 (by decide) ?_
      refine g_aload_n Z dX6_compare_33 rfl ?_
      refine g_getr Z 5 0 rfl (by decide) in5 lk11 dX6_compare_34 (by assumption) (by assumption) (by assumption) ?_
      refine g_iload_n Z dX6_compare_37 rfl ?_
      refine g_aald11 Z dX6_compare_38 (by assumption) (by assumption) (by exact vin_of hsal (by omega) (by decide)) (by rw [hck]; exact hsas k hk) ?_
      refine g_aload_n Z dX6_compare_39 rfl ?_
      refine g_getr Z 5 0 rfl (by decide) in5 lk11 dX6_compare_40 (by assumption) (by assumption) (by assumption) ?_
      refine g_iload_n Z dX6_compare_43 rfl ?_
      refine g_aald11 Z dX6_compare_44 (by assumption) (by assumption) (by exact vin_of hsal (by omega) (by decide)) (by rw [hcj]; exact hsas j hj) ?_
      refine g_cvI Z (f_X2_isInside F.l F.D F.cy F.nw _ O (be k) (so k) (it k) (C k) (V k) hss2 (be j) (so j) (it j) (C j) (V j) hss (hVok j hj).2.1 (fun i h => ((hVok k hk).2.2 i h).2.1)) 1 gX6_compare_X2_isInside rfl (by decide +kernel) (by rw [hRf, hRl]; decide) (by exact hss2.1) (κ := 2) (by exact hss2.2.1) rfl (by decide) rfl rfl (Nat.le_of_ble_eq_true rfl) dX6_compare_45 (by rw [hRc, hRs]; omega) (fun r3 T3 hq3 => ?_)
      obtain ⟨rfl, hB⟩ := hq3
      rw [← hsy] at hB
      refine g_istore Z dX6_compare_48 (by decide) ?_
      refine g_iload_n Z dX6_compare_50 rfl ?_
      refine g_if_eq Z 65 dX6_compare_51 (by decide) (fun h51 => ?_) (fun h51 => ?_)
      · refine g_iload Z dX6_compare_65 rfl ?_
        refine g_if_eq Z 72 dX6_compare_67 (by decide) (fun h67 => ?_) (fun h67 => ?_)
        · refine g_aload_n Z dX6_compare_72 rfl ?_
          refine g_getr Z 5 0 rfl (by decide) in5 lk11 dX6_compare_73 (by assumption) (by assumption) (by assumption) ?_
          refine g_iload_n Z dX6_compare_76 rfl ?_
          refine g_aald11 Z dX6_compare_77 (by assumption) (by assumption) (by exact vin_of hsal (by omega) (by decide)) (by rw [hcj]; exact hsas j hj) ?_
          refine g_aload_n Z dX6_compare_78 rfl ?_
          refine g_getr Z 5 0 rfl (by decide) in5 lk11 dX6_compare_79 (by assumption) (by assumption) (by assumption) ?_
          refine g_iload_n Z dX6_compare_82 rfl ?_
          refine g_aald11 Z dX6_compare_83 (by assumption) (by assumption) (by exact vin_of hsal (by omega) (by decide)) (by rw [hck]; exact hsas k hk) ?_
          refine g_cvI Z (f_X2_meets F.l F.D F.cy F.nw _ O (be j) (so j) (it j) (C j) (V j) hss (be k) (so k) (it k) (C k) (V k) hss2 (hVok k hk).2.1) 1 gX6_compare_X2_meets rfl (by decide +kernel) (by rw [hRf, hRl]; decide) (by exact hss.1) (κ := 2) (by exact hss.2.1) rfl (by decide) rfl rfl (Nat.le_of_ble_eq_true rfl) dX6_compare_84 (by rw [hRc, hRs]; omega) (fun r3 T3 hq3 => ?_)
          obtain ⟨rfl, hC⟩ := hq3
          refine g_if_eq Z 94 dX6_compare_87 (by decide) (fun h87 => ?_) (fun h87 => ?_)
          · refine g_iconst (v := 0) Z dX6_compare_94 (by decide) ?_
            exact g_iret Z dX6_compare_95 (by omega) (by omega) ⟨rfl, Or.inl ⟨j, k, hj, hk, rfl, rfl, (cmp_0 (yn_0 hA h51) (yn_0 hB h67) (yn_0 hC h87)).symm⟩⟩
          · refine g_iconst (v := 1) Z dX6_compare_90 (by decide) ?_
            refine g_goto Z 95 dX6_compare_91 (by decide) ?_
            exact g_iret Z dX6_compare_95 (by omega) (by omega) ⟨rfl, Or.inl ⟨j, k, hj, hk, rfl, rfl, (cmp_1 (yn_0 hA h51) (yn_0 hB h67) (yn_1 hC h87)).symm⟩⟩
        · refine g_iconst (v := 4) Z dX6_compare_70 (by decide) ?_
          exact g_iret Z dX6_compare_71 (by omega) (by omega) ⟨rfl, Or.inl ⟨j, k, hj, hk, rfl, rfl, (cmp_4 (yn_0 hA h51) (yn_1 hB h67)).symm⟩⟩
      · refine g_iload Z dX6_compare_54 rfl ?_
        refine g_if_eq Z 63 dX6_compare_56 (by decide) (fun h56 => ?_) (fun h56 => ?_)
        · refine g_iconst (v := 3) Z dX6_compare_63 (by decide) ?_
          exact g_iret Z dX6_compare_64 (by omega) (by omega) ⟨rfl, Or.inl ⟨j, k, hj, hk, rfl, rfl, (cmp_3 (yn_1 hA h51) (yn_0 hB h56)).symm⟩⟩
        · refine g_iconst (v := 2) Z dX6_compare_59 (by decide) ?_
          refine g_goto Z 64 dX6_compare_60 (by decide) ?_
          exact g_iret Z dX6_compare_64 (by omega) (by omega) ⟨rfl, Or.inl ⟨j, k, hj, hk, rfl, rfl, (cmp_2 (yn_1 hA h51) (yn_1 hB h56)).symm⟩⟩
    · refine g_bipush (v := (-2)) Z dX6_compare_14 (by decide) ?_
      exact g_iret Z dX6_compare_16 (by omega) (by omega) ⟨rfl, Or.inr ⟨fun q => isIx_1 (by decide) hi2 h11 q.2, rfl⟩⟩

set_option maxRecDepth 100000 in
set_option maxHeartbeats 2000000 in
theorem f_X7_both (l : Launch) (D : va_G) (cy : Nat → ClassId) (nw : Nat) (A : Nat → Nat) (x : Nat) (ho : mOk A x) (C : C5) (R : MR) (V : Nat → Sv) (hM : MV C V) (hV : ∀ s, s < 8 → Vok (V s)) (a b : Nat) (ha : a < 8) (hb : b < 8) : kI l yX7_both wsX7_both 1 24 D cy nw [.ref x, .int (nI a), .int (nI b)] (mP A x (C, R)) (fun r T => (mP A x (C, R)) = T ∧ r = nI (bth (V a) (V b) (V b).1 (V a).1)) 0 0 := by
  refine enterI (cc := cX7_both) (nL := 8) (ret := (some .int)) (by decide +kernel) rfl (Nat.le_of_ble_eq_true rfl) ?_
  intro F Z hl hR hD hcy hnw hnm
  subst hl hD hcy hnw
  have hRf : F.R.frames = 1 := by rw [hR]
  have hRc : F.R.cells = 0 := by rw [hR]
  have hRs : F.R.slots = 0 := by rw [hR]
  have hRl : F.R.locals = 24 := by rw [hR]
  have in6 : ∀ w ∈ u_ws RX7 TX7 16, w ∈ wsX7_both := by decide +kernel
  have lk7 : Cond.fieldLink RX7 7 (TX7 0).1 (TX7 0).2.1 (TX7 0).2.2.1 ∈ wsX7_both := by decide +kernel
  have lk13 : Cond.fieldLink RX7 13 (TX7 1).1 (TX7 1).2.1 (TX7 1).2.2.1 ∈ wsX7_both := by decide +kernel
  have lk23 : Cond.fieldLink RX7 23 (TX7 4).1 (TX7 4).2.1 (TX7 4).2.2.1 ∈ wsX7_both := by decide +kernel
  obtain ⟨n0, hn0, en, hnV⟩ : ∃ n0, n0 ≤ 6 ∧ C.mn a = nI n0 ∧ n0 = (V a).1 := ⟨(V a).1, (hM a ha).1, (hM a ha).2.1, rfl⟩
  have hn2 := (hM b hb).1
  have hst := (hV b hb).2.1
  have loop : ∀ (n : Nat) (k : Nat), n0 - k < n → k ≤ n0 → G F 8 (mP A x (C, R)) 0 0 (QI F (fun r T => (mP A x (C, R)) = T ∧ r = nI (bth (V a) (V b) (V b).1 (V a).1)) 0 0) 5 [(0, .ref x), (1, .int (nI a)), (2, .int (nI b)), (3, .int (nI (bth (V a) (V b) (V b).1 k))), (4, .int (nI k))] [] := by
    intro n
    induction n with
    | zero => intros; omega
    | succ n ih =>
      intro k hn hk
      have nx : ∀ (y : Int32), y = nI (bth (V a) (V b) (V b).1 (k + 1)) → k < n0 → G F 8 (mP A x (C, R)) 0 0 (QI F (fun r T => (mP A x (C, R)) = T ∧ r = nI (bth (V a) (V b) (V b).1 (V a).1)) 0 0) 97 [(0, .ref x), (1, .int (nI a)), (2, .int (nI b)), (3, .int y), (4, .int (nI k))] [] := by
        intro y ey hlt
        subst ey
        refine g_iinc (c := 1) Z dX7_both_97 rfl (by decide) (by decide) ?_
        rw [nI_1]
        refine g_goto Z 5 dX7_both_100 (by decide) ?_
        exact g_lv (by (repeat (first | exact trivial | refine And.intro rfl ?_)); done) (ih (k + 1) (by omega) (by omega))
      have lp : ∀ (i j : Nat), j < (V b).1 → ((V b).2 j).1 = ((V a).2 k).1 → k < n0 → ∀ (q : Nat), 1024 - q < i → q ≤ 1024 → G F 8 (mP A x (C, R)) 0 0 (QI F (fun r T => (mP A x (C, R)) = T ∧ r = nI (bth (V a) (V b) (V b).1 (V a).1)) 0 0) 42 [(0, .ref x), (1, .int (nI a)), (2, .int (nI b)), (3, .int (nI ((bth (V a) (V b) (V b).1 k) + sW (anW ((V a).2 k).2.2 ((V b).2 j).2.2) q))), (4, .int (nI k)), (5, .int (nI (6 * a + k))), (6, .int (nI (6 * b + j))), (7, .int (nI q))] [] := by
        intro i j hj hej hlt
        have hMa := (hM a ha).2.2 k (by omega)
        have hMb := (hM b hb).2.2 j hj
        induction i with
        | zero => intros; omega
        | succ i ih2 =>
          intro q hi hq
          refine g_iload Z dX7_both_42 rfl ?_
          refine g_sipush (v := 1024) Z dX7_both_44 (by decide) ?_
          refine g_icmp_ge Z 97 dX7_both_47 (by decide) (fun h47 => ?_) (fun h47 => ?_)
          · exact g_lv (by (repeat (first | exact trivial | refine And.intro rfl ?_)); done) (nx _ (by rw [show q = 1024 by have := ge_t (i := q) (N := 1024) (by omega) (by decide) h47; omega, ← tot_sW, ← bi_ix hst hj hej]; rfl) hlt)
          · have hq2 : q < 1024 := ge_f (by omega) (by decide) h47
            refine g_iload Z dX7_both_50 rfl ?_
            refine g_iconst (v := (-1)) Z dX7_both_52 (by decide) ?_
            refine g_icmp_eq Z 97 dX7_both_53 (by decide) (fun h53 => ?_) (fun h53 => ?_)
            · exact g_lv (by (repeat (first | exact trivial | refine And.intro rfl ?_)); done) (nx _ (absurd h53 (nI_nm (by omega))) hlt)
            · refine g_iload_n Z dX7_both_56 rfl ?_
              refine g_aload_n Z dX7_both_57 rfl ?_
              refine m_ref_wd Z in6 lk23 dX7_both_58 ?_
              refine g_sipush (v := 1024) Z dX7_both_61 (by decide) ?_
              refine g_iload Z dX7_both_64 rfl ?_
              refine g_imul Z dX7_both_66 ?_
              refine g_iload Z dX7_both_67 rfl ?_
              refine g_iadd Z dX7_both_69 ?_
              rw [ixw]
              refine m_ald_wd Z ho dX7_both_70 (by exact vp_in_nI (by omega) (by decide)) ?_
              rw [nI_clamp (by omega), show (C, R).fst.wd (1024 * (6 * a + k) + q) = ((V a).2 k).2.2 q from hMa.w hq2]
              refine g_aload_n Z dX7_both_71 rfl ?_
              refine m_ref_wd Z in6 lk23 dX7_both_72 ?_
              refine g_sipush (v := 1024) Z dX7_both_75 (by decide) ?_
              refine g_iload Z dX7_both_78 rfl ?_
              refine g_imul Z dX7_both_80 ?_
              refine g_iload Z dX7_both_81 rfl ?_
              refine g_iadd Z dX7_both_83 ?_
              rw [ixw]
              refine m_ald_wd Z ho dX7_both_84 (by exact vp_in_nI (by omega) (by decide)) ?_
              rw [nI_clamp (by omega), show (C, R).fst.wd (1024 * (6 * b + j) + q) = ((V b).2 j).2.2 q from hMb.w hq2]
              refine g_land Z dX7_both_85 ?_
              refine g_csI Z (c_X7_bitsOf F.l F.D F.cy F.nw _ _) 1 gX7_both_X7_bitsOf rfl (by decide +kernel) (by rw [hRf, hRl]; decide) rfl rfl (Nat.le_of_ble_eq_true rfl) dX7_both_86 (by rw [hRc, hRs]; omega) (fun r T hp => ?_)
              obtain ⟨rfl, e3⟩ := hp
              refine g_iadd Z dX7_both_89 ?_
              rw [e3, nI_add, Nat.add_assoc (bth (V a) (V b) (V b).1 k), show sW (anW ((V a).2 k).2.2 ((V b).2 j).2.2) q + pc (((V a).2 k).2.2 q &&& ((V b).2 j).2.2 q) = sW (anW ((V a).2 k).2.2 ((V b).2 j).2.2) (q + 1) from rfl]
              refine g_istore_n Z dX7_both_90 (by decide) ?_
              refine g_iinc (c := 1) Z dX7_both_91 rfl (by decide) (by decide) ?_
              rw [nI_1]
              refine g_goto Z 42 dX7_both_94 (by decide) ?_
              exact g_lv (by (repeat (first | exact trivial | refine And.intro rfl ?_)); done) (ih2 (q + 1) (by omega) (by omega))
      refine g_iload Z dX7_both_5 rfl ?_
      refine g_aload_n Z dX7_both_7 rfl ?_
      refine m_ref_mn Z in6 lk7 dX7_both_8 ?_
      refine g_iload_n Z dX7_both_11 rfl ?_
      refine m_ald_mn Z ho dX7_both_12 (by exact vp_in_nI (by omega) (by decide)) ?_
      rw [nI_clamp (by omega), en]
      refine g_icmp_ge Z 103 dX7_both_13 (by decide) (fun h13 => ?_) (fun h13 => ?_)
      · have hge := ge_t (by omega) (by omega) h13
        refine g_iload_n Z dX7_both_103 rfl ?_
        exact g_iret Z dX7_both_104 (by omega) (by omega) ⟨rfl, by rw [← hnV, show k = n0 by omega]⟩
      · have hlt : k < n0 := ge_f (by omega) (by omega) h13
        refine g_bipush (v := 6) Z dX7_both_16 (by decide) ?_
        refine g_iload_n Z dX7_both_18 rfl ?_
        refine g_imul Z dX7_both_19 ?_
        refine g_iload Z dX7_both_20 rfl ?_
        refine g_iadd Z dX7_both_22 ?_
        rw [ix6]
        refine g_istore Z dX7_both_23 (by decide) ?_
        refine g_aload_n Z dX7_both_25 rfl ?_
        refine g_iload_n Z dX7_both_26 rfl ?_
        refine g_aload_n Z dX7_both_27 rfl ?_
        refine m_ref_ky Z in6 lk13 dX7_both_28 ?_
        refine g_iload Z dX7_both_31 rfl ?_
        refine m_ald_ky Z ho dX7_both_33 (by exact vp_in_nI (by omega) (by decide)) ?_
        have hka := ((hV a ha).2.2 k (by omega)).1
        rw [nI_clamp (by omega), show (C, R).fst.ky (6 * a + k) = nI ((V a).2 k).1 from ((hM a ha).2.2 k (by omega)).1]
        refine g_cvI Z (f_X7_containerOf F.l F.D F.cy F.nw A x ho _ _ b (by omega) (V b) (hM b hb) (fun i h => ((hV b hb).2.2 i h).1) ((V a).2 k).1 hka) 2 gX7_both_X7_containerOf rfl (by decide +kernel) (by rw [hRf, hRl]; decide) (by exact mP_x) (κ := 6) (by exact mP_Kx) rfl (by decide) rfl rfl (Nat.le_of_ble_eq_true rfl) dX7_both_34 (by rw [hRc, hRs]; omega) (fun r T hp => ?_)
        obtain ⟨rfl, hr⟩ := hp
        rcases hr with ⟨rfl, hno⟩ | ⟨j, hj, hej, rfl⟩
        · refine g_istore Z dX7_both_37 (by decide) ?_
          refine g_iconst (v := 0) Z dX7_both_39 (by decide) ?_
          refine g_istore Z dX7_both_40 (by decide) ?_
          refine g_iload Z dX7_both_42 rfl ?_
          refine g_sipush (v := 1024) Z dX7_both_44 (by decide) ?_
          refine g_icmp_ge Z 97 dX7_both_47 (by decide) (fun h47 => ?_) (fun h47 => ?_)
          · exact g_lv (by (repeat (first | exact trivial | refine And.intro rfl ?_)); done) (nx _ (by show nI (bth (V a) (V b) (V b).1 k) = nI (bth (V a) (V b) (V b).1 k + biN ((V a).2 k) (V b) (V b).1); rw [bi_no (V b).1 hno, Nat.add_zero]) hlt)
          · refine g_iload Z dX7_both_50 rfl ?_
            refine g_iconst (v := (-1)) Z dX7_both_52 (by decide) ?_
            refine g_icmp_eq Z 97 dX7_both_53 (by decide) (fun h53 => ?_) (fun h53 => absurd rfl h53)
            exact g_lv (by (repeat (first | exact trivial | refine And.intro rfl ?_)); done) (nx _ (by show nI (bth (V a) (V b) (V b).1 k) = nI (bth (V a) (V b) (V b).1 k + biN ((V a).2 k) (V b) (V b).1); rw [bi_no (V b).1 hno, Nat.add_zero]) hlt)
        · refine g_istore Z dX7_both_37 (by decide) ?_
          refine g_iconst (v := 0) Z dX7_both_39 (by decide) ?_
          refine g_istore Z dX7_both_40 (by decide) ?_
          exact g_lv (by (repeat (first | exact trivial | refine And.intro rfl ?_)); done) (lp 1025 j hj hej hlt 0 (by omega) (by omega))
  refine g_iconst (v := 0) Z dX7_both_0 (by decide) ?_
  refine g_istore_n Z dX7_both_1 (by decide) ?_
  refine g_iconst (v := 0) Z dX7_both_2 (by decide) ?_
  refine g_istore Z dX7_both_3 (by decide) ?_
  exact g_lv (by (repeat (first | exact trivial | refine And.intro rfl ?_)); done) (loop (n0 + 1) 0 (by omega) (by omega))

set_option maxRecDepth 100000 in
set_option maxHeartbeats 2000000 in
theorem f_X7_compare (l : Launch) (D : va_G) (cy : Nat → ClassId) (nw : Nat) (A : Nat → Nat) (x : Nat) (ho : mOk A x) (C : C5) (R : MR) (V : Nat → Sv) (hM : MV C V) (hV : ∀ s, s < 8 → Vok (V s)) (a b : Int32) : kI l yX7_compare wsX7_compare 2 51 D cy nw [.ref x, .int a, .int b] (mP A x (C, R)) (fun r T => (mP A x (C, R)) = T ∧ ((∃ j k, j < 8 ∧ k < 8 ∧ a = nI j ∧ b = nI k ∧ r = cmpV (V j) (V k)) ∨ (¬ (isS a ∧ isS b) ∧ r = -2))) 0 0 := by
  refine enterI (cc := cX7_compare) (nL := 6) (ret := (some .int)) (by decide +kernel) rfl (Nat.le_of_ble_eq_true rfl) ?_
  intro F Z hl hR hD hcy hnw hnm
  subst hl hD hcy hnw
  have hRf : F.R.frames = 2 := by rw [hR]
  have hRc : F.R.cells = 0 := by rw [hR]
  have hRs : F.R.slots = 0 := by rw [hR]
  have hRl : F.R.locals = 51 := by rw [hR]
  have in6 : ∀ w ∈ u_ws RX7 TX7 16, w ∈ wsX7_compare := by decide +kernel
  refine g_iload_n Z dX7_compare_0 rfl ?_
  refine g_csI Z (c_X7_isSet F.l F.D F.cy F.nw _ _) 1 gX7_compare_X7_isSet rfl (by decide +kernel) (by rw [hRf, hRl]; decide) rfl rfl (Nat.le_of_ble_eq_true rfl) dX7_compare_1 (by rw [hRc, hRs]; omega) (fun r T hp => ?_)
  obtain ⟨rfl, hia⟩ := hp
  refine g_if_eq Z 14 dX7_compare_4 (by decide) (fun h4 => ?_) (fun h4 => ?_)
  · refine g_bipush (v := (-2)) Z dX7_compare_14 (by decide) ?_
    exact g_iret Z dX7_compare_16 (by omega) (by omega) ⟨rfl, Or.inr ⟨fun q => hia.f' h4 q.1, rfl⟩⟩
  · obtain ⟨a', ha, rfl⟩ := hia.is h4
    refine g_iload_n Z dX7_compare_7 rfl ?_
    refine g_csI Z (c_X7_isSet F.l F.D F.cy F.nw _ _) 1 gX7_compare_X7_isSet rfl (by decide +kernel) (by rw [hRf, hRl]; decide) rfl rfl (Nat.le_of_ble_eq_true rfl) dX7_compare_8 (by rw [hRc, hRs]; omega) (fun r T hp => ?_)
    obtain ⟨rfl, hib⟩ := hp
    refine g_if_ne Z 17 dX7_compare_11 (by decide) (fun h11 => ?_) (fun h11 => ?_)
    · obtain ⟨b', hb, rfl⟩ := hib.is h11
      have ha8 : a' < 8 := by omega
      have hb8 : b' < 8 := by omega
      have hna := (hV a' ha8).1
      have hnb := (hV b' hb8).1
      have u1 := sT_up (V a') (V a').1
      have u2 := sT_up (V b') (V b').1
      have u3 := bth_le (V := V a') (hV b' hb8).2.1 (V a').1
      refine g_aload_n Z dX7_compare_17 rfl ?_
      refine g_iload_n Z dX7_compare_18 rfl ?_
      refine g_iload_n Z dX7_compare_19 rfl ?_
      refine g_cvI Z (f_X7_both F.l F.D F.cy F.nw A x ho _ _ V hM hV a' b' ha8 hb8) 2 gX7_compare_X7_both rfl (by decide +kernel) (by rw [hRf, hRl]; decide) (by exact mP_x) (κ := 6) (by exact mP_Kx) rfl (by decide) rfl rfl (Nat.le_of_ble_eq_true rfl) dX7_compare_20 (by rw [hRc, hRs]; omega) (fun r3 T3 hp => ?_)
      obtain ⟨rfl, rfl⟩ := hp
      refine g_istore_n Z dX7_compare_23 (by decide) ?_
      refine g_aload_n Z dX7_compare_24 rfl ?_
      refine g_iload_n Z dX7_compare_25 rfl ?_
      refine g_cvI Z (f_X7_all F.l F.D F.cy F.nw A x ho _ _ a' (by omega) (V a') (hM a' ha8)) 1 gX7_compare_X7_all rfl (by decide +kernel) (by rw [hRf, hRl]; decide) (by exact mP_x) (κ := 6) (by exact mP_Kx) rfl (by decide) rfl rfl (Nat.le_of_ble_eq_true rfl) dX7_compare_26 (by rw [hRc, hRs]; omega) (fun r4 T4 hp => ?_)
      obtain ⟨rfl, rfl⟩ := hp
      refine g_istore Z dX7_compare_29 (by decide) ?_
      refine g_aload_n Z dX7_compare_31 rfl ?_
      refine g_iload_n Z dX7_compare_32 rfl ?_
      refine g_cvI Z (f_X7_all F.l F.D F.cy F.nw A x ho _ _ b' (by omega) (V b') (hM b' hb8)) 1 gX7_compare_X7_all rfl (by decide +kernel) (by rw [hRf, hRl]; decide) (by exact mP_x) (κ := 6) (by exact mP_Kx) rfl (by decide) rfl rfl (Nat.le_of_ble_eq_true rfl) dX7_compare_33 (by rw [hRc, hRs]; omega) (fun r5 T5 hp => ?_)
      obtain ⟨rfl, rfl⟩ := hp
      refine g_istore Z dX7_compare_36 (by decide) ?_
      refine g_iload_n Z dX7_compare_38 rfl ?_
      refine g_iload Z dX7_compare_39 rfl ?_
      refine g_icmp_ne Z 54 dX7_compare_41 (by decide) (fun h41 => ?_) (fun h41 => ?_)
      · refine g_iload_n Z dX7_compare_54 rfl ?_
        refine g_iload Z dX7_compare_55 rfl ?_
        refine g_icmp_ne Z 64 dX7_compare_57 (by decide) (fun h57 => ?_) (fun h57 => ?_)
        · refine g_iload_n Z dX7_compare_64 rfl ?_
          refine g_iload Z dX7_compare_65 rfl ?_
          refine g_icmp_ne Z 74 dX7_compare_67 (by decide) (fun h67 => ?_) (fun h67 => ?_)
          · refine g_iload_n Z dX7_compare_74 rfl ?_
            refine g_if_ne Z 82 dX7_compare_75 (by decide) (fun h75 => ?_) (fun h75 => ?_)
            · refine g_iconst (v := 1) Z dX7_compare_82 (by decide) ?_
              exact g_iret Z dX7_compare_83 (by omega) (by omega) ⟨rfl, Or.inl ⟨a', b', ha8, hb8, rfl, rfl, (cmp_1 (fun e => h41 (congrArg nI e)) (fun e => h67 (congrArg nI e)) (Nat.pos_of_ne_zero (fun e => h75 (by rw [e]; exact nI_0)))).symm⟩⟩
            · refine g_iconst (v := 0) Z dX7_compare_78 (by decide) ?_
              refine g_goto Z 83 dX7_compare_79 (by decide) ?_
              exact g_iret Z dX7_compare_83 (by omega) (by omega) ⟨rfl, Or.inl ⟨a', b', ha8, hb8, rfl, rfl, (cmp_0 (fun e => h41 (congrArg nI e)) (fun e => h67 (congrArg nI e)) (by rw [(nI_eq (b := 0) (by omega) (by omega)).mp (h75.trans nI_0.symm)]; exact Nat.lt_irrefl 0)).symm⟩⟩
          · refine g_iconst (v := 4) Z dX7_compare_70 (by decide) ?_
            refine g_goto Z 83 dX7_compare_71 (by decide) ?_
            exact g_iret Z dX7_compare_83 (by omega) (by omega) ⟨rfl, Or.inl ⟨a', b', ha8, hb8, rfl, rfl, (cmp_4 (fun e => h41 (congrArg nI e)) ((nI_eq (by omega) (by omega)).mp h67)).symm⟩⟩
        · refine g_iconst (v := 3) Z dX7_compare_60 (by decide) ?_
          refine g_goto Z 83 dX7_compare_61 (by decide) ?_
          exact g_iret Z dX7_compare_83 (by omega) (by omega) (absurd h57 h41)
      · refine g_iload_n Z dX7_compare_44 rfl ?_
        refine g_iload Z dX7_compare_45 rfl ?_
        refine g_icmp_ne Z 54 dX7_compare_47 (by decide) (fun h47 => ?_) (fun h47 => ?_)
        · refine g_iload_n Z dX7_compare_54 rfl ?_
          refine g_iload Z dX7_compare_55 rfl ?_
          refine g_icmp_ne Z 64 dX7_compare_57 (by decide) (fun h57 => ?_) (fun h57 => ?_)
          · refine g_iload_n Z dX7_compare_64 rfl ?_
            refine g_iload Z dX7_compare_65 rfl ?_
            refine g_icmp_ne Z 74 dX7_compare_67 (by decide) (fun h67 => ?_) (fun h67 => ?_)
            · refine g_iload_n Z dX7_compare_74 rfl ?_
              refine g_if_ne Z 82 dX7_compare_75 (by decide) (fun h75 => ?_) (fun h75 => ?_)
              · refine g_iconst (v := 1) Z dX7_compare_82 (by decide) ?_
                exact g_iret Z dX7_compare_83 (by omega) (by omega) (absurd h41 h57)
              · refine g_iconst (v := 0) Z dX7_compare_78 (by decide) ?_
                refine g_goto Z 83 dX7_compare_79 (by decide) ?_
                exact g_iret Z dX7_compare_83 (by omega) (by omega) (absurd h41 h57)
            · refine g_iconst (v := 4) Z dX7_compare_70 (by decide) ?_
              refine g_goto Z 83 dX7_compare_71 (by decide) ?_
              exact g_iret Z dX7_compare_83 (by omega) (by omega) (absurd h41 h57)
          · refine g_iconst (v := 3) Z dX7_compare_60 (by decide) ?_
            refine g_goto Z 83 dX7_compare_61 (by decide) ?_
            exact g_iret Z dX7_compare_83 (by omega) (by omega) ⟨rfl, Or.inl ⟨a', b', ha8, hb8, rfl, rfl, (cmp_3 ((nI_eq (by omega) (by omega)).mp h41) (fun e => h47 (congrArg nI e))).symm⟩⟩
        · refine g_iconst (v := 2) Z dX7_compare_50 (by decide) ?_
          refine g_goto Z 83 dX7_compare_51 (by decide) ?_
          exact g_iret Z dX7_compare_83 (by omega) (by omega) ⟨rfl, Or.inl ⟨a', b', ha8, hb8, rfl, rfl, (cmp_2 ((nI_eq (by omega) (by omega)).mp h41) ((nI_eq (by omega) (by omega)).mp h47)).symm⟩⟩
    · refine g_bipush (v := (-2)) Z dX7_compare_14 (by decide) ?_
      exact g_iret Z dX7_compare_16 (by omega) (by omega) ⟨rfl, Or.inr ⟨fun q => hib.f' h11 q.2, rfl⟩⟩
