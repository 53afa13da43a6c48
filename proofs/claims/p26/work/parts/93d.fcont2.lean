/-- a low comes -/
def orb (R : Nat → Int64) (l : Nat) : Nat → Int64 := vp_updL R (l / 64) (R (l / 64) ||| ((1 : Int64) <<< ((nI l).toInt64 &&& 63)))
theorem one_bit {l k : Nat} (hl : l < 2 ^ 31) (hk : k < 64) : wv ((1 : Int64) <<< ((nI l).toInt64 &&& 63)) / 2 ^ k % 2 = if k = l % 64 then 1 else 0 := by
  rw [sh_any hl, sh1 (by omega), tb, Nat.testBit_two_pow]
  by_cases h : k = l % 64
  · rw [if_pos h, h]; simp
  · rw [if_neg h]; simp [show ¬ l % 64 = k from fun e => h e.symm]
theorem or1 {x : Int64} {l k : Nat} (hl : l < 2 ^ 31) (hk : k < 64) : wv (x ||| ((1 : Int64) <<< ((nI l).toInt64 &&& 63))) / 2 ^ k % 2 = if k = l % 64 then 1 else wv x / 2 ^ k % 2 := by
  rw [or_bit, one_bit hl hk]
  have := Nat.mod_lt (wv x / 2 ^ k) (show 2 > 0 by decide)
  by_cases h : k = l % 64
  · rw [if_pos h, if_pos h]; omega
  · rw [if_neg h, if_neg h]; omega
theorem orb_bit (R : Nat → Int64) {l k : Nat} (hl : l < 65536) : cb (orb R l) 0 k = if k = l then 1 else cb R 0 k := by
  rw [cbz, cbz]
  unfold orb
  by_cases h : k / 64 = l / 64
  · rw [h, pk_uLs, or1 (by omega) (Nat.mod_lt _ (by decide))]
    by_cases e : k = l
    · rw [if_pos e, if_pos (by omega)]
    · rw [if_neg e, if_neg (by omega)]
  · rw [pk_uLn h, if_neg (by omega)]
theorem orb_tn (R : Nat → Int64) {l : Nat} (hl : l < 65536) (h0 : cb R 0 l = 0) : Tn R (orb R l) 0 l := by
  refine ⟨by rw [orb_bit R hl, if_pos rfl, h0], fun d k hk hne => ?_⟩
  by_cases hd : d = 0
  · subst hd
    rw [orb_bit R hl, if_neg (by omega)]
  · unfold cb orb
    rw [pk_uLn (by omega)]
theorem tot_orb (R : Nat → Int64) {l : Nat} (hl : l < 65536) (h0 : cb R 0 l = 0) : tot (orb R l) = tot R + 1 := by
  have h := tn_all (orb_tn R hl h0) hl
  rw [h0] at h
  rw [tot_ct, tot_ct]
  omega
theorem orb_has (R : Nat → Int64) {l : Nat} (hl : l < 65536) (h1 : cb R 0 l = 1) : orb R l = R := by
  funext j
  unfold orb
  by_cases h : j = l / 64
  · subst h
    rw [pk_uLs]
    apply w_ext
    intro k hk
    rw [or1 (by omega) hk]
    by_cases e : k = l % 64
    · rw [if_pos e, e, ← cbz, h1]
    · rw [if_neg e]
  · rw [pk_uLn h]
/-- lows come by steps -/
def stR (W : Nat → Int64) (f q : Nat) : Nat → Nat → Int64
  | 0 => W
  | n + 1 => orb (stR W f q n) (f + q * n)

set_option maxRecDepth 100000 in
set_option maxHeartbeats 2000000 in
/-- lows come by steps -/
theorem f_X1_putLowsBySteps (l : Launch) (D : va_G) (cy : Nat → ClassId) (nw : Nat) (S : PS) (c w : Nat) (hc : Cq S c w) (hv : S.fi c 2 = nI (tot (S.rj w))) (f q : Nat) (hf : f < 65536) (hq1 : 1 ≤ q) (hq : q < 65536) : kI l yX1_putLowsBySteps wsX1_putLowsBySteps 1 21 D cy nw [.ref c, .int (nI f), .int (nI q)] S (fun r T => ∃ N, 65535 < f + q * N ∧ (∀ i, i < N → f + q * i ≤ 65535) ∧ T = (CS S c w (S.fi c 0) (S.fi c 1) (nI (tot (stR (S.rj w) f q N))) (stR (S.rj w) f q N)) ∧ Fl r (S.rj w) (stR (S.rj w) f q N)) 0 0 := by
  refine enterI (cc := cX1_putLowsBySteps) (nL := 5) (ret := (some .boolean)) (by decide +kernel) rfl (Nat.le_of_ble_eq_true rfl) ?_
  intro F Z hl hR hD hcy hnw hnm
  subst hl hD hcy hnw
  have hRf : F.R.frames = 1 := by rw [hR]
  have hRc : F.R.cells = 0 := by rw [hR]
  have hRs : F.R.slots = 0 := by rw [hR]
  have hRl : F.R.locals = 21 := by rw [hR]
  have in1 : ∀ w ∈ u_ws RX1 TX1 4, w ∈ wsX1_putLowsBySteps := by decide +kernel
  have lk13 : Cond.fieldLink RX1 13 (TX1 3).1 (TX1 3).2.1 (TX1 3).2.2.1 ∈ wsX1_putLowsBySteps := by decide +kernel
  have lk34 : Cond.fieldLink RX1 34 (TX1 2).1 (TX1 2).2.1 (TX1 2).2.2.1 ∈ wsX1_putLowsBySteps := by decide +kernel
  have ct62 : Cond.constant RX1 62 (65535) ∈ wsX1_putLowsBySteps := by decide +kernel
  obtain ⟨hcL, hcK, hww, hwL, hwK, hwl⟩ := id hc
  have loop : ∀ (n : Nat) (i : Nat), 131072 - (f + q * i) < n → ((∀ k, k < i → f + q * k ≤ 65535) ∧ f + q * i ≤ 131072 ∧ tot (S.rj w) ≤ tot (stR (S.rj w) f q i) ∧ (tot (stR (S.rj w) f q i) = tot (S.rj w) → (stR (S.rj w) f q i) = S.rj w)) → G F 5 (CS S c w (S.fi c 0) (S.fi c 1) (nI (tot (stR (S.rj w) f q i))) (stR (S.rj w) f q i)) 0 0 (QI F (fun r T => ∃ N, 65535 < f + q * N ∧ (∀ i, i < N → f + q * i ≤ 65535) ∧ T = (CS S c w (S.fi c 0) (S.fi c 1) (nI (tot (stR (S.rj w) f q N))) (stR (S.rj w) f q N)) ∧ Fl r (S.rj w) (stR (S.rj w) f q N)) 0 0) 15 [(0, .ref c), (1, .int (nI f)), (2, .int (nI q)), (3, .int (nI (tot (S.rj w)))), (4, .int (nI (f + q * i)))] [] := by
    intro n
    induction n with
    | zero => intros; omega
    | succ n ih =>
      intro i hn ⟨hk, hi, hm1, hm2⟩
      have hq2 : f + q * (i + 1) = f + q * i + q := by rw [Nat.mul_succ]; omega
      have hcq : Cq (CS S c w (S.fi c 0) (S.fi c 1) (nI (tot (stR (S.rj w) f q i))) (stR (S.rj w) f q i)) c w := hc
      have htl := tot_le (stR (S.rj w) f q i)
      have htl0 := tot_le (S.rj w)
      refine g_iload Z dX1_putLowsBySteps_15 rfl ?_
      refine g_ldc (v := 65535) Z dX1_putLowsBySteps_17 ct62 ?_
      refine g_icmp_gt Z 67 dX1_putLowsBySteps_19 (by decide) (fun h19 => ?_) (fun h19 => ?_)
      · have hgt : 65535 < f + q * i := by
          have h := lt_t (i := 65535) (N := f + q * i) (by decide) (by omega) h19
          omega
        refine g_aload_n Z dX1_putLowsBySteps_67 rfl ?_
        refine g_geti Z 1 2 rfl (by decide) in1 lk34 dX1_putLowsBySteps_68 (by assumption) (by assumption) ?_
        rw [CS_g2]
        refine g_iload_n Z dX1_putLowsBySteps_71 rfl ?_
        refine g_icmp_eq Z 79 dX1_putLowsBySteps_72 (by decide) (fun h72 => ?_) (fun h72 => ?_)
        · have hz : tot (stR (S.rj w) f q i) = tot (S.rj w) := (nI_eq (by omega) (by omega)).mp h72
          refine g_iconst (v := 0) Z dX1_putLowsBySteps_79 (by decide) ?_
          exact g_zret Z dX1_putLowsBySteps_80 (by rfl) (by omega) (by omega) (by first | exact ⟨i, hgt, hk, rfl, Or.inl ⟨rfl, fun j _ => by rw [hm2 hz]⟩⟩ | exact ⟨i, hgt, hk, rfl, Or.inr ⟨rfl, by
            apply Classical.byContradiction
            intro hno
            exact hz (tot_congr (fun j hj => Classical.byContradiction (fun hne => hno ⟨j, hj, hne⟩)))⟩⟩)
        · have hz : ¬ tot (stR (S.rj w) f q i) = tot (S.rj w) := fun e => h72 (by rw [e])
          refine g_iconst (v := 1) Z dX1_putLowsBySteps_75 (by decide) ?_
          refine g_goto Z 80 dX1_putLowsBySteps_76 (by decide) ?_
          exact g_zret Z dX1_putLowsBySteps_80 (by rfl) (by omega) (by omega) (by first | exact ⟨i, hgt, hk, rfl, Or.inl ⟨rfl, fun j _ => by rw [hm2 hz]⟩⟩ | exact ⟨i, hgt, hk, rfl, Or.inr ⟨rfl, by
            apply Classical.byContradiction
            intro hno
            exact hz (tot_congr (fun j hj => Classical.byContradiction (fun hne => hno ⟨j, hj, hne⟩)))⟩⟩)
      · have hlt : f + q * i ≤ 65535 := gt_f (by omega) (by decide) h19
        have hb := cb_le (stR (S.rj w) f q i) 0 (f + q * i)
        have hcl : (nI ((f + q * i) / 64)).toNatClampNeg = (f + q * i) / 64 := nI_clamp (by omega)
        have hK2 : ∀ k, k < i + 1 → f + q * k ≤ 65535 := by
          intro k hk2
          by_cases e : k = i
          · subst e; exact hlt
          · exact hk k (by omega)
        refine g_aload_n Z dX1_putLowsBySteps_22 rfl ?_
        refine g_iload Z dX1_putLowsBySteps_23 rfl ?_
        refine g_cvI Z (f_X1_holds F.l F.D F.cy F.nw _ c w hcq (f + q * i) (by omega)) 1 gX1_putLowsBySteps_X1_holds rfl (by decide +kernel) (by rw [hRf, hRl]; decide) (by assumption) (κ := 1) (by assumption) rfl (by decide) rfl rfl (Nat.le_of_ble_eq_true rfl) dX1_putLowsBySteps_25 (by rw [hRc, hRs]; omega) (fun r T hp => ?_)
        obtain ⟨rfl, rfl⟩ := hp
        rw [CS_gR]
        refine g_if_ne Z 58 dX1_putLowsBySteps_28 (by decide) (fun h28 => ?_) (fun h28 => ?_)
        · have hb1 : cb (stR (S.rj w) f q i) 0 (f + q * i) = 1 := by
            rcases (show cb (stR (S.rj w) f q i) 0 (f + q * i) = 0 ∨ cb (stR (S.rj w) f q i) 0 (f + q * i) = 1 by omega) with e | e
            · rw [e] at h28; exact absurd nI_0 h28
            · exact e
          have hR : stR (S.rj w) f q (i + 1) = stR (S.rj w) f q i := orb_has _ (by omega) hb1
          have hm1' : tot (S.rj w) ≤ tot (stR (S.rj w) f q (i + 1)) := by rw [hR]; exact hm1
          have hm2' : tot (stR (S.rj w) f q (i + 1)) = tot (S.rj w) → stR (S.rj w) f q (i + 1) = S.rj w := by rw [hR]; exact hm2
          refine g_iload Z dX1_putLowsBySteps_58 rfl ?_
          refine g_iload_n Z dX1_putLowsBySteps_60 rfl ?_
          refine g_iadd Z dX1_putLowsBySteps_61 ?_
          rw [nI_add]
          refine g_istore Z dX1_putLowsBySteps_62 (by decide) ?_
          refine g_goto Z 15 dX1_putLowsBySteps_64 (by decide) ?_
          have h0 := ih (i + 1) (by omega) ⟨hK2, by omega, hm1', hm2'⟩
          rw [hq2] at h0
          first | (rw [hR] at h0; exact g_lv (by (repeat (first | exact trivial | refine And.intro rfl ?_)); done) h0) | exact g_lv (by (repeat (first | exact trivial | refine And.intro rfl ?_)); done) h0
        · have hb0 : cb (stR (S.rj w) f q i) 0 (f + q * i) = 0 := (nI_eq (by omega) (by decide)).mp (h28.trans nI_0.symm)
          have ht1 : tot (stR (S.rj w) f q (i + 1)) = tot (stR (S.rj w) f q i) + 1 := tot_orb _ (by omega) hb0
          have hm1' : tot (S.rj w) ≤ tot (stR (S.rj w) f q (i + 1)) := by omega
          have hm2' : tot (stR (S.rj w) f q (i + 1)) = tot (S.rj w) → stR (S.rj w) f q (i + 1) = S.rj w := fun e => by omega
          refine g_aload_n Z dX1_putLowsBySteps_31 rfl ?_
          refine g_getr Z 1 3 rfl (by decide) in1 lk13 dX1_putLowsBySteps_32 (by assumption) (by assumption) (by assumption) ?_
          refine g_iload Z dX1_putLowsBySteps_35 rfl ?_
          refine g_bipush (v := 6) Z dX1_putLowsBySteps_37 (by decide) ?_
          refine g_ishr Z dX1_putLowsBySteps_39 ?_
          rw [shr6 (by omega)]
          refine g_dup2 Z dX1_putLowsBySteps_40 rfl rfl ?_
          refine g_lald Z dX1_putLowsBySteps_41 (by assumption) (by assumption) (by exact vin_of hwl (by omega) (by decide)) ?_
          rw [CS_gR, hcl]
          refine g_lconst (v := 1) Z dX1_putLowsBySteps_42 (by decide) ?_
          refine g_iload Z dX1_putLowsBySteps_43 rfl ?_
          refine g_lshl Z dX1_putLowsBySteps_45 ?_
          refine g_lor Z dX1_putLowsBySteps_46 ?_
          refine g_last Z dX1_putLowsBySteps_47 (by assumption) (by assumption) (by exact vin_of hwl (by omega) (by decide)) ?_
          rw [CS_gR, hcl, CS_R]
          refine g_aload_n Z dX1_putLowsBySteps_48 rfl ?_
          refine g_dup Z dX1_putLowsBySteps_49 rfl ?_
          refine g_geti Z 1 2 rfl (by decide) in1 lk34 dX1_putLowsBySteps_50 (by assumption) (by assumption) ?_
          rw [CS_g2]
          refine g_iconst (v := 1) Z dX1_putLowsBySteps_53 (by decide) ?_
          refine g_iadd Z dX1_putLowsBySteps_54 ?_
          rw [nI_1, ← ht1]
          refine g_puti Z 1 2 rfl (by decide) tyX1 tyX1_ok nmX1 rfl in1 lk34 dX1_putLowsBySteps_55 rfl rfl (by assumption) (by assumption) ?_
          rw [CS_v]
          refine g_iload Z dX1_putLowsBySteps_58 rfl ?_
          refine g_iload_n Z dX1_putLowsBySteps_60 rfl ?_
          refine g_iadd Z dX1_putLowsBySteps_61 ?_
          rw [nI_add]
          refine g_istore Z dX1_putLowsBySteps_62 (by decide) ?_
          refine g_goto Z 15 dX1_putLowsBySteps_64 (by decide) ?_
          have h0 := ih (i + 1) (by omega) ⟨hK2, by omega, hm1', hm2'⟩
          rw [hq2] at h0
          first | (rw [hR] at h0; exact g_lv (by (repeat (first | exact trivial | refine And.intro rfl ?_)); done) h0) | exact g_lv (by (repeat (first | exact trivial | refine And.intro rfl ?_)); done) h0
  refine g_iload_n Z dX1_putLowsBySteps_0 rfl ?_
  refine g_iconst (v := 1) Z dX1_putLowsBySteps_1 (by decide) ?_
  refine g_icmp_ge Z 7 dX1_putLowsBySteps_2 (by decide) (fun h2 => ?_) (fun h2 => absurd ((nI_leI (a := 1) (b := q) (by decide) (by omega)).mpr hq1) h2)
  refine g_aload_n Z dX1_putLowsBySteps_7 rfl ?_
  refine g_geti Z 1 2 rfl (by decide) in1 lk34 dX1_putLowsBySteps_8 (by assumption) (by assumption) ?_
  rw [hv]
  refine g_istore_n Z dX1_putLowsBySteps_11 (by decide) ?_
  refine g_iload_n Z dX1_putLowsBySteps_12 rfl ?_
  refine g_istore Z dX1_putLowsBySteps_13 (by decide) ?_
  have h0 := loop 131073 0 (by omega) ⟨fun k hk => by omega, by omega, Nat.le_refl _, fun _ => rfl⟩
  rw [show stR (S.rj w) f q 0 = S.rj w from rfl, ← hv, ← CS_id, hv] at h0
  exact g_lv (by (repeat (first | exact trivial | refine And.intro rfl ?_)); done) h0

/-- the kind of what two containers have together -/
def mxK (S : PS) (a b va vb : Nat) (R : Nat → Int64) (kd : Int32) : Prop :=
  ((nI (tot R) = S.fi a 2 ∧ ∀ j, j < 1024 → R j &&& (S.rj va j ^^^ -1) = 0) ∧ kd = S.fi a 1) ∨
  (¬ (nI (tot R) = S.fi a 2 ∧ ∀ j, j < 1024 → R j &&& (S.rj va j ^^^ -1) = 0) ∧ (((nI (tot R) = S.fi b 2 ∧ ∀ j, j < 1024 → R j &&& (S.rj vb j ^^^ -1) = 0) ∧ kd = S.fi b 1) ∨
    (¬ (nI (tot R) = S.fi b 2 ∧ ∀ j, j < 1024 → R j &&& (S.rj vb j ^^^ -1) = 0) ∧ kd = plK (nI (tot R)))))
/-- words ahead of i are mixed -/
def mxR (x : Int32) (A B W : Nat → Int64) (i : Nat) : Nat → Int64 := fun j => if j < i then mxW x (A j) (B j) else W j
theorem mxR_s (x : Int32) (A B W : Nat → Int64) (i : Nat) : vp_updL (mxR x A B W i) i (mxW x (A i) (B i)) = mxR x A B W (i + 1) := by
  funext j
  by_cases h : j = i
  · subst h
    rw [pk_uLs]
    unfold mxR
    rw [if_pos (by omega)]
  · rw [pk_uLn h]
    unfold mxR
    by_cases h2 : j < i
    · rw [if_pos h2, if_pos (by omega)]
    · rw [if_neg h2, if_neg (by omega)]
theorem sW_congr {W V : Nat → Int64} : ∀ n, (∀ j, j < n → W j = V j) → sW W n = sW V n
  | 0, _ => rfl
  | n + 1, h => by
    show sW W n + pc (W n) = sW V n + pc (V n)
    rw [sW_congr n (fun j hj => h j (by omega)), h n (by omega)]
theorem sW_mx (x : Int32) (A B W : Nat → Int64) (i : Nat) : sW (mxR x A B W (i + 1)) (i + 1) = sW (mxR x A B W i) i + pc (mxW x (A i) (B i)) := by
  show sW (mxR x A B W (i + 1)) i + pc (mxR x A B W (i + 1) i) = _
  rw [sW_congr (W := mxR x A B W (i + 1)) (V := mxR x A B W i) i (fun j hj => by unfold mxR; rw [if_pos (by omega), if_pos hj])]
  congr 2
  unfold mxR
  rw [if_pos (by omega)]

set_option maxRecDepth 100000 in
set_option maxHeartbeats 2000000 in
/-- what two containers have together -/
theorem f_X1_becomeMix (l : Launch) (D : va_G) (cy : Nat → ClassId) (nw : Nat) (S : PS) (c a b va vb : Nat) (hcL : c ∈ S.L) (hcK : S.K c = 1) (hww : S.fr c 3 = some nw ∨ ∃ w, Cq S c w) (ha : Cq S a va) (hb : Cq S b vb) (hac : a ≠ c) (hbc : b ≠ c) (hnea : ∀ w, S.fr c 3 = some w → w ≠ va) (hneb : ∀ w, S.fr c 3 = some w → w ≠ vb) (x : Int32) (hx : x = 0 ∨ x = 1 ∨ x = 2 ∨ x = 3) : kV l yX1_becomeMix wsX1_becomeMix 2 43 D cy nw [.ref c, .int x, .ref a, .ref b] S (fun T => ∃ S1 w R kd, Rm nw S c S1 w ∧ (∀ j, j < 1024 → R j = mxW x (S.rj va j) (S.rj vb j)) ∧ mxK S a b va vb R kd ∧ T = CS S1 c w (S.fi a 0) kd (nI (tot R)) R) 1 1024 := by
  refine enterV (cc := cX1_becomeMix) (nL := 7) (ret := none) (by decide +kernel) rfl (Nat.le_of_ble_eq_true rfl) ?_
  intro F Z hl hR hD hcy hnw hnm
  subst hl hD hcy hnw
  have hRf : F.R.frames = 2 := by rw [hR]
  have hRc : F.R.cells = 1 := by rw [hR]
  have hRs : F.R.slots = 1024 := by rw [hR]
  have hRl : F.R.locals = 43 := by rw [hR]
  have in1 : ∀ w ∈ u_ws RX1 TX1 4, w ∈ wsX1_becomeMix := by decide +kernel
  have lk13 : Cond.fieldLink RX1 13 (TX1 3).1 (TX1 3).2.1 (TX1 3).2.2.1 ∈ wsX1_becomeMix := by decide +kernel
  have lk27 : Cond.fieldLink RX1 27 (TX1 0).1 (TX1 0).2.1 (TX1 0).2.2.1 ∈ wsX1_becomeMix := by decide +kernel
  have lk31 : Cond.fieldLink RX1 31 (TX1 1).1 (TX1 1).2.1 (TX1 1).2.2.1 ∈ wsX1_becomeMix := by decide +kernel
  have lk34 : Cond.fieldLink RX1 34 (TX1 2).1 (TX1 2).2.1 (TX1 2).2.2.1 ∈ wsX1_becomeMix := by decide +kernel
  refine g_aload_n Z dX1_becomeMix_0 rfl ?_
  refine g_cvV Z (f_X1_makeRoom F.l F.D F.cy F.nw S c hcL hcK hww) 0 gX1_becomeMix_X1_makeRoom rfl (by decide +kernel) (by rw [hRf, hRl]; decide) (by assumption) (κ := 1) (by assumption) rfl (by decide) rfl rfl (Nat.le_of_ble_eq_true rfl) dX1_becomeMix_1 (by rw [hRc, hRs]; omega) (fun S1 hp => ?_)
  obtain ⟨w, hrm⟩ := hp
  have kcq := hrm.cq hcL hcK
  obtain ⟨kcL, kcK, kww, kwL, kwK, kwl⟩ := id kcq
  obtain ⟨haL, haK, hva, hvaL, hvaK, hval⟩ := id ha
  obtain ⟨hbL, hbK, hvb, hvbL, hvbK, hvbl⟩ := id hb
  have hvac : va ≠ c := fun e => by rw [e, hcK] at hvaK; exact absurd hvaK (by decide)
  have hvbc : vb ≠ c := fun e => by rw [e, hcK] at hvbK; exact absurd hvbK (by decide)
  have hwva : va ≠ w := by
    rcases id hrm with ⟨rfl, h⟩ | ⟨-, hq, -⟩
    · exact fun e => hnea w h.2.2.1 e.symm
    · exact ne_mem hq hvaL
  have hwvb : vb ≠ w := by
    rcases id hrm with ⟨rfl, h⟩ | ⟨-, hq, -⟩
    · exact fun e => hneb w h.2.2.1 e.symm
    · exact ne_mem hq hvbL
  have hrja : S1.rj va = S.rj va := (hrm.ag hvaL hvac).2.2.2.2.2.1
  have hrjb : S1.rj vb = S.rj vb := (hrm.ag hvbL hvbc).2.2.2.2.2.1
  have gaq : Cq S1 a va := Ag.cq hrm.L (hrm.ag haL hac) ⟨(hrm.ag hvaL hvac).1, (hrm.ag hvaL hvac).2.2.2.1⟩ ha
  have gbq : Cq S1 b vb := Ag.cq hrm.L (hrm.ag hbL hbc) ⟨(hrm.ag hvbL hvbc).1, (hrm.ag hvbL hvbc).2.2.2.1⟩ hb
  obtain ⟨gaL, gaK, gva, gvaL, gvaK, gval⟩ := id gaq
  obtain ⟨gbL, gbK, gvb, gvbL, gvbK, gvbl⟩ := id gbq
  have hfi : S1.fi = S.fi := hrm.fi
  rw [CS_id S1 c w]
  refine g_aload_n Z dX1_becomeMix_4 rfl ?_
  refine g_aload_n Z dX1_becomeMix_5 rfl ?_
  refine g_geti Z 1 0 rfl (by decide) in1 lk27 dX1_becomeMix_6 (by assumption) (by assumption) ?_
  rw [CS_o hac, hfi]
  refine g_puti Z 1 0 rfl (by decide) tyX1 tyX1_ok nmX1 rfl in1 lk27 dX1_becomeMix_9 rfl rfl (by assumption) (by assumption) ?_
  rw [CS_k]
  refine g_aload_n Z dX1_becomeMix_12 rfl ?_
  refine g_iconst (v := 0) Z dX1_becomeMix_13 (by decide) ?_
  refine g_puti Z 1 2 rfl (by decide) tyX1 tyX1_ok nmX1 rfl in1 lk34 dX1_becomeMix_14 rfl rfl (by assumption) (by assumption) ?_
  rw [CS_v]
  refine g_iconst (v := 0) Z dX1_becomeMix_17 (by decide) ?_
  refine g_istore Z dX1_becomeMix_18 (by decide) ?_
  have loop : ∀ (n : Nat) (i : Nat), 1024 - i < n → i ≤ 1024 → G F 7 (CS S1 c w (S.fi a 0) (S1.fi c 1) (nI (sW (mxR x (S.rj va) (S.rj vb) (S1.rj w) i) i)) (mxR x (S.rj va) (S.rj vb) (S1.rj w) i)) (0 + 1) (0 + 1024) (QV F (fun T => ∃ S1 w R kd, Rm F.nw S c S1 w ∧ (∀ j, j < 1024 → R j = mxW x (S.rj va j) (S.rj vb j)) ∧ mxK S a b va vb R kd ∧ T = CS S1 c w (S.fi a 0) kd (nI (tot R)) R) 1 1024) 20 [(0, .ref c), (1, .int x), (2, .ref a), (3, .ref b), (4, .int (nI i))] [] := by
    intro n
    induction n with
    | zero => intros; omega
    | succ n ih =>
      intro i hn hi
      have hcl : i < 1024 → (nI i).toNatClampNeg = i := fun h => nI_clamp (by omega)
      refine g_iload Z dX1_becomeMix_20 rfl ?_
      refine g_sipush (v := 1024) Z dX1_becomeMix_22 (by decide) ?_
      refine g_icmp_ge Z 77 dX1_becomeMix_25 (by decide) (fun h25 => ?_) (fun h25 => ?_)
      · have he : i = 1024 := by have := ge_t (N := 1024) (by omega) (by decide) h25; omega
        subst he
        rw [← tot_sW]
        have hmR : ∀ j, j < 1024 → mxR x (S.rj va) (S.rj vb) (S1.rj w) 1024 j = mxW x (S.rj va j) (S.rj vb j) := fun j hj => if_pos hj
        generalize mxR x (S.rj va) (S.rj vb) (S1.rj w) 1024 = M at hmR ⊢
        have qc : Cq (CS S1 c w (S.fi a 0) (S1.fi c 1) (nI (tot M)) M) c w := kcq
        have qa : Cq (CS S1 c w (S.fi a 0) (S1.fi c 1) (nI (tot M)) M) a va := gaq
        have qb : Cq (CS S1 c w (S.fi a 0) (S1.fi c 1) (nI (tot M)) M) b vb := gbq
        refine g_aload_n Z dX1_becomeMix_77 rfl ?_
        refine g_aload_n Z dX1_becomeMix_78 rfl ?_
        refine g_cvI Z (f_X1_hasLowsOf F.l F.D F.cy F.nw _ c a w va qc qa) 1 gX1_becomeMix_X1_hasLowsOf rfl (by decide +kernel) (by rw [hRf, hRl]; decide) (by assumption) (κ := 1) (by assumption) rfl (by decide) rfl rfl (Nat.le_of_ble_eq_true rfl) dX1_becomeMix_79 (by rw [hRc, hRs]; omega) (fun r U hp => ?_)
        obtain ⟨rfl, hra⟩ := hp
        rw [CS_g2, CS_o hac, CS_gR, CS_oR hwva, hrja, hfi] at hra
        refine g_if_eq Z 96 dX1_becomeMix_82 (by decide) (fun h82 => ?_) (fun h82 => ?_)
        · rcases hra with ⟨rfl, -⟩ | ⟨-, hna⟩
          · exact absurd h82 (by decide)
          refine g_aload_n Z dX1_becomeMix_96 rfl ?_
          refine g_aload_n Z dX1_becomeMix_97 rfl ?_
          refine g_cvI Z (f_X1_hasLowsOf F.l F.D F.cy F.nw _ c b w vb qc qb) 1 gX1_becomeMix_X1_hasLowsOf rfl (by decide +kernel) (by rw [hRf, hRl]; decide) (by assumption) (κ := 1) (by assumption) rfl (by decide) rfl rfl (Nat.le_of_ble_eq_true rfl) dX1_becomeMix_98 (by rw [hRc, hRs]; omega) (fun r U hp => ?_)
          obtain ⟨rfl, hrb⟩ := hp
          rw [CS_g2, CS_o hbc, CS_gR, CS_oR hwvb, hrjb, hfi] at hrb
          refine g_if_eq Z 115 dX1_becomeMix_101 (by decide) (fun h101 => ?_) (fun h101 => ?_)
          · rcases hrb with ⟨rfl, -⟩ | ⟨-, hnb⟩
            · exact absurd h101 (by decide)
            refine g_aload_n Z dX1_becomeMix_115 rfl ?_
            refine g_cvV Z (f_X1_setPlainKind F.l F.D F.cy F.nw _ c kcL kcK) 0 gX1_becomeMix_X1_setPlainKind rfl (by decide +kernel) (by rw [hRf, hRl]; decide) (by assumption) (κ := 1) (by assumption) rfl (by decide) rfl rfl (Nat.le_of_ble_eq_true rfl) dX1_becomeMix_116 (by rw [hRc, hRs]; omega) (fun U hp => ?_)
            subst hp
            rw [CS_g2, CS_d]
            exact g_vret Z dX1_becomeMix_119 (by omega) (by omega) (by first | exact ⟨S1, w, M, _, hrm, hmR, Or.inl ⟨hya, rfl⟩, rfl⟩ | exact ⟨S1, w, M, _, hrm, hmR, Or.inr ⟨hna, Or.inl ⟨hyb, rfl⟩⟩, rfl⟩ | exact ⟨S1, w, M, _, hrm, hmR, Or.inr ⟨hna, Or.inr ⟨hnb, rfl⟩⟩, rfl⟩)
          · rcases hrb with ⟨-, hyb⟩ | ⟨rfl, -⟩
            rotate_left
            · exact absurd rfl h101
            refine g_aload_n Z dX1_becomeMix_104 rfl ?_
            refine g_aload_n Z dX1_becomeMix_105 rfl ?_
            refine g_geti Z 1 1 rfl (by decide) in1 lk31 dX1_becomeMix_106 (by assumption) (by assumption) ?_
            rw [CS_o hbc, hfi]
            refine g_puti Z 1 1 rfl (by decide) tyX1 tyX1_ok nmX1 rfl in1 lk31 dX1_becomeMix_109 rfl rfl (by assumption) (by assumption) ?_
            rw [CS_d]
            refine g_goto Z 119 dX1_becomeMix_112 (by decide) ?_
            exact g_vret Z dX1_becomeMix_119 (by omega) (by omega) (by first | exact ⟨S1, w, M, _, hrm, hmR, Or.inl ⟨hya, rfl⟩, rfl⟩ | exact ⟨S1, w, M, _, hrm, hmR, Or.inr ⟨hna, Or.inl ⟨hyb, rfl⟩⟩, rfl⟩ | exact ⟨S1, w, M, _, hrm, hmR, Or.inr ⟨hna, Or.inr ⟨hnb, rfl⟩⟩, rfl⟩)
        · rcases hra with ⟨-, hya⟩ | ⟨rfl, -⟩
          rotate_left
          · exact absurd rfl h82
          refine g_aload_n Z dX1_becomeMix_85 rfl ?_
          refine g_aload_n Z dX1_becomeMix_86 rfl ?_
          refine g_geti Z 1 1 rfl (by decide) in1 lk31 dX1_becomeMix_87 (by assumption) (by assumption) ?_
          rw [CS_o hac, hfi]
          refine g_puti Z 1 1 rfl (by decide) tyX1 tyX1_ok nmX1 rfl in1 lk31 dX1_becomeMix_90 rfl rfl (by assumption) (by assumption) ?_
          rw [CS_d]
          refine g_goto Z 119 dX1_becomeMix_93 (by decide) ?_
          exact g_vret Z dX1_becomeMix_119 (by omega) (by omega) (by first | exact ⟨S1, w, M, _, hrm, hmR, Or.inl ⟨hya, rfl⟩, rfl⟩ | exact ⟨S1, w, M, _, hrm, hmR, Or.inr ⟨hna, Or.inl ⟨hyb, rfl⟩⟩, rfl⟩ | exact ⟨S1, w, M, _, hrm, hmR, Or.inr ⟨hna, Or.inr ⟨hnb, rfl⟩⟩, rfl⟩)
      · have hlt : i < 1024 := ge_f (by omega) (by decide) h25
        refine g_iload_n Z dX1_becomeMix_28 rfl ?_
        refine g_aload_n Z dX1_becomeMix_29 rfl ?_
        refine g_getr Z 1 3 rfl (by decide) in1 lk13 dX1_becomeMix_30 (by assumption) (by assumption) (by assumption) ?_
        refine g_iload Z dX1_becomeMix_33 rfl ?_
        refine g_lald Z dX1_becomeMix_35 (by assumption) (by assumption) (by exact vin_of gval hlt (by decide)) ?_
        rw [CS_oR hwva, hrja, hcl hlt]
        refine g_aload_n Z dX1_becomeMix_36 rfl ?_
        refine g_getr Z 1 3 rfl (by decide) in1 lk13 dX1_becomeMix_37 (by assumption) (by assumption) (by assumption) ?_
        refine g_iload Z dX1_becomeMix_40 rfl ?_
        refine g_lald Z dX1_becomeMix_42 (by assumption) (by assumption) (by exact vin_of gvbl hlt (by decide)) ?_
        rw [CS_oR hwvb, hrjb, hcl hlt]
        refine g_csL Z (f_X1_mix F.l F.D F.cy F.nw _ x hx _ _) 3 gX1_becomeMix_X1_mix rfl (by decide +kernel) (by rw [hRf, hRl]; decide) rfl rfl (Nat.le_of_ble_eq_true rfl) dX1_becomeMix_43 (by rw [hRc, hRs]; omega) (fun r U hp => ?_)
        obtain ⟨rfl, rfl⟩ := hp
        refine g_lstore Z dX1_becomeMix_46 (by decide) ?_
        refine g_aload_n Z dX1_becomeMix_48 rfl ?_
        refine g_getr Z 1 3 rfl (by decide) in1 lk13 dX1_becomeMix_49 (by assumption) (by assumption) (by assumption) ?_
        refine g_iload Z dX1_becomeMix_52 rfl ?_
        refine g_lload Z dX1_becomeMix_54 rfl ?_
        refine g_last Z dX1_becomeMix_56 (by assumption) (by assumption) (by exact vin_of kwl hlt (by decide)) ?_
        rw [CS_gR, hcl hlt, mxR_s, CS_R]
        refine g_aload_n Z dX1_becomeMix_57 rfl ?_
        refine g_dup Z dX1_becomeMix_58 rfl ?_
        refine g_geti Z 1 2 rfl (by decide) in1 lk34 dX1_becomeMix_59 (by assumption) (by assumption) ?_
        rw [CS_g2]
        refine g_lload Z dX1_becomeMix_62 rfl ?_
        refine g_csI Z (c_J13_bitCount_95d88 F.l F.D F.cy F.nw _ _) 1 gX1_becomeMix_J13_bitCount_95d88 rfl (by decide +kernel) (by rw [hRf, hRl]; decide) rfl rfl (Nat.le_of_ble_eq_true rfl) dX1_becomeMix_64 (by rw [hRc, hRs]; omega) (fun r U hp => ?_)
        obtain ⟨rfl, rfl⟩ := hp
        refine g_iadd Z dX1_becomeMix_67 ?_
        rw [bcF_pc, nI_add, ← sW_mx]
        refine g_puti Z 1 2 rfl (by decide) tyX1 tyX1_ok nmX1 rfl in1 lk34 dX1_becomeMix_68 rfl rfl (by assumption) (by assumption) ?_
        rw [CS_v]
        refine g_iinc (c := 1) Z dX1_becomeMix_71 rfl (by decide) (by decide) ?_
        rw [nI_1]
        refine g_goto Z 20 dX1_becomeMix_74 (by decide) ?_
        exact g_lv (by (repeat (first | exact trivial | refine And.intro rfl ?_)); done) (ih (i + 1) (by omega) (by omega))
  have hm0 : mxR x (S.rj va) (S.rj vb) (S1.rj w) 0 = S1.rj w := funext (fun j => if_neg (by omega))
  have h0 := loop 1025 0 (by omega) (by omega)
  rw [hm0, show nI (sW (S1.rj w) 0) = 0 from nI_0, hfi] at h0
  exact g_lv (by (repeat (first | exact trivial | refine And.intro rfl ?_)); done) h0
