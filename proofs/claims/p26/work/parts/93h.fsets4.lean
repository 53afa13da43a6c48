/-- how many numbers the first containers have -/
noncomputable def sT (V : Sv) : Nat → Nat
  | 0 => 0
  | k + 1 => sT V k + tot (V.2 k).2.2
theorem trF_rn (f : Nat → Int64) : ∀ n, trF f n = nI (rn f 0 (64 * n))
  | 0 => nI_0.symm
  | n + 1 => by
    have h := rn_next f 0 n
    rw [show 1024 * 0 + n = n by omega] at h
    show trF f n + bcF (f n &&& ((f n <<< ((1 : Int32).toInt64 &&& 63) ||| trC f n) ^^^ -1)) = _
    rw [trF_rn f n, bcF_pc, nI_add]
    congr 1
    have hc : trC f n = lN (pv f 0 (64 * n)) := by
      cases n with
      | zero => rfl
      | succ n =>
        show lsr (f n) 63 = _
        rw [pv_next f 0 n, show 1024 * 0 + n = n by omega]
        have := lsr_n (wv_lt (f n)) 63 (by decide)
        rw [lN_wv] at this
        exact this
    have hp := pv_le f 0 (64 * n)
    have hpc : pc (f n &&& ((f n <<< ((1 : Int32).toInt64 &&& 63) ||| trC f n) ^^^ -1)) + pv f 0 (64 * n) * (wv (f n) % 2) = pc (rw1 (f n)) := by
      rw [hc]
      have key : ∀ k, k < 64 → wv (f n &&& ((f n <<< ((1 : Int32).toInt64 &&& 63) ||| lN (pv f 0 (64 * n))) ^^^ -1)) / 2 ^ k % 2 = if k = 0 then (wv (f n) % 2) * (1 - pv f 0 (64 * n)) else wv (rw1 (f n)) / 2 ^ k % 2 := by
        intro k hk
        have e1 : wv (f n <<< ((1 : Int32).toInt64 &&& 63)) / 2 ^ k % 2 = if k = 0 then 0 else wv (f n) / 2 ^ (k - 1) % 2 := by
          have hsh := wb_shl (wv (f n)) (k := 1) (by decide)
          rw [lN_wv] at hsh
          rw [show (f n <<< ((1 : Int32).toInt64 &&& 63)) = lN (wv (f n) * 2 ^ 1) from hsh, wb_mod, wv_lN (Nat.mod_lt _ (by decide)), tb, Nat.testBit_mod_two_pow, Nat.testBit_mul_two_pow]
          by_cases h0 : k = 0
          · subst h0; simp
          · rw [if_neg h0, tb]; simp [hk, show 1 ≤ k by omega]
        have e2 : wv (lN (pv f 0 (64 * n))) / 2 ^ k % 2 = if k = 0 then pv f 0 (64 * n) else 0 := by
          rw [wv_lN (by omega)]
          rcases (show pv f 0 (64 * n) = 0 ∨ pv f 0 (64 * n) = 1 by omega) with e | e
          · rw [e]; simp
          · rw [e, tb, show (1 : Nat) = 2 ^ 0 from rfl, Nat.testBit_two_pow]
            by_cases h0 : k = 0
            · subst h0; rfl
            · rw [if_neg h0]; simp [show ¬ 0 = k from fun q => h0 q.symm]
        rw [and_bit, not_bit _ hk, or_bit, e1, e2, rw1_bit _ k hk]
        have b1 := Nat.mod_lt (wv (f n) / 2 ^ k) (show 2 > 0 by decide)
        have b2 := Nat.mod_lt (wv (f n) / 2 ^ (k - 1)) (show 2 > 0 by decide)
        by_cases h0 : k = 0
        · subst h0
          rcases (show pv f 0 (64 * n) = 0 ∨ pv f 0 (64 * n) = 1 by omega) with e | e <;> simp [e]
        · simp only [if_neg h0]
          generalize wv (f n) / 2 ^ (k - 1) % 2 = y at *
          rcases (show y = 0 ∨ y = 1 by omega) with e | e <;> rw [e]
      have r0 : wv (rw1 (f n)) % 2 = wv (f n) % 2 := by
        have := rw1_bit (f n) 0 (by decide)
        simpa using this
      have step : ∀ m, m < 64 → pN (wv (f n &&& ((f n <<< ((1 : Int32).toInt64 &&& 63) ||| lN (pv f 0 (64 * n))) ^^^ -1))) (m + 1) + pv f 0 (64 * n) * (wv (f n) % 2) = pN (wv (rw1 (f n))) (m + 1) := by
        intro m
        induction m with
        | zero =>
          intro _
          have k0 := key 0 (by decide)
          rw [if_pos rfl, Nat.pow_zero, Nat.div_one] at k0
          simp only [pN, Nat.pow_zero, Nat.div_one, Nat.zero_add]
          rw [k0, r0]
          have b1 := Nat.mod_lt (wv (f n)) (show 2 > 0 by decide)
          rcases (show pv f 0 (64 * n) = 0 ∨ pv f 0 (64 * n) = 1 by omega) with e | e <;> rw [e] <;> omega
        | succ m ih =>
          intro hm
          have k1 := key (m + 1) hm
          rw [if_neg (by omega)] at k1
          have := ih (by omega)
          show pN _ (m + 1) + _ / 2 ^ (m + 1) % 2 + _ = pN _ (m + 1) + _ / 2 ^ (m + 1) % 2
          rw [k1]
          omega
      exact step 63 (by decide)
    omega
theorem rn_congr {f g : Nat → Int64} {c d : Nat} : ∀ l, (∀ k, k < l → cb f c k = cb g d k) → rn f c l = rn g d l ∧ pv f c l = pv g d l
  | 0, _ => ⟨rfl, rfl⟩
  | l + 1, h => by
    obtain ⟨h1, h2⟩ := rn_congr l (fun k hk => h k (by omega))
    have h3 := h l (by omega)
    exact ⟨by show rn f c l + cb f c l * (1 - pv f c l) = _; rw [h1, h2, h3]; rfl, h3⟩
/-- how many runs a row makes -/
noncomputable def rnT (W : Nat → Int64) : Nat := rn W 0 N16
theorem rnT_eq (W : Nat → Int64) : rnT W = rn W 0 65536 := by
  unfold rnT
  rw [N16_eq]
theorem rnT_congr {W V : Nat → Int64} (h : ∀ j, j < 1024 → W j = V j) : rnT W = rnT V := by
  rw [rnT_eq, rnT_eq]
  exact (rn_congr _ (fun k hk => row_cb (fun j hj => by rw [show 1024 * 0 + j = j by omega]; exact h j hj) k hk)).1
theorem trF_rnT (W : Nat → Int64) : trF W 1024 = nI (rnT W) := (trF_rn W 1024).trans (congrArg nI (rnT_eq W).symm)
/-- a set, each container as it takes the fewest bytes -/
noncomputable def shV (V : Sv) : Sv := (V.1, fun i => ((V.2 i).1, smK (nI (tot (V.2 i).2.2)) (nI (rnT (V.2 i).2.2)), (V.2 i).2.2))
/-- cells that are no set objects agree -/
theorem Bn.keep2 {S T : PS} {nw : Nat} {O : Nat → Nat} {b it : Nat} {C : Nat → Nat} (hL : T.L = S.L) (hA : ∀ a ∈ S.L, S.K a ≠ 2 → Ag S T a) (h : Bn S nw O b it C) : Bn T nw O b it C ∧ ∀ j, j < 7 → ∀ a, Cv S (C j) a → Cv T (C j) a := by
  obtain ⟨g1, g2, g3, g4, g5, g6, g7⟩ := h
  have hLL : ∀ a ∈ S.L, a ∈ T.L := fun a h => by rw [hL]; exact h
  have ai := hA it g1 (by rw [g2]; decide)
  have ac : ∀ i, i < 7 → Ag S T (C i) := fun i hi => hA _ (g5 i hi).2.1.1 (by rw [(g5 i hi).2.1.2.1]; decide)
  have aw : ∀ i, i < 7 → ∀ w, S.fr (C i) 3 = some w → w ∈ S.L → S.K w = 9 → Ag S T w := fun i hi w _ hw hk => hA w hw (by rw [hk]; decide)
  refine ⟨⟨hLL it g1, ai.1.trans g2, ai.2.2.2.1.trans g3, g4, fun i hi => ?_, g6, fun i j w hi hj hw h1 h2 => ?_⟩, fun j hj a ha => ?_⟩
  · obtain ⟨e1, e2, e3, e4⟩ := g5 i hi
    refine ⟨by rw [ai.2.2.2.2.2.2]; exact e1, ?_, e3, fun w hw hwT => ?_⟩
    · obtain ⟨k1, k2, k3, k5⟩ := e2
      obtain ⟨k, k3, k4⟩ := k3
      refine ⟨hLL _ k1, (ac i hi).1.trans k2, ⟨k, k3, by rw [(ac i hi).2.1]; exact k4⟩, ?_⟩
      rcases k5 with k5 | ⟨w, k5, k6, k7, k8⟩
      · exact Or.inl (by rw [(ac i hi).2.2.1]; exact k5)
      · have := aw i hi w k5 k6 k7
        exact Or.inr ⟨w, by rw [(ac i hi).2.2.1]; exact k5, hLL w k6, this.1.trans k7, this.2.2.2.1.trans k8⟩
    · rw [(ac i hi).2.2.1] at hw
      rw [hL] at hwT
      exact e4 w hw hwT
  · rw [(ac i hi).2.2.1] at h1
    rw [(ac j hj).2.2.1] at h2
    rw [hL] at hw
    exact g7 i j w hi hj hw h1 h2
  · obtain ⟨w, hq, r⟩ := id ha
    exact Cv.keep hLL (ac j hj) (fun u hu huL => aw j hj u hu huL (by have := hq.2.2.1; rw [hu] at this; cases this; exact hq.2.2.2.2.1)) ha
theorem xch_sv {S : PS} {nw : Nat} {O : Nat → Nat} {a b ba bb ia ib : Nat} {Ca Cb : Nat → Nat} {Va Vb : Sv} (hab : a ≠ b) (ha : SV S nw O ba a ia Ca Va) (hb : SV S nw O bb b ib Cb Vb) :
    SV ((((S.setR b 0 (some ia)).setI b 1 (nI Va.1)).setR a 0 (some ib)).setI a 1 (nI Vb.1)) nw O bb a ib Cb Vb ∧ SV ((((S.setR b 0 (some ia)).setI b 1 (nI Va.1)).setR a 0 (some ib)).setI a 1 (nI Vb.1)) nw O ba b ia Ca Va ∧ Kp (fun q => q = a ∨ q = b) S ((((S.setR b 0 (some ia)).setI b 1 (nI Va.1)).setR a 0 (some ib)).setI a 1 (nI Vb.1)) := by
  obtain ⟨h1, h2, h3, h4, h5, hB, h7⟩ := ha
  obtain ⟨k1, k2, k3, k4, k5, kB, k7⟩ := hb
  have hA : ∀ q ∈ S.L, ¬ (q = a ∨ q = b) → Ag S ((((S.setR b 0 (some ia)).setI b 1 (nI Va.1)).setR a 0 (some ib)).setI a 1 (nI Vb.1)) q := fun q _ hn => by
    have na : q ≠ a := fun e => hn (Or.inl e)
    have nb : q ≠ b := fun e => hn (Or.inr e)
    exact ⟨rfl, (va_up_ne _ _ na).trans (va_up_ne _ _ nb), (va_up_ne _ _ na).trans (va_up_ne _ _ nb), rfl, rfl, rfl, rfl⟩
  have hA2 : ∀ q ∈ S.L, S.K q ≠ 2 → Ag S ((((S.setR b 0 (some ia)).setI b 1 (nI Va.1)).setR a 0 (some ib)).setI a 1 (nI Vb.1)) q := fun q hq hk => hA q hq (fun e => by
    rcases e with e | e
    · exact hk (by rw [e]; exact h2)
    · exact hk (by rw [e]; exact k2))
  obtain ⟨hB1, hC1⟩ := Bn.keep2 (S := S) (T := ((((S.setR b 0 (some ia)).setI b 1 (nI Va.1)).setR a 0 (some ib)).setI a 1 (nI Vb.1))) rfl hA2 hB
  obtain ⟨hB2, hC2⟩ := Bn.keep2 (S := S) (T := ((((S.setR b 0 (some ia)).setI b 1 (nI Va.1)).setR a 0 (some ib)).setI a 1 (nI Vb.1))) rfl hA2 kB
  exact ⟨⟨h1, h2, up2_self _ _ _ _, up2_self _ _ _ _, k5, hB2, fun i hi => hC2 i (by omega) _ (k7 i hi)⟩, ⟨k1, k2, (up2_ne _ _ (Or.inl (Ne.symm hab))).trans (up2_self _ _ _ _), (up2_ne _ _ (Or.inl (Ne.symm hab))).trans (up2_self _ _ _ _), h5, hB1, fun i hi => hC1 i (by omega) _ (h7 i hi)⟩, fun _ h => h, hA⟩

set_option maxRecDepth 100000 in
set_option maxHeartbeats 2000000 in
/-- how many numbers -/
theorem f_X2_total (l : Launch) (D : va_G) (cy : Nat → ClassId) (nw : Nat) (S : PS) (O : Nat → Nat) (b s it : Nat) (C : Nat → Nat) (V : Sv) (hv : SV S nw O b s it C V)  : kI l yX2_total wsX2_total 0 0 D cy nw [.ref s] S (fun r T => S = T ∧ r = nI (sT V V.1)) 0 0 := by
  refine enterI (cc := cX2_total) (nL := 3) (ret := (some .int)) (by decide +kernel) rfl (Nat.le_of_ble_eq_true rfl) ?_
  intro F Z hl hR hD hcy hnw hnm
  subst hl hD hcy hnw
  have hRf : F.R.frames = 0 := by rw [hR]
  have hRc : F.R.cells = 0 := by rw [hR]
  have hRs : F.R.slots = 0 := by rw [hR]
  have hRl : F.R.locals = 0 := by rw [hR]
  have in1 : ∀ w ∈ u_ws RX1 TX1 4, w ∈ wsX2_total := by decide +kernel
  have in2 : ∀ w ∈ u_ws RX2 TX2 2, w ∈ wsX2_total := by decide +kernel
  have lk11 : Cond.fieldLink RX2 11 (TX2 0).1 (TX2 0).2.1 (TX2 0).2.2.1 ∈ wsX2_total := by decide +kernel
  have lk18 : Cond.fieldLink RX2 18 (TX2 1).1 (TX2 1).2.1 (TX2 1).2.2.1 ∈ wsX2_total := by decide +kernel
  have lk63 : Cond.fieldLink RX2 63 (TX1 2).1 (TX1 2).2.1 (TX1 2).2.2.1 ∈ wsX2_total := by decide +kernel
  have hs := hv.at
  obtain ⟨hsL, hsK, hsit, hitL, hitK, hitl, hsu, hu7, hsw, hsr⟩ := id hs
  have loop : ∀ (n : Nat) (j : Nat), 8 - j < n → j ≤ V.1 → G F 3 S 0 0 (QI F (fun r T => S = T ∧ r = nI (sT V V.1)) 0 0) 4 [(0, .ref s), (1, .int (nI (sT V j))), (2, .int (nI j))] [] := by
    intro n
    induction n with
    | zero => intros; omega
    | succ n ih =>
      intro j hn hj
      refine g_iload_n Z dX2_total_4 rfl ?_
      refine g_aload_n Z dX2_total_5 rfl ?_
      refine g_geti Z 2 1 rfl (by decide) in2 lk18 dX2_total_6 (by assumption) (by assumption) ?_
      rw [hsu]
      refine g_icmp_ge Z 30 dX2_total_9 (by decide) (fun h9 => ?_) (fun h9 => ?_)
      · have he : j = V.1 := by have := ge_t (by omega) (by omega) h9; omega
        subst he
        refine g_iload_n Z dX2_total_30 rfl ?_
        exact g_iret Z dX2_total_31 (by omega) (by omega) (⟨rfl, rfl⟩)
      · have hlt : j < V.1 := ge_f (by omega) (by omega) h9
        obtain ⟨w, hcq, ek, hk16, ed, et, ew⟩ := hv.cv (j := j) hlt
        obtain ⟨hcL, hcK, hww, hwL, hwK, hwl⟩ := id hcq
        have hcl : (nI j).toNatClampNeg = j := nI_clamp (by omega)
        refine g_iload_n Z dX2_total_12 rfl ?_
        refine g_aload_n Z dX2_total_13 rfl ?_
        refine g_getr Z 2 0 rfl (by decide) in2 lk11 dX2_total_14 (by assumption) (by assumption) (by assumption) ?_
        refine g_iload_n Z dX2_total_17 rfl ?_
        refine g_aald10 Z dX2_total_18 (by assumption) (by assumption) (by exact vin_of hitl (by omega) (by decide)) (by rw [hcl]; exact hv.rr (by omega)) ?_
        refine g_geti Z 1 2 rfl (by decide) in1 lk63 dX2_total_19 (by assumption) (by assumption) ?_
        rw [et]
        refine g_iadd Z dX2_total_22 ?_
        rw [nI_add, show sT V j + tot (V.2 j).2.2 = sT V (j + 1) from rfl]
        refine g_istore_n Z dX2_total_23 (by decide) ?_
        refine g_iinc (c := 1) Z dX2_total_24 rfl (by decide) (by decide) ?_
        rw [nI_1]
        refine g_goto Z 4 dX2_total_27 (by decide) ?_
        exact g_lv (by (repeat (first | exact trivial | refine And.intro rfl ?_)); done) (ih (j + 1) (by omega) (by omega))
  refine g_iconst (v := 0) Z dX2_total_0 (by decide) ?_
  refine g_istore_n Z dX2_total_1 (by decide) ?_
  refine g_iconst (v := 0) Z dX2_total_2 (by decide) ?_
  refine g_istore_n Z dX2_total_3 (by decide) ?_
  exact g_lv (by (repeat (first | exact trivial | refine And.intro rfl ?_)); done) (loop 9 0 (by omega) (by omega))

set_option maxRecDepth 100000 in
set_option maxHeartbeats 2000000 in
/-- two sets change what they hold -/
theorem f_X2_exchange (l : Launch) (D : va_G) (cy : Nat → ClassId) (nw : Nat) (S : PS) (O : Nat → Nat) (a b ba bb ia ib : Nat) (Ca Cb : Nat → Nat) (Va Vb : Sv) (hab : a ≠ b) (ha : SV S nw O ba a ia Ca Va) (hb : SV S nw O bb b ib Cb Vb) : kV l yX2_exchange wsX2_exchange 0 0 D cy nw [.ref a, .ref b] S (fun T => SV T nw O bb a ib Cb Vb ∧ SV T nw O ba b ia Ca Va ∧ Kp (fun q => q = a ∨ q = b) S T) 0 0 := by
  refine enterV (cc := cX2_exchange) (nL := 4) (ret := none) (by decide +kernel) rfl (Nat.le_of_ble_eq_true rfl) ?_
  intro F Z hl hR hD hcy hnw hnm
  subst hl hD hcy hnw
  have hRf : F.R.frames = 0 := by rw [hR]
  have hRc : F.R.cells = 0 := by rw [hR]
  have hRs : F.R.slots = 0 := by rw [hR]
  have hRl : F.R.locals = 0 := by rw [hR]
  have in2 : ∀ w ∈ u_ws RX2 TX2 2, w ∈ wsX2_exchange := by decide +kernel
  have lk11 : Cond.fieldLink RX2 11 (TX2 0).1 (TX2 0).2.1 (TX2 0).2.2.1 ∈ wsX2_exchange := by decide +kernel
  have lk18 : Cond.fieldLink RX2 18 (TX2 1).1 (TX2 1).2.1 (TX2 1).2.2.1 ∈ wsX2_exchange := by decide +kernel
  obtain ⟨haL, haK, hait, -, -, -, hau, -, -, -⟩ := id ha.at
  obtain ⟨hbL, hbK, hbit, -, -, -, hbu, -, -, -⟩ := id hb.at
  refine g_aload_n Z dX2_exchange_0 rfl ?_
  refine g_getr Z 2 0 rfl (by decide) in2 lk11 dX2_exchange_1 (by assumption) (by assumption) (by assumption) ?_
  refine g_astore_n Z dX2_exchange_4 (by decide) ?_
  refine g_aload_n Z dX2_exchange_5 rfl ?_
  refine g_geti Z 2 1 rfl (by decide) in2 lk18 dX2_exchange_6 (by assumption) (by assumption) ?_
  rw [hbu]
  refine g_istore_n Z dX2_exchange_9 (by decide) ?_
  refine g_aload_n Z dX2_exchange_10 rfl ?_
  refine g_aload_n Z dX2_exchange_11 rfl ?_
  refine g_getr Z 2 0 rfl (by decide) in2 lk11 dX2_exchange_12 (by assumption) (by assumption) (by assumption) ?_
  refine g_putr Z 2 0 rfl (by decide) tyX2 tyX2_ok nmX2 rfl in2 lk11 dX2_exchange_15 rfl rfl (by assumption) (by assumption) ?_
  refine g_aload_n Z dX2_exchange_18 rfl ?_
  refine g_aload_n Z dX2_exchange_19 rfl ?_
  refine g_geti Z 2 1 rfl (by decide) in2 lk18 dX2_exchange_20 (by assumption) (by assumption) ?_
  rw [show PS.fi (PS.setR S b 0 _) a 1 = nI Va.1 from hau]
  refine g_puti Z 2 1 rfl (by decide) tyX2 tyX2_ok nmX2 rfl in2 lk18 dX2_exchange_23 rfl rfl (by assumption) (by assumption) ?_
  refine g_aload_n Z dX2_exchange_26 rfl ?_
  refine g_aload_n Z dX2_exchange_27 rfl ?_
  refine g_putr Z 2 0 rfl (by decide) tyX2 tyX2_ok nmX2 rfl in2 lk11 dX2_exchange_28 rfl rfl (by assumption) (by assumption) ?_
  refine g_aload_n Z dX2_exchange_31 rfl ?_
  refine g_iload_n Z dX2_exchange_32 rfl ?_
  refine g_puti Z 2 1 rfl (by decide) tyX2 tyX2_ok nmX2 rfl in2 lk18 dX2_exchange_33 rfl rfl (by assumption) (by assumption) ?_
  exact g_vret Z dX2_exchange_36 (by omega) (by omega) (xch_sv hab ha hb)

set_option maxRecDepth 100000 in
set_option maxHeartbeats 2000000 in
/-- each container as it takes the fewest bytes -/
theorem f_X2_shrinkAll (l : Launch) (D : va_G) (cy : Nat → ClassId) (nw : Nat) (S : PS) (O : Nat → Nat) (b s it : Nat) (C : Nat → Nat) (V : Sv) (hv : SV S nw O b s it C V)  : kV l yX2_shrinkAll wsX2_shrinkAll 3 68 D cy nw [.ref s] S (fun T => SV T nw O b s it C (shV V) ∧ Kp (fun a => O a = b) S T) 0 0 := by
  refine enterV (cc := cX2_shrinkAll) (nL := 2) (ret := none) (by decide +kernel) rfl (Nat.le_of_ble_eq_true rfl) ?_
  intro F Z hl hR hD hcy hnw hnm
  subst hl hD hcy hnw
  have hRf : F.R.frames = 3 := by rw [hR]
  have hRc : F.R.cells = 0 := by rw [hR]
  have hRs : F.R.slots = 0 := by rw [hR]
  have hRl : F.R.locals = 68 := by rw [hR]
  have in2 : ∀ w ∈ u_ws RX2 TX2 2, w ∈ wsX2_shrinkAll := by decide +kernel
  have lk11 : Cond.fieldLink RX2 11 (TX2 0).1 (TX2 0).2.1 (TX2 0).2.2.1 ∈ wsX2_shrinkAll := by decide +kernel
  have lk18 : Cond.fieldLink RX2 18 (TX2 1).1 (TX2 1).2.1 (TX2 1).2.2.1 ∈ wsX2_shrinkAll := by decide +kernel
  have loop : ∀ (n : Nat) (j : Nat) (T : PS), 8 - j < n → (SV T F.nw O b s it C (V.1, fun i => if i < j then (shV V).2 i else V.2 i) ∧ Kp (fun a => O a = b) S T ∧ j ≤ V.1) → G F 2 T 0 0 (QV F (fun T => SV T F.nw O b s it C (shV V) ∧ Kp (fun a => O a = b) S T) 0 0) 2 [(0, .ref s), (1, .int (nI j))] [] := by
    intro n
    induction n with
    | zero => intros; omega
    | succ n ih =>
      intro j T hn ⟨hv2, hkp, hj⟩
      refine g_nw Z (fun hnw => ?_)
      have hs := hv2.at
      obtain ⟨hsL, hsK, hsit, hitL, hitK, hitl, hsu, hu7, hsw, hsr⟩ := id hs
      refine g_iload_n Z dX2_shrinkAll_2 rfl ?_
      refine g_aload_n Z dX2_shrinkAll_3 rfl ?_
      refine g_geti Z 2 1 rfl (by decide) in2 lk18 dX2_shrinkAll_4 (by assumption) (by assumption) ?_
      rw [hsu]
      refine g_icmp_ge Z 25 dX2_shrinkAll_7 (by decide) (fun h7 => ?_) (fun h7 => ?_)
      · have he : j = V.1 := by have := ge_t (i := j) (N := V.1) (by omega) (by omega) h7; omega
        subst he
        exact g_vret Z dX2_shrinkAll_25 (by omega) (by omega) (⟨SV.congr (V := (V.1, fun i => if i < V.1 then (shV V).2 i else V.2 i)) rfl (fun i hi => by
          have hi2 : i < V.1 := hi
          show ((if i < V.1 then (shV V).2 i else V.2 i) : Cn).1 = _ ∧ ((if i < V.1 then (shV V).2 i else V.2 i) : Cn).2.1 = _ ∧ ∀ q, q < 1024 → ((if i < V.1 then (shV V).2 i else V.2 i) : Cn).2.2 q = _
          simp only [if_pos hi2]
          exact ⟨trivial, trivial, fun _ _ => trivial⟩) hv2, hkp⟩)
      · have hlt : j < V.1 := ge_f (by omega) (by omega) h7
        obtain ⟨w, hcq, ek, hk16, ed, et, ew⟩ := hv2.cv (j := j) hlt
        have e2 : (V.1, fun i => if i < j then (shV V).2 i else V.2 i).2 j = V.2 j := if_neg (Nat.lt_irrefl _)
        rw [e2] at ek hk16 ed et ew
        obtain ⟨hcL, hcK, hww, hwL, hwK, hwl⟩ := id hcq
        have hcl : (nI j).toNatClampNeg = j := nI_clamp (by omega)
        have hcr := (hv2.cv (j := j) hlt).cr
        refine g_aload_n Z dX2_shrinkAll_10 rfl ?_
        refine g_getr Z 2 0 rfl (by decide) in2 lk11 dX2_shrinkAll_11 (by assumption) (by assumption) (by assumption) ?_
        refine g_iload_n Z dX2_shrinkAll_14 rfl ?_
        refine g_aald10 Z dX2_shrinkAll_15 (by assumption) (by assumption) (by exact vin_of hitl (by omega) (by decide)) (by rw [hcl]; exact hv2.rr (by omega)) ?_
        refine g_cvV Z (f_X1_setSmallestKind F.l F.D F.cy F.nw T (C j) w hcq hcr) 0 gX2_shrinkAll_X1_setSmallestKind rfl (by decide +kernel) (by rw [hRf, hRl]; decide) (by assumption) (κ := 1) (by assumption) rfl (by decide) rfl rfl (Nat.le_of_ble_eq_true rfl) dX2_shrinkAll_16 (by rw [hRc, hRs]; omega) (fun U hp => ?_)
        subst hp
        obtain ⟨p1, p2⟩ := hv2.put (i := j) hlt hnw hcq hk16 (smK (nI (tot (V.2 j).2.2)) (nI (rnT (V.2 j).2.2))) (T.rj w)
        rw [tot_congr ew, ← ek, ← et, ← rnT_congr ew, ← trF_rnT, ← CS_setd] at p1 p2
        have p3 := SV.putC ew p1
        have p4 : SV (T.setI (C j) 1 (smK (T.fi (C j) 2) (trF (T.rj w) 1024))) F.nw O b s it C (V.1, fun i => if i < j + 1 then (shV V).2 i else V.2 i) := by
          refine SV.congr ?_ ?_ p3
          · rfl
          · intro i hi
            show ((if i = j then ((V.2 j).1, smK (T.fi (C j) 2) (trF (T.rj w) 1024), (V.2 j).2.2) else (if i < j then (shV V).2 i else V.2 i)) : Cn).1 = ((if i < j + 1 then (shV V).2 i else V.2 i) : Cn).1 ∧ ((if i = j then ((V.2 j).1, smK (T.fi (C j) 2) (trF (T.rj w) 1024), (V.2 j).2.2) else (if i < j then (shV V).2 i else V.2 i)) : Cn).2.1 = ((if i < j + 1 then (shV V).2 i else V.2 i) : Cn).2.1 ∧ ∀ q, q < 1024 → ((if i = j then ((V.2 j).1, smK (T.fi (C j) 2) (trF (T.rj w) 1024), (V.2 j).2.2) else (if i < j then (shV V).2 i else V.2 i)) : Cn).2.2 q = ((if i < j + 1 then (shV V).2 i else V.2 i) : Cn).2.2 q
            by_cases e : i = j
            · subst e
              simp only [if_pos rfl, if_pos (Nat.lt_succ_self i)]
              exact ⟨rfl, by rw [et, trF_rnT, rnT_congr ew]; rfl, fun _ _ => rfl⟩
            · by_cases e3 : i < j
              · simp only [if_neg e, if_pos e3, if_pos (show i < j + 1 by omega)]
                exact ⟨trivial, trivial, fun _ _ => trivial⟩
              · simp only [if_neg e, if_neg e3, if_neg (show ¬ i < j + 1 by omega)]
                exact ⟨trivial, trivial, fun _ _ => trivial⟩
        refine g_iinc (c := 1) Z dX2_shrinkAll_19 rfl (by decide) (by decide) ?_
        rw [nI_1]
        refine g_goto Z 2 dX2_shrinkAll_22 (by decide) ?_
        exact g_lv (by (repeat (first | exact trivial | refine And.intro rfl ?_)); done) (ih (j + 1) _ (by omega) ⟨p4, hkp.tr p2, by omega⟩)
  refine g_iconst (v := 0) Z dX2_shrinkAll_0 (by decide) ?_
  refine g_istore_n Z dX2_shrinkAll_1 (by decide) ?_
  exact g_lv (by (repeat (first | exact trivial | refine And.intro rfl ?_)); done) (loop 9 0 S (by omega) ⟨SV.congr (V := V) rfl (fun i _ => by
    show _ = ((if i < 0 then (shV V).2 i else V.2 i) : Cn).1 ∧ _ = ((if i < 0 then (shV V).2 i else V.2 i) : Cn).2.1 ∧ ∀ q, q < 1024 → _ = ((if i < 0 then (shV V).2 i else V.2 i) : Cn).2.2 q
    simp only [if_neg (Nat.not_lt_zero i)]
    exact ⟨trivial, trivial, fun _ _ => trivial⟩) hv, Kp.rf, by omega⟩)
