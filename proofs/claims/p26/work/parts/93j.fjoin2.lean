theorem like_cls {T : PS} {a va : Nat} {R : Nat → Int64} {A : Cn} {F0 : Nat → Int64} (hR : ∀ q, q < 1024 → R q = F0 q) (ea2 : T.fi a 2 = nI (tot A.2.2)) (ewa : ∀ q, q < 1024 → T.rj va q = A.2.2 q) : (nI (tot R) = T.fi a 2 ∧ ∀ j, j < 1024 → R j &&& (T.rj va j ^^^ -1) = 0) ↔ ∀ j, j < 1024 → F0 j = A.2.2 j := by
  rw [ea2, nI_eq (by have := tot_le R; omega) (by have := tot_le A.2.2; omega)]
  constructor
  · intro ⟨h1, h2⟩ j hj
    have h3 := like_iff.mp (⟨h1, fun q hq => by have := h2 q hq; rw [ewa q hq] at this; exact this⟩ : tot R = tot A.2.2 ∧ ∀ j, j < 1024 → R j &&& (A.2.2 j ^^^ -1) = 0)
    rw [← hR j hj]
    exact h3 j hj
  · intro h
    obtain ⟨h1, h2⟩ := like_iff.mpr (fun j hj => (hR j hj).trans (h j hj))
    exact ⟨h1, fun q hq => by rw [ewa q hq]; exact h2 q hq⟩
theorem mxK_eq {T : PS} {a b va vb : Nat} {R : Nat → Int64} {kd x : Int32} {A B : Cn} (hR : ∀ q, q < 1024 → R q = mxF x A B q) (ea2 : T.fi a 2 = nI (tot A.2.2)) (ea1 : T.fi a 1 = A.2.1) (ewa : ∀ q, q < 1024 → T.rj va q = A.2.2 q) (eb2 : T.fi b 2 = nI (tot B.2.2)) (eb1 : T.fi b 1 = B.2.1) (ewb : ∀ q, q < 1024 → T.rj vb q = B.2.2 q) (h : mxK T a b va vb R kd) : kd = (mxC x A B).2.1 := by
  unfold mxK at h
  rw [like_cls hR ea2 ewa, like_cls hR eb2 ewb, ea1, eb1, tot_congr hR] at h
  show kd = @ite Int32 (∀ j, j < 1024 → mxF x A B j = A.2.2 j) (Classical.propDecidable _) A.2.1 (@ite Int32 (∀ j, j < 1024 → mxF x A B j = B.2.2 j) (Classical.propDecidable _) B.2.1 (plK (nI (tot (mxF x A B)))))
  rcases h with ⟨h, rfl⟩ | ⟨h, ⟨h2, rfl⟩ | ⟨h2, rfl⟩⟩
  · rw [if_pos h]
  · rw [if_neg h, if_pos h2]
  · rw [if_neg h, if_neg h2]
theorem ky_of {A : Sv} {i : Nat} {r : Int32} (h : (i < A.1 ∧ r = nI (A.2 i).1) ∨ (A.1 ≤ i ∧ r = nI 65536)) : r = nI (kyA A i) := by
  unfold kyA
  rcases h with ⟨h, e⟩ | ⟨h, e⟩
  · rw [if_pos h]; exact e
  · rw [if_neg (by omega)]; exact e
theorem ky_le {A : Sv} (hA : ∀ i, i < A.1 → (A.2 i).1 < 65536) (i : Nat) : kyA A i ≤ 65536 := by
  unfold kyA
  by_cases h : i < A.1
  · rw [if_pos h]; have := hA i h; omega
  · rw [if_neg h]; omega
theorem ky_lt {A : Sv} {i : Nat} (h : kyA A i < 65536) : i < A.1 := by
  unfold kyA at h
  by_cases e : i < A.1
  · exact e
  · rw [if_neg e] at h; omega
theorem ky_end {A : Sv} {i : Nat} (h : A.1 ≤ i) : kyA A i = 65536 := by
  unfold kyA
  rw [if_neg (by omega)]
theorem psh_sv {S : PS} {nw : Nat} {O : Nat → Nat} {b s it : Nat} {C : Nat → Nat} {V : Sv} {a : Cn} (hn : V.1 + 1 ≤ 7) (h : SP S nw O b s it C (V.1 + 1) (V.1 + 1) (fun k => if k = V.1 then a else V.2 k)) : SV S nw O b s it C (V.psh a) := SP.sv hn h rfl (fun _ _ => rfl)

set_option maxRecDepth 100000 in
set_option maxHeartbeats 2000000 in
/-- what two sets have together -/
theorem f_X2_becomeJoin (l : Launch) (D : va_G) (cy : Nat → ClassId) (nw : Nat) (S : PS) (O : Nat → Nat) (b s it : Nat) (C : Nat → Nat) (V : Sv) (hv : SV S nw O b s it C V) (a d ba bd ia id0 : Nat) (Ca Cd : Nat → Nat) (A B : Sv) (ha : SV S nw O ba a ia Ca A) (hd : SV S nw O bd d id0 Cd B) (hA6 : A.1 ≤ 6) (hB6 : B.1 ≤ 6) (hba : ba ≠ b) (hsa : O s ≠ ba) (hoa : O a ≠ b) (has : a ≠ s) (hbd : bd ≠ b) (hsd : O s ≠ bd) (hod : O d ≠ b) (hds : d ≠ s) (x : Int32) (hx : x = 0 ∨ x = 1 ∨ x = 2 ∨ x = 3) : kI l yX2_becomeJoin wsX2_becomeJoin 3 81 D cy nw [.ref s, .int x, .ref a, .ref d] S (fun r T => ∃ V2, After S T nw O b s it V2 ∧ ((r = 1 ∧ mgR x A B 13 0 0 eS = some V2) ∨ (r = 0 ∧ mgR x A B 13 0 0 eS = none))) 12 12288 := by
  refine enterI (cc := cX2_becomeJoin) (nL := 9) (ret := (some .boolean)) (by decide +kernel) rfl (Nat.le_of_ble_eq_true rfl) ?_
  intro F Z hl hR hD hcy hnw hnm
  subst hl hD hcy hnw
  have hRf : F.R.frames = 3 := by rw [hR]
  have hRc : F.R.cells = 12 := by rw [hR]
  have hRs : F.R.slots = 12288 := by rw [hR]
  have hRl : F.R.locals = 81 := by rw [hR]
  have in1 : ∀ w ∈ u_ws RX1 TX1 4, w ∈ wsX2_becomeJoin := by decide +kernel
  have in2 : ∀ w ∈ u_ws RX2 TX2 2, w ∈ wsX2_becomeJoin := by decide +kernel
  have lk11 : Cond.fieldLink RX2 11 (TX2 0).1 (TX2 0).2.1 (TX2 0).2.2.1 ∈ wsX2_becomeJoin := by decide +kernel
  have lk18 : Cond.fieldLink RX2 18 (TX2 1).1 (TX2 1).2.1 (TX2 1).2.2.1 ∈ wsX2_becomeJoin := by decide +kernel
  have lk63 : Cond.fieldLink RX2 63 (TX1 2).1 (TX1 2).2.1 (TX1 2).2.2.1 ∈ wsX2_becomeJoin := by decide +kernel
  have ct29 : Cond.constant RX2 29 (65536) ∈ wsX2_becomeJoin := by decide +kernel
  have hkA : ∀ i, i < A.1 → (A.2 i).1 < 65536 := fun i hi => (ha.cv hi).choose_spec.2.2.1
  have hkB : ∀ i, i < B.1 → (B.2 i).1 < 65536 := fun i hi => (hd.cv hi).choose_spec.2.2.1
  have hsL0 := hv.1
  have haL0 := ha.1
  have hdL0 := hd.1
  have loop : ∀ (n : Nat) (k i j : Nat) (T : PS) (O2 : Nat → Nat) (W : Sv), 12 - k < n → ((∀ q ∈ S.L, O2 q = O q) ∧ Kp (fun q => O q = b ∨ q = s) S T ∧ SV T F.nw O2 b s it C W ∧ k ≤ 12 ∧ i ≤ A.1 ∧ j ≤ B.1 ∧ k ≤ i + j ∧ mgR x A B (13 - k) i j W = mgR x A B 13 0 0 eS) → G F 9 T k (1024 * k) (QI F (fun r T => ∃ V2, After S T F.nw O b s it V2 ∧ ((r = 1 ∧ mgR x A B 13 0 0 eS = some V2) ∨ (r = 0 ∧ mgR x A B 13 0 0 eS = none))) 12 12288) 14 [(0, .ref s), (1, .int x), (2, .ref a), (3, .ref d), (4, .int (nI i)), (5, .int (nI j)), (6, .int (nI k))] [] := by
    intro n
    induction n with
    | zero => intros; omega
    | succ n ih =>
      intro k i j T O2 W hn ⟨hO2, hkp, hvT, hk, hiA, hjB, hij, hmg⟩
      refine g_nw Z (fun hnT => ?_)
      have haT := SV.other hO2 hkp hnT hba hsa hoa has ha
      have hdT := SV.other hO2 hkp hnT hbd hsd hod hds hd
      have hs := hvT.at
      obtain ⟨hsL, hsK, hsit, hitL, hitK, hitl, hsu, hu7, hsw, hsr⟩ := id hs
      obtain ⟨haL, haK, hait, haiL, haiK, hail, hau, -, -, -⟩ := id haT.at
      obtain ⟨hdL, hdK, hdit, hdiL, hdiK, hdil, hdu, -, -, -⟩ := id hdT.at
      have os2 : O2 s ≠ ba := by rw [hO2 s hsL0]; exact hsa
      have od2 : O2 s ≠ bd := by rw [hO2 s hsL0]; exact hsd
      have oa2 : O2 a ≠ b := by rw [hO2 a haL0]; exact hoa
      have oe2 : O2 d ≠ b := by rw [hO2 d hdL0]; exact hod
      have hsp := hvT.sp
      have hcli : (nI i).toNatClampNeg = i := nI_clamp (by omega)
      have hclj : (nI j).toNatClampNeg = j := nI_clamp (by omega)
      have hclu : (nI W.1).toNatClampNeg = W.1 := nI_clamp (by omega)
      have hkAl := ky_le hkA i
      have hkBl := ky_le hkB j
      have j219 : (¬ 6 < W.1 → mgR x A B 13 0 0 eS = some W) → (6 < W.1 → mgR x A B 13 0 0 eS = none) → ∀ lv, lvsub lv [(0, .ref s), (1, .int x), (2, .ref a), (3, .ref d)] → G F 9 T k (1024 * k) (QI F (fun r T => ∃ V2, After S T F.nw O b s it V2 ∧ ((r = 1 ∧ mgR x A B 13 0 0 eS = some V2) ∨ (r = 0 ∧ mgR x A B 13 0 0 eS = none))) 12 12288) 219 lv [] := by
        intro he1 he2 lv hlv
        refine g_lv hlv ?_
        refine g_aload_n Z dX2_becomeJoin_219 rfl ?_
        refine g_geti Z 2 1 rfl (by decide) in2 lk18 dX2_becomeJoin_220 (by assumption) (by assumption) ?_
        rw [hsu]
        refine g_bipush (v := 6) Z dX2_becomeJoin_223 (by decide) ?_
        refine g_icmp_gt Z 232 dX2_becomeJoin_225 (by decide) (fun h225 => ?_) (fun h225 => ?_)
        · have hg : 6 < W.1 := lt_t (i := 6) (N := W.1) (by decide) (by omega) h225
          refine g_iconst (v := 0) Z dX2_becomeJoin_232 (by decide) ?_
          exact g_zret Z dX2_becomeJoin_233 (by rfl) (by omega) (by omega) (by first | exact ⟨W, ⟨O2, C, hO2, hkp, hvT⟩, Or.inl ⟨rfl, he1 hg⟩⟩ | exact ⟨W, ⟨O2, C, hO2, hkp, hvT⟩, Or.inr ⟨rfl, he2 hg⟩⟩)
        · have hg : ¬ 6 < W.1 := by have := gt_f (i := W.1) (N := 6) (by omega) (by decide) h225; omega
          refine g_iconst (v := 1) Z dX2_becomeJoin_228 (by decide) ?_
          refine g_goto Z 233 dX2_becomeJoin_229 (by decide) ?_
          exact g_zret Z dX2_becomeJoin_233 (by rfl) (by omega) (by omega) (by first | exact ⟨W, ⟨O2, C, hO2, hkp, hvT⟩, Or.inl ⟨rfl, he1 hg⟩⟩ | exact ⟨W, ⟨O2, C, hO2, hkp, hvT⟩, Or.inr ⟨rfl, he2 hg⟩⟩)
      have j213 : ∀ (i2 j2 : Nat) (T2 : PS) (O3 : Nat → Nat) (W2 : Sv), (∀ q ∈ S.L, O3 q = O q) → Kp (fun q => O q = b ∨ q = s) S T2 → SV T2 F.nw O3 b s it C W2 → i2 ≤ A.1 → j2 ≤ B.1 → k + 1 ≤ i2 + j2 → k < 12 → mgR x A B (13 - (k + 1)) i2 j2 W2 = mgR x A B 13 0 0 eS → G F 9 T2 (k + 1) (1024 * k + 1024) (QI F (fun r T => ∃ V2, After S T F.nw O b s it V2 ∧ ((r = 1 ∧ mgR x A B 13 0 0 eS = some V2) ∨ (r = 0 ∧ mgR x A B 13 0 0 eS = none))) 12 12288) 213 [(0, .ref s), (1, .int x), (2, .ref a), (3, .ref d), (4, .int (nI i2)), (5, .int (nI j2)), (6, .int (nI k))] [] := by
        intro i2 j2 T2 O3 W2 hO3 hk3 hv3 hi2 hj2 hij2 hk12 hmg2
        refine g_iinc (c := 1) Z dX2_becomeJoin_213 rfl (by decide) (by decide) ?_
        rw [nI_1]
        refine g_goto Z 14 dX2_becomeJoin_216 (by decide) ?_
        exact g_widen (Nat.le_refl _) (by omega) (g_lv (by (repeat (first | exact trivial | refine And.intro rfl ?_)); done) (ih (k + 1) i2 j2 T2 O3 W2 (by omega) ⟨hO3, hk3, hv3, by omega, hi2, hj2, hij2, hmg2⟩))
      refine g_iload Z dX2_becomeJoin_14 rfl ?_
      refine g_bipush (v := 12) Z dX2_becomeJoin_16 (by decide) ?_
      refine g_icmp_ge Z 219 dX2_becomeJoin_18 (by decide) (fun h18 => ?_) (fun h18 => ?_)
      · have hk12 : k = 12 := by have := ge_t (i := k) (N := 12) (by omega) (by decide) h18; omega
        exact j219 (fun hg => hmg.symm.trans (mg_end hg (ky_end (by omega)) (ky_end (by omega)))) (fun hg => hmg.symm.trans (mg_full hg)) _ (by (repeat (first | exact trivial | refine And.intro rfl ?_)); done)
      · have hk12 : k < 12 := ge_f (by omega) (by decide) h18
        refine g_aload_n Z dX2_becomeJoin_21 rfl ?_
        refine g_geti Z 2 1 rfl (by decide) in2 lk18 dX2_becomeJoin_22 (by assumption) (by assumption) ?_
        rw [hsu]
        refine g_bipush (v := 6) Z dX2_becomeJoin_25 (by decide) ?_
        refine g_icmp_gt Z 219 dX2_becomeJoin_27 (by decide) (fun h27 => ?_) (fun h27 => ?_)
        · have hg6 : 6 < W.1 := lt_t (i := 6) (N := W.1) (by decide) (by omega) h27
          exact j219 (fun hg => absurd hg6 hg) (fun hg => hmg.symm.trans (mg_full hg)) _ (by (repeat (first | exact trivial | refine And.intro rfl ?_)); done)
        · have hus6 : W.1 ≤ 6 := gt_f (by omega) (by decide) h27
          have hng : ¬ 6 < W.1 := by omega
          have hc := hvT.rr (j := W.1) (by omega)
          have hcw := hvT.cw (j := W.1) (by omega)
          obtain ⟨hcL, hcK, -, -⟩ := id hcw
          have hfu : 13 - k = (13 - (k + 1)) + 1 := by omega
          refine g_aload_n Z dX2_becomeJoin_30 rfl ?_
          refine g_iload Z dX2_becomeJoin_31 rfl ?_
          refine g_cvI Z (f_X2_keyAt F.l F.D F.cy F.nw T O2 ba a ia Ca A haT i (by omega)) 1 gX2_becomeJoin_X2_keyAt rfl (by decide +kernel) (by rw [hRf, hRl]; decide) (by assumption) (κ := 2) (by assumption) rfl (by decide) rfl rfl (Nat.le_of_ble_eq_true rfl) dX2_becomeJoin_33 (by rw [hRc, hRs]; omega) (fun r U hp => ?_)
          obtain ⟨rfl, hp2⟩ := hp
          obtain rfl := ky_of hp2
          refine g_istore Z dX2_becomeJoin_36 (by decide) ?_
          refine g_aload_n Z dX2_becomeJoin_38 rfl ?_
          refine g_iload Z dX2_becomeJoin_39 rfl ?_
          refine g_cvI Z (f_X2_keyAt F.l F.D F.cy F.nw T O2 bd d id0 Cd B hdT j (by omega)) 1 gX2_becomeJoin_X2_keyAt rfl (by decide +kernel) (by rw [hRf, hRl]; decide) (by assumption) (κ := 2) (by assumption) rfl (by decide) rfl rfl (Nat.le_of_ble_eq_true rfl) dX2_becomeJoin_41 (by rw [hRc, hRs]; omega) (fun r U hp => ?_)
          obtain ⟨rfl, hp3⟩ := hp
          obtain rfl := ky_of hp3
          refine g_istore Z dX2_becomeJoin_44 (by decide) ?_
          have j63 : ¬ (kyA A i = 65536 ∧ kyA B j = 65536) → G F 9 T k (1024 * k) (QI F (fun r T => ∃ V2, After S T F.nw O b s it V2 ∧ ((r = 1 ∧ mgR x A B 13 0 0 eS = some V2) ∨ (r = 0 ∧ mgR x A B 13 0 0 eS = none))) 12 12288) 63 [(0, .ref s), (1, .int x), (2, .ref a), (3, .ref d), (4, .int (nI i)), (5, .int (nI j)), (6, .int (nI k)), (7, .int (nI (kyA A i))), (8, .int (nI (kyA B j)))] [] := by
            intro hne
            refine g_iload Z dX2_becomeJoin_63 rfl ?_
            refine g_iload Z dX2_becomeJoin_65 rfl ?_
            refine g_icmp_ge Z 106 dX2_becomeJoin_67 (by decide) (fun h67 => ?_) (fun h67 => ?_)
            · have hge : kyA B j ≤ kyA A i := ge_t (by omega) (by omega) h67
              refine g_iload Z dX2_becomeJoin_106 rfl ?_
              refine g_iload Z dX2_becomeJoin_108 rfl ?_
              refine g_icmp_ge Z 155 dX2_becomeJoin_110 (by decide) (fun h110 => ?_) (fun h110 => ?_)
              · have heq : kyA A i = kyA B j := by have := ge_t (i := kyA B j) (N := kyA A i) (by omega) (by omega) h110; omega
                have hiu : i < A.1 := ky_lt (by omega)
                have hju : j < B.1 := ky_lt (by omega)
                have hst := (mg_c (x := x) (n := 13 - (k + 1)) hng heq (by omega))
                rw [← hfu, hmg] at hst
                obtain ⟨va, haq, eka, hk16a, eda, eta, ewa⟩ := haT.cv hiu
                obtain ⟨vb, hbq, ekb, hk16b, edb, etb, ewb⟩ := hdT.cv hju
                obtain ⟨gaL, gaK, gav, gvaL, -, -⟩ := id haq
                obtain ⟨gbL, gbK, gbv, gvbL, -, -⟩ := id hbq
                obtain ⟨y1, y2, y3, y4, y5, y6, y7⟩ := hsp.2.2.2.2.1
                obtain ⟨z1, z2, z3, z4, z5, z6, z7⟩ := haT.2.2.2.2.2.1
                obtain ⟨t1, t2, t3, t4, t5, t6, t7⟩ := hdT.2.2.2.2.2.1
                obtain ⟨-, -, r3, r4⟩ := y5 W.1 (by omega)
                obtain ⟨s1, -, s3, s4⟩ := z5 i (by omega)
                obtain ⟨q1, -, q3, q4⟩ := t5 j (by omega)
                have hac : Ca i ≠ C W.1 := fun e => hba (by rw [← s3, e]; exact r3)
                have hbc : Cd j ≠ C W.1 := fun e => hbd (by rw [← q3, e]; exact r3)
                have hnea : ∀ w, T.fr (C W.1) 3 = some w → w ≠ va := fun w hw e => by
                  subst e
                  exact hba ((s4 w gav gvaL).symm.trans (r4 w hw gvaL))
                have hneb : ∀ w, T.fr (C W.1) 3 = some w → w ≠ vb := fun w hw e => by
                  subst e
                  exact hbd ((q4 w gbv gvbL).symm.trans (r4 w hw gvbL))
                refine g_aload_n Z dX2_becomeJoin_155 rfl ?_
                refine g_getr Z 2 0 rfl (by decide) in2 lk11 dX2_becomeJoin_156 (by assumption) (by assumption) (by assumption) ?_
                refine g_aload_n Z dX2_becomeJoin_159 rfl ?_
                refine g_geti Z 2 1 rfl (by decide) in2 lk18 dX2_becomeJoin_160 (by assumption) (by assumption) ?_
                rw [hsu]
                refine g_aald10 Z dX2_becomeJoin_163 (by assumption) (by assumption) (by exact vin_of hitl (by omega) (by decide)) (by rw [hclu]; exact hc) ?_
                refine g_iload_n Z dX2_becomeJoin_164 rfl ?_
                refine g_aload_n Z dX2_becomeJoin_165 rfl ?_
                refine g_getr Z 2 0 rfl (by decide) in2 lk11 dX2_becomeJoin_166 (by assumption) (by assumption) (by assumption) ?_
                refine g_iload Z dX2_becomeJoin_169 rfl ?_
                refine g_iinc (c := 1) Z dX2_becomeJoin_171 rfl (by decide) (by decide) ?_
                rw [nI_1]
                refine g_aald10 Z dX2_becomeJoin_174 (by assumption) (by assumption) (by exact vin_of hail (by omega) (by decide)) (by rw [hcli]; exact s1) ?_
                refine g_aload_n Z dX2_becomeJoin_175 rfl ?_
                refine g_getr Z 2 0 rfl (by decide) in2 lk11 dX2_becomeJoin_176 (by assumption) (by assumption) (by assumption) ?_
                refine g_iload Z dX2_becomeJoin_179 rfl ?_
                refine g_iinc (c := 1) Z dX2_becomeJoin_181 rfl (by decide) (by decide) ?_
                rw [nI_1]
                refine g_aald10 Z dX2_becomeJoin_184 (by assumption) (by assumption) (by exact vin_of hdil (by omega) (by decide)) (by rw [hclj]; exact q1) ?_
                refine g_cvV Z (f_X1_becomeMix F.l F.D F.cy F.nw T (C W.1) (Ca i) (Cd j) va vb hcL hcK hcw.ww haq hbq hac hbc hnea hneb x hx) 3 gX2_becomeJoin_X1_becomeMix rfl (by decide +kernel) (by rw [hRf, hRl]; decide) (by assumption) (κ := 1) (by assumption) rfl (by decide) rfl rfl (Nat.le_of_ble_eq_true rfl) dX2_becomeJoin_185 (by rw [hRc, hRs]; omega) (fun U hp => ?_)
                obtain ⟨S1, w, R, kd, hrm, hR, hkd, rfl⟩ := hp
                have hR2 : ∀ q, q < 1024 → R q = mxF x (A.2 i) (B.2 j) q := fun q hq => by rw [hR q hq, ewa q hq, ewb q hq]; rfl
                refine g_nw Z (fun hnU => ?_)
                rw [mxK_eq hR2 eta eda ewa etb edb ewb hkd, eka, tot_congr hR2] at hnU ⊢
                change G F 9 (CS S1 (C W.1) w (nI (mxC x (A.2 i) (B.2 j)).1) (mxC x (A.2 i) (B.2 j)).2.1 (nI (tot (mxC x (A.2 i) (B.2 j)).2.2)) R) _ _ _ _ _ _
                obtain ⟨O3, u1, u2, u3⟩ := hsp.give (a := mxC x (A.2 i) (B.2 j)) (by omega) hrm hk16a hR2 hnU
                obtain ⟨usL, usK, usit, usu, usB, usC⟩ := id u3
                obtain ⟨uiL, uiK, uil, uiO, ui5, -, -⟩ := id usB
                obtain ⟨uw, ucq, -, -, -, uct, -⟩ := usC W.1 (Nat.lt_succ_self _)
                obtain ⟨ucL, ucK, -, -⟩ := id ucq
                have hur := (ui5 W.1 (by omega)).1
                have hO3 : ∀ q ∈ S.L, O3 q = O q := fun q hq => (u1 q (hkp.1 q hq)).trans (hO2 q hq)
                have hkU := hkp.tr2 hO2 (u2.mono (fun q _ h => Or.inl h))
                rw [show ((fun k => if k = W.1 then mxC x (A.2 i) (B.2 j) else W.2 k) W.1) = mxC x (A.2 i) (B.2 j) from if_pos rfl] at uct
                refine g_aload_n Z dX2_becomeJoin_188 rfl ?_
                refine g_getr Z 2 0 rfl (by decide) in2 lk11 dX2_becomeJoin_189 (by assumption) (by assumption) (by assumption) ?_
                refine g_aload_n Z dX2_becomeJoin_192 rfl ?_
                refine g_geti Z 2 1 rfl (by decide) in2 lk18 dX2_becomeJoin_193 (by assumption) (by assumption) ?_
                rw [usu]
                refine g_aald10 Z dX2_becomeJoin_196 (by assumption) (by assumption) (by exact vin_of uil (by omega) (by decide)) (by rw [hclu]; exact hur) ?_
                refine g_geti Z 1 2 rfl (by decide) in1 lk63 dX2_becomeJoin_197 (by assumption) (by assumption) ?_
                rw [uct]
                refine g_if_le Z 213 dX2_becomeJoin_200 (by decide) (fun h200 => ?_) (fun h200 => ?_)
                · have ht0 : ¬ 0 < tot (mxF x (A.2 i) (B.2 j)) := by
                    intro h
                    exact nI_nle h (by have := tot_le (mxF x (A.2 i) (B.2 j)); omega) h200
                  rw [if_neg ht0] at hst
                  have hsvU : SV _ F.nw O3 b s it C W := SP.sv hu7 ⟨usL, usK, usit, usu, usB, fun q hq => usC q (by omega)⟩ rfl (fun q hq => (if_neg (by omega)).symm)
                  first | exact g_widen (by omega) (by omega) (g_lv (by (repeat (first | exact trivial | refine And.intro rfl ?_)); done) (j213 (i + 1) j T O2 W hO2 hkp hvT (by omega) (by omega) (by omega) hk12 hst.symm)) | exact g_widen (by omega) (by omega) (g_lv (by (repeat (first | exact trivial | refine And.intro rfl ?_)); done) (j213 i (j + 1) T O2 W hO2 hkp hvT (by omega) (by omega) (by omega) hk12 hst.symm)) | exact g_widen (by omega) (by omega) (g_lv (by (repeat (first | exact trivial | refine And.intro rfl ?_)); done) (j213 (i + 1) j _ O3 _ hO3 hkU hsvU (by omega) (by omega) (by omega) hk12 hst.symm)) | exact g_widen (by omega) (by omega) (g_lv (by (repeat (first | exact trivial | refine And.intro rfl ?_)); done) (j213 i (j + 1) _ O3 _ hO3 hkU hsvU (by omega) (by omega) (by omega) hk12 hst.symm)) | exact g_widen (by omega) (by omega) (g_lv (by (repeat (first | exact trivial | refine And.intro rfl ?_)); done) (j213 (i + 1) (j + 1) _ O3 _ hO3 hkU hsvU (by omega) (by omega) (by omega) hk12 hst.symm))
                · have ht0 : 0 < tot (mxF x (A.2 i) (B.2 j)) := by
                    rcases Nat.eq_zero_or_pos (tot (mxF x (A.2 i) (B.2 j))) with e | e
                    · rw [show tot (mxC x (A.2 i) (B.2 j)).2.2 = 0 from e, nI_0] at h200; exact absurd (Int32.le_refl 0) h200
                    · exact e
                  rw [if_pos ht0] at hst
                  obtain ⟨u4, kp4⟩ := SP.used (m := W.1 + 1) u3 (by omega)
                  have hsvU := psh_sv (by omega) u4
                  replace hkU := hkp.tr2 hO2 ((u2.mono (fun q _ h => Or.inl h)).tr (kp4.mono (fun q _ h => Or.inr h)))
                  refine g_aload_n Z dX2_becomeJoin_203 rfl ?_
                  refine g_dup Z dX2_becomeJoin_204 rfl ?_
                  refine g_geti Z 2 1 rfl (by decide) in2 lk18 dX2_becomeJoin_205 (by assumption) (by assumption) ?_
                  rw [usu]
                  refine g_iconst (v := 1) Z dX2_becomeJoin_208 (by decide) ?_
                  refine g_iadd Z dX2_becomeJoin_209 ?_
                  rw [nI_1]
                  refine g_puti Z 2 1 rfl (by decide) tyX2 tyX2_ok nmX2 rfl in2 lk18 dX2_becomeJoin_210 rfl rfl (by exact usL) (by exact usK) ?_
                  first | exact g_widen (by omega) (by omega) (g_lv (by (repeat (first | exact trivial | refine And.intro rfl ?_)); done) (j213 (i + 1) j T O2 W hO2 hkp hvT (by omega) (by omega) (by omega) hk12 hst.symm)) | exact g_widen (by omega) (by omega) (g_lv (by (repeat (first | exact trivial | refine And.intro rfl ?_)); done) (j213 i (j + 1) T O2 W hO2 hkp hvT (by omega) (by omega) (by omega) hk12 hst.symm)) | exact g_widen (by omega) (by omega) (g_lv (by (repeat (first | exact trivial | refine And.intro rfl ?_)); done) (j213 (i + 1) j _ O3 _ hO3 hkU hsvU (by omega) (by omega) (by omega) hk12 hst.symm)) | exact g_widen (by omega) (by omega) (g_lv (by (repeat (first | exact trivial | refine And.intro rfl ?_)); done) (j213 i (j + 1) _ O3 _ hO3 hkU hsvU (by omega) (by omega) (by omega) hk12 hst.symm)) | exact g_widen (by omega) (by omega) (g_lv (by (repeat (first | exact trivial | refine And.intro rfl ?_)); done) (j213 (i + 1) (j + 1) _ O3 _ hO3 hkU hsvU (by omega) (by omega) (by omega) hk12 hst.symm))
              · have hlt : kyA B j < kyA A i := ge_f (by omega) (by omega) h110
                have hiu : j < B.1 := ky_lt (by omega)
                have hst := (mg_b (x := x) (n := 13 - (k + 1)) hng hlt)
                rw [← hfu, hmg] at hst
                refine g_iload_n Z dX2_becomeJoin_113 rfl ?_
                refine g_iconst (v := 1) Z dX2_becomeJoin_114 (by decide) ?_
                refine g_icmp_eq Z 123 dX2_becomeJoin_115 (by decide) (fun h115 => ?_) (fun h115 => ?_)
                · rw [if_pos (Or.inl h115)] at hst
                  obtain ⟨hspu, kpu⟩ := SP.used (m := W.1 + 1) hsp hu7
                  have hoT2 : SV (T.setI s 1 (nI (W.1 + 1))) F.nw O2 bd d id0 Cd B := SV.other (O := O2) (b := b) (s := s) (fun _ _ => rfl) (kpu.mono (fun q _ h => Or.inr h)) hnT hbd od2 oe2 hds hdT
                  obtain ⟨v, hdq, ek, hk16, ed, et, ew⟩ := hoT2.cv hiu
                  obtain ⟨gdL, gdK, gdv, gvL, -, -⟩ := id hdq
                  obtain ⟨z1, z2, z3, z4, z5, z6, z7⟩ := hoT2.2.2.2.2.2.1
                  obtain ⟨y1, y2, y3, y4, y5, y6, y7⟩ := hspu.2.2.2.2.1
                  obtain ⟨-, -, r3, r4⟩ := y5 W.1 (by omega)
                  obtain ⟨s1, -, s3, s4⟩ := z5 j (by omega)
                  have hcw2 := (y5 W.1 (by omega)).2.1
                  have hdc : Cd j ≠ C W.1 := fun e => hbd (by rw [← s3, e]; exact r3)
                  have hne2 : ∀ w, (T.setI s 1 (nI (W.1 + 1))).fr (C W.1) 3 = some w → w ≠ v := fun w hw e => by
                    subst e
                    exact hbd ((s4 w gdv gvL).symm.trans (r4 w hw gvL))
                  refine g_aload_n Z dX2_becomeJoin_123 rfl ?_
                  refine g_getr Z 2 0 rfl (by decide) in2 lk11 dX2_becomeJoin_124 (by assumption) (by assumption) (by assumption) ?_
                  refine g_aload_n Z dX2_becomeJoin_127 rfl ?_
                  refine g_dup Z dX2_becomeJoin_128 rfl ?_
                  refine g_geti Z 2 1 rfl (by decide) in2 lk18 dX2_becomeJoin_129 (by assumption) (by assumption) ?_
                  rw [hsu]
                  refine g_dup_x1 Z dX2_becomeJoin_132 rfl rfl ?_
                  refine g_iconst (v := 1) Z dX2_becomeJoin_133 (by decide) ?_
                  refine g_iadd Z dX2_becomeJoin_134 ?_
                  rw [nI_1]
                  refine g_puti Z 2 1 rfl (by decide) tyX2 tyX2_ok nmX2 rfl in2 lk18 dX2_becomeJoin_135 rfl rfl (by assumption) (by assumption) ?_
                  refine g_aald10 Z dX2_becomeJoin_138 (by assumption) (by assumption) (by exact vin_of hitl (by omega) (by decide)) (by rw [hclu]; exact hc) ?_
                  refine g_aload_n Z dX2_becomeJoin_139 rfl ?_
                  refine g_getr Z 2 0 rfl (by decide) in2 lk11 dX2_becomeJoin_140 (by assumption) (by assumption) (by assumption) ?_
                  refine g_iload Z dX2_becomeJoin_143 rfl ?_
                  refine g_aald10 Z dX2_becomeJoin_145 (by assumption) (by assumption) (by exact vin_of hdil (by omega) (by decide)) (by rw [hclj]; exact s1) ?_
                  refine g_cvV Z (f_X1_copyLowsOf F.l F.D F.cy F.nw _ (C W.1) (Cd j) v hcw2.1 hcw2.2.1 hcw2.ww hdq hdc hne2) 1 gX2_becomeJoin_X1_copyLowsOf rfl (by decide +kernel) (by rw [hRf, hRl]; decide) (by assumption) (κ := 1) (by assumption) rfl (by decide) rfl rfl (Nat.le_of_ble_eq_true rfl) dX2_becomeJoin_146 (by rw [hRc, hRs]; omega) (fun U hp => ?_)
                  obtain ⟨S1, w, R, hrm, hR, rfl⟩ := hp
                  refine g_nw Z (fun hnU => ?_)
                  rw [ek, ed, et] at hnU ⊢
                  obtain ⟨O3, u1, u2, u3⟩ := hspu.give (a := B.2 j) (by omega) hrm hk16 (fun q hq => (hR q hq).trans (ew q hq)) hnU
                  have hsvU := psh_sv (by omega) u3
                  have hO3 : ∀ q ∈ S.L, O3 q = O q := fun q hq => (u1 q (hkp.1 q hq)).trans (hO2 q hq)
                  have hkU := hkp.tr2 hO2 ((kpu.mono (fun q _ h => Or.inr h)).tr (u2.mono (fun q _ h => Or.inl h)))
                  refine g_iinc (c := 1) Z dX2_becomeJoin_149 rfl (by decide) (by decide) ?_
                  rw [nI_1]
                  refine g_goto Z 213 dX2_becomeJoin_152 (by decide) ?_
                  first | exact g_widen (by omega) (by omega) (g_lv (by (repeat (first | exact trivial | refine And.intro rfl ?_)); done) (j213 (i + 1) j T O2 W hO2 hkp hvT (by omega) (by omega) (by omega) hk12 hst.symm)) | exact g_widen (by omega) (by omega) (g_lv (by (repeat (first | exact trivial | refine And.intro rfl ?_)); done) (j213 i (j + 1) T O2 W hO2 hkp hvT (by omega) (by omega) (by omega) hk12 hst.symm)) | exact g_widen (by omega) (by omega) (g_lv (by (repeat (first | exact trivial | refine And.intro rfl ?_)); done) (j213 (i + 1) j _ O3 _ hO3 hkU hsvU (by omega) (by omega) (by omega) hk12 hst.symm)) | exact g_widen (by omega) (by omega) (g_lv (by (repeat (first | exact trivial | refine And.intro rfl ?_)); done) (j213 i (j + 1) _ O3 _ hO3 hkU hsvU (by omega) (by omega) (by omega) hk12 hst.symm)) | exact g_widen (by omega) (by omega) (g_lv (by (repeat (first | exact trivial | refine And.intro rfl ?_)); done) (j213 (i + 1) (j + 1) _ O3 _ hO3 hkU hsvU (by omega) (by omega) (by omega) hk12 hst.symm))
                · refine g_iload_n Z dX2_becomeJoin_118 rfl ?_
                  refine g_iconst (v := 2) Z dX2_becomeJoin_119 (by decide) ?_
                  refine g_icmp_ne Z 149 dX2_becomeJoin_120 (by decide) (fun h120 => ?_) (fun h120 => ?_)
                  · rw [if_neg (fun q => q.elim h115 h120)] at hst
                    refine g_iinc (c := 1) Z dX2_becomeJoin_149 rfl (by decide) (by decide) ?_
                    rw [nI_1]
                    refine g_goto Z 213 dX2_becomeJoin_152 (by decide) ?_
                    first | exact g_widen (by omega) (by omega) (g_lv (by (repeat (first | exact trivial | refine And.intro rfl ?_)); done) (j213 (i + 1) j T O2 W hO2 hkp hvT (by omega) (by omega) (by omega) hk12 hst.symm)) | exact g_widen (by omega) (by omega) (g_lv (by (repeat (first | exact trivial | refine And.intro rfl ?_)); done) (j213 i (j + 1) T O2 W hO2 hkp hvT (by omega) (by omega) (by omega) hk12 hst.symm)) | exact g_widen (by omega) (by omega) (g_lv (by (repeat (first | exact trivial | refine And.intro rfl ?_)); done) (j213 (i + 1) j _ O3 _ hO3 hkU hsvU (by omega) (by omega) (by omega) hk12 hst.symm)) | exact g_widen (by omega) (by omega) (g_lv (by (repeat (first | exact trivial | refine And.intro rfl ?_)); done) (j213 i (j + 1) _ O3 _ hO3 hkU hsvU (by omega) (by omega) (by omega) hk12 hst.symm)) | exact g_widen (by omega) (by omega) (g_lv (by (repeat (first | exact trivial | refine And.intro rfl ?_)); done) (j213 (i + 1) (j + 1) _ O3 _ hO3 hkU hsvU (by omega) (by omega) (by omega) hk12 hst.symm))
                  · rw [if_pos (Or.inr h120)] at hst
                    obtain ⟨hspu, kpu⟩ := SP.used (m := W.1 + 1) hsp hu7
                    have hoT2 : SV (T.setI s 1 (nI (W.1 + 1))) F.nw O2 bd d id0 Cd B := SV.other (O := O2) (b := b) (s := s) (fun _ _ => rfl) (kpu.mono (fun q _ h => Or.inr h)) hnT hbd od2 oe2 hds hdT
                    obtain ⟨v, hdq, ek, hk16, ed, et, ew⟩ := hoT2.cv hiu
                    obtain ⟨gdL, gdK, gdv, gvL, -, -⟩ := id hdq
                    obtain ⟨z1, z2, z3, z4, z5, z6, z7⟩ := hoT2.2.2.2.2.2.1
                    obtain ⟨y1, y2, y3, y4, y5, y6, y7⟩ := hspu.2.2.2.2.1
                    obtain ⟨-, -, r3, r4⟩ := y5 W.1 (by omega)
                    obtain ⟨s1, -, s3, s4⟩ := z5 j (by omega)
                    have hcw2 := (y5 W.1 (by omega)).2.1
                    have hdc : Cd j ≠ C W.1 := fun e => hbd (by rw [← s3, e]; exact r3)
                    have hne2 : ∀ w, (T.setI s 1 (nI (W.1 + 1))).fr (C W.1) 3 = some w → w ≠ v := fun w hw e => by
                      subst e
                      exact hbd ((s4 w gdv gvL).symm.trans (r4 w hw gvL))
                    refine g_aload_n Z dX2_becomeJoin_123 rfl ?_
                    refine g_getr Z 2 0 rfl (by decide) in2 lk11 dX2_becomeJoin_124 (by assumption) (by assumption) (by assumption) ?_
                    refine g_aload_n Z dX2_becomeJoin_127 rfl ?_
                    refine g_dup Z dX2_becomeJoin_128 rfl ?_
                    refine g_geti Z 2 1 rfl (by decide) in2 lk18 dX2_becomeJoin_129 (by assumption) (by assumption) ?_
                    rw [hsu]
                    refine g_dup_x1 Z dX2_becomeJoin_132 rfl rfl ?_
                    refine g_iconst (v := 1) Z dX2_becomeJoin_133 (by decide) ?_
                    refine g_iadd Z dX2_becomeJoin_134 ?_
                    rw [nI_1]
                    refine g_puti Z 2 1 rfl (by decide) tyX2 tyX2_ok nmX2 rfl in2 lk18 dX2_becomeJoin_135 rfl rfl (by assumption) (by assumption) ?_
                    refine g_aald10 Z dX2_becomeJoin_138 (by assumption) (by assumption) (by exact vin_of hitl (by omega) (by decide)) (by rw [hclu]; exact hc) ?_
                    refine g_aload_n Z dX2_becomeJoin_139 rfl ?_
                    refine g_getr Z 2 0 rfl (by decide) in2 lk11 dX2_becomeJoin_140 (by assumption) (by assumption) (by assumption) ?_
                    refine g_iload Z dX2_becomeJoin_143 rfl ?_
                    refine g_aald10 Z dX2_becomeJoin_145 (by assumption) (by assumption) (by exact vin_of hdil (by omega) (by decide)) (by rw [hclj]; exact s1) ?_
                    refine g_cvV Z (f_X1_copyLowsOf F.l F.D F.cy F.nw _ (C W.1) (Cd j) v hcw2.1 hcw2.2.1 hcw2.ww hdq hdc hne2) 1 gX2_becomeJoin_X1_copyLowsOf rfl (by decide +kernel) (by rw [hRf, hRl]; decide) (by assumption) (κ := 1) (by assumption) rfl (by decide) rfl rfl (Nat.le_of_ble_eq_true rfl) dX2_becomeJoin_146 (by rw [hRc, hRs]; omega) (fun U hp => ?_)
                    obtain ⟨S1, w, R, hrm, hR, rfl⟩ := hp
                    refine g_nw Z (fun hnU => ?_)
                    rw [ek, ed, et] at hnU ⊢
                    obtain ⟨O3, u1, u2, u3⟩ := hspu.give (a := B.2 j) (by omega) hrm hk16 (fun q hq => (hR q hq).trans (ew q hq)) hnU
                    have hsvU := psh_sv (by omega) u3
                    have hO3 : ∀ q ∈ S.L, O3 q = O q := fun q hq => (u1 q (hkp.1 q hq)).trans (hO2 q hq)
                    have hkU := hkp.tr2 hO2 ((kpu.mono (fun q _ h => Or.inr h)).tr (u2.mono (fun q _ h => Or.inl h)))
                    refine g_iinc (c := 1) Z dX2_becomeJoin_149 rfl (by decide) (by decide) ?_
                    rw [nI_1]
                    refine g_goto Z 213 dX2_becomeJoin_152 (by decide) ?_
                    first | exact g_widen (by omega) (by omega) (g_lv (by (repeat (first | exact trivial | refine And.intro rfl ?_)); done) (j213 (i + 1) j T O2 W hO2 hkp hvT (by omega) (by omega) (by omega) hk12 hst.symm)) | exact g_widen (by omega) (by omega) (g_lv (by (repeat (first | exact trivial | refine And.intro rfl ?_)); done) (j213 i (j + 1) T O2 W hO2 hkp hvT (by omega) (by omega) (by omega) hk12 hst.symm)) | exact g_widen (by omega) (by omega) (g_lv (by (repeat (first | exact trivial | refine And.intro rfl ?_)); done) (j213 (i + 1) j _ O3 _ hO3 hkU hsvU (by omega) (by omega) (by omega) hk12 hst.symm)) | exact g_widen (by omega) (by omega) (g_lv (by (repeat (first | exact trivial | refine And.intro rfl ?_)); done) (j213 i (j + 1) _ O3 _ hO3 hkU hsvU (by omega) (by omega) (by omega) hk12 hst.symm)) | exact g_widen (by omega) (by omega) (g_lv (by (repeat (first | exact trivial | refine And.intro rfl ?_)); done) (j213 (i + 1) (j + 1) _ O3 _ hO3 hkU hsvU (by omega) (by omega) (by omega) hk12 hst.symm))
            · have hlt : kyA A i < kyA B j := ge_f (by omega) (by omega) h67
              have hiu : i < A.1 := ky_lt (by omega)
              have hst := (mg_a (x := x) (n := 13 - (k + 1)) hng hlt)
              rw [← hfu, hmg] at hst
              refine g_iload_n Z dX2_becomeJoin_70 rfl ?_
              refine g_if_eq Z 100 dX2_becomeJoin_71 (by decide) (fun h71 => ?_) (fun h71 => ?_)
              · rw [if_pos h71] at hst
                refine g_iinc (c := 1) Z dX2_becomeJoin_100 rfl (by decide) (by decide) ?_
                rw [nI_1]
                refine g_goto Z 213 dX2_becomeJoin_103 (by decide) ?_
                first | exact g_widen (by omega) (by omega) (g_lv (by (repeat (first | exact trivial | refine And.intro rfl ?_)); done) (j213 (i + 1) j T O2 W hO2 hkp hvT (by omega) (by omega) (by omega) hk12 hst.symm)) | exact g_widen (by omega) (by omega) (g_lv (by (repeat (first | exact trivial | refine And.intro rfl ?_)); done) (j213 i (j + 1) T O2 W hO2 hkp hvT (by omega) (by omega) (by omega) hk12 hst.symm)) | exact g_widen (by omega) (by omega) (g_lv (by (repeat (first | exact trivial | refine And.intro rfl ?_)); done) (j213 (i + 1) j _ O3 _ hO3 hkU hsvU (by omega) (by omega) (by omega) hk12 hst.symm)) | exact g_widen (by omega) (by omega) (g_lv (by (repeat (first | exact trivial | refine And.intro rfl ?_)); done) (j213 i (j + 1) _ O3 _ hO3 hkU hsvU (by omega) (by omega) (by omega) hk12 hst.symm)) | exact g_widen (by omega) (by omega) (g_lv (by (repeat (first | exact trivial | refine And.intro rfl ?_)); done) (j213 (i + 1) (j + 1) _ O3 _ hO3 hkU hsvU (by omega) (by omega) (by omega) hk12 hst.symm))
              · rw [if_neg h71] at hst
                obtain ⟨hspu, kpu⟩ := SP.used (m := W.1 + 1) hsp hu7
                have hoT2 : SV (T.setI s 1 (nI (W.1 + 1))) F.nw O2 ba a ia Ca A := SV.other (O := O2) (b := b) (s := s) (fun _ _ => rfl) (kpu.mono (fun q _ h => Or.inr h)) hnT hba os2 oa2 has haT
                obtain ⟨v, hdq, ek, hk16, ed, et, ew⟩ := hoT2.cv hiu
                obtain ⟨gdL, gdK, gdv, gvL, -, -⟩ := id hdq
                obtain ⟨z1, z2, z3, z4, z5, z6, z7⟩ := hoT2.2.2.2.2.2.1
                obtain ⟨y1, y2, y3, y4, y5, y6, y7⟩ := hspu.2.2.2.2.1
                obtain ⟨-, -, r3, r4⟩ := y5 W.1 (by omega)
                obtain ⟨s1, -, s3, s4⟩ := z5 i (by omega)
                have hcw2 := (y5 W.1 (by omega)).2.1
                have hdc : Ca i ≠ C W.1 := fun e => hba (by rw [← s3, e]; exact r3)
                have hne2 : ∀ w, (T.setI s 1 (nI (W.1 + 1))).fr (C W.1) 3 = some w → w ≠ v := fun w hw e => by
                  subst e
                  exact hba ((s4 w gdv gvL).symm.trans (r4 w hw gvL))
                refine g_aload_n Z dX2_becomeJoin_74 rfl ?_
                refine g_getr Z 2 0 rfl (by decide) in2 lk11 dX2_becomeJoin_75 (by assumption) (by assumption) (by assumption) ?_
                refine g_aload_n Z dX2_becomeJoin_78 rfl ?_
                refine g_dup Z dX2_becomeJoin_79 rfl ?_
                refine g_geti Z 2 1 rfl (by decide) in2 lk18 dX2_becomeJoin_80 (by assumption) (by assumption) ?_
                rw [hsu]
                refine g_dup_x1 Z dX2_becomeJoin_83 rfl rfl ?_
                refine g_iconst (v := 1) Z dX2_becomeJoin_84 (by decide) ?_
                refine g_iadd Z dX2_becomeJoin_85 ?_
                rw [nI_1]
                refine g_puti Z 2 1 rfl (by decide) tyX2 tyX2_ok nmX2 rfl in2 lk18 dX2_becomeJoin_86 rfl rfl (by assumption) (by assumption) ?_
                refine g_aald10 Z dX2_becomeJoin_89 (by assumption) (by assumption) (by exact vin_of hitl (by omega) (by decide)) (by rw [hclu]; exact hc) ?_
                refine g_aload_n Z dX2_becomeJoin_90 rfl ?_
                refine g_getr Z 2 0 rfl (by decide) in2 lk11 dX2_becomeJoin_91 (by assumption) (by assumption) (by assumption) ?_
                refine g_iload Z dX2_becomeJoin_94 rfl ?_
                refine g_aald10 Z dX2_becomeJoin_96 (by assumption) (by assumption) (by exact vin_of hail (by omega) (by decide)) (by rw [hcli]; exact s1) ?_
                refine g_cvV Z (f_X1_copyLowsOf F.l F.D F.cy F.nw _ (C W.1) (Ca i) v hcw2.1 hcw2.2.1 hcw2.ww hdq hdc hne2) 1 gX2_becomeJoin_X1_copyLowsOf rfl (by decide +kernel) (by rw [hRf, hRl]; decide) (by assumption) (κ := 1) (by assumption) rfl (by decide) rfl rfl (Nat.le_of_ble_eq_true rfl) dX2_becomeJoin_97 (by rw [hRc, hRs]; omega) (fun U hp => ?_)
                obtain ⟨S1, w, R, hrm, hR, rfl⟩ := hp
                refine g_nw Z (fun hnU => ?_)
                rw [ek, ed, et] at hnU ⊢
                obtain ⟨O3, u1, u2, u3⟩ := hspu.give (a := A.2 i) (by omega) hrm hk16 (fun q hq => (hR q hq).trans (ew q hq)) hnU
                have hsvU := psh_sv (by omega) u3
                have hO3 : ∀ q ∈ S.L, O3 q = O q := fun q hq => (u1 q (hkp.1 q hq)).trans (hO2 q hq)
                have hkU := hkp.tr2 hO2 ((kpu.mono (fun q _ h => Or.inr h)).tr (u2.mono (fun q _ h => Or.inl h)))
                refine g_iinc (c := 1) Z dX2_becomeJoin_100 rfl (by decide) (by decide) ?_
                rw [nI_1]
                refine g_goto Z 213 dX2_becomeJoin_103 (by decide) ?_
                first | exact g_widen (by omega) (by omega) (g_lv (by (repeat (first | exact trivial | refine And.intro rfl ?_)); done) (j213 (i + 1) j T O2 W hO2 hkp hvT (by omega) (by omega) (by omega) hk12 hst.symm)) | exact g_widen (by omega) (by omega) (g_lv (by (repeat (first | exact trivial | refine And.intro rfl ?_)); done) (j213 i (j + 1) T O2 W hO2 hkp hvT (by omega) (by omega) (by omega) hk12 hst.symm)) | exact g_widen (by omega) (by omega) (g_lv (by (repeat (first | exact trivial | refine And.intro rfl ?_)); done) (j213 (i + 1) j _ O3 _ hO3 hkU hsvU (by omega) (by omega) (by omega) hk12 hst.symm)) | exact g_widen (by omega) (by omega) (g_lv (by (repeat (first | exact trivial | refine And.intro rfl ?_)); done) (j213 i (j + 1) _ O3 _ hO3 hkU hsvU (by omega) (by omega) (by omega) hk12 hst.symm)) | exact g_widen (by omega) (by omega) (g_lv (by (repeat (first | exact trivial | refine And.intro rfl ?_)); done) (j213 (i + 1) (j + 1) _ O3 _ hO3 hkU hsvU (by omega) (by omega) (by omega) hk12 hst.symm))
          refine g_iload Z dX2_becomeJoin_46 rfl ?_
          refine g_ldc (v := 65536) Z dX2_becomeJoin_48 ct29 ?_
          refine g_icmp_ne Z 63 dX2_becomeJoin_50 (by decide) (fun h50 => ?_) (fun h50 => ?_)
          · have hne : ¬ (kyA A i = 65536 ∧ kyA B j = 65536) := fun q => h50 (by rw [q.1]; rfl)
            exact g_lv (by (repeat (first | exact trivial | refine And.intro rfl ?_)); done) (j63 hne)
          · refine g_iload Z dX2_becomeJoin_53 rfl ?_
            refine g_ldc (v := 65536) Z dX2_becomeJoin_55 ct29 ?_
            refine g_icmp_ne Z 63 dX2_becomeJoin_57 (by decide) (fun h57 => ?_) (fun h57 => ?_)
            · have hne : ¬ (kyA A i = 65536 ∧ kyA B j = 65536) := fun q => h57 (by rw [q.2]; rfl)
              exact g_lv (by (repeat (first | exact trivial | refine And.intro rfl ?_)); done) (j63 hne)
            · have ea : kyA A i = 65536 := (nI_eq (by omega) (by decide)).mp h50
              have eb : kyA B j = 65536 := (nI_eq (by omega) (by decide)).mp h57
              refine g_goto Z 219 dX2_becomeJoin_60 (by decide) ?_
              exact j219 (fun hg => hmg.symm.trans (mg_end hg ea eb)) (fun hg => absurd hg hng) _ (by (repeat (first | exact trivial | refine And.intro rfl ?_)); done)
  obtain ⟨e1, e2⟩ := SP.used (m := 0) (j := 0) (f := eS.2) ⟨hv.1, hv.2.1, hv.2.2.1, hv.2.2.2.1, hv.2.2.2.2.2.1, fun i hi => absurd hi (Nat.not_lt_zero _)⟩ (by omega)
  have e3 : SV (S.setI s 1 (nI 0)) F.nw O b s it C eS := SP.sv (by omega) e1 rfl (fun i hi => rfl)
  have hs := hv.at
  obtain ⟨hsL, hsK, hsit, hitL, hitK, hitl, hsu, hu7, hsw, hsr⟩ := id hs
  refine g_iconst (v := 0) Z dX2_becomeJoin_0 (by decide) ?_
  refine g_istore Z dX2_becomeJoin_1 (by decide) ?_
  refine g_iconst (v := 0) Z dX2_becomeJoin_3 (by decide) ?_
  refine g_istore Z dX2_becomeJoin_4 (by decide) ?_
  refine g_aload_n Z dX2_becomeJoin_6 rfl ?_
  refine g_iconst (v := 0) Z dX2_becomeJoin_7 (by decide) ?_
  refine g_puti Z 2 1 rfl (by decide) tyX2 tyX2_ok nmX2 rfl in2 lk18 dX2_becomeJoin_8 rfl rfl (by assumption) (by assumption) ?_
  refine g_iconst (v := 0) Z dX2_becomeJoin_11 (by decide) ?_
  refine g_istore Z dX2_becomeJoin_12 (by decide) ?_
  exact g_lv (by (repeat (first | exact trivial | refine And.intro rfl ?_)); done) (loop 13 0 0 0 _ O eS (by omega) ⟨fun _ _ => rfl, e2.mono (fun q _ h => Or.inr h), e3, by omega, by omega, by omega, by omega, rfl⟩)
