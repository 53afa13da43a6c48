/-- a set but for its used -/
def SetW (S : PS) (nw s it : Nat) : Prop := s ∈ S.L ∧ S.K s = 2 ∧ S.fr s 0 = some it ∧ it ∈ S.L ∧ S.K it = 10 ∧ S.ln it = 7 ∧ ∀ i, i < 7 → ∃ c, S.rr it i = some c ∧ Cw S nw c
theorem SetAt.sw {S : PS} {nw s it u : Nat} (h : SetAt S nw s it u) : SetW S nw s it := ⟨h.1, h.2.1, h.2.2.1, h.2.2.2.1, h.2.2.2.2.1, h.2.2.2.2.2.1, h.2.2.2.2.2.2.2.2.1⟩
theorem SetW.used {S : PS} {nw s it t : Nat} {v : Int32} (h : SetW S nw s it) : SetW (S.setI t 1 v) nw s it := by
  obtain ⟨h1, h2, h3, h4, h5, h6, h7⟩ := h
  refine ⟨h1, h2, h3, h4, h5, h6, fun i hi => ?_⟩
  obtain ⟨c, c1, c2⟩ := h7 i hi
  exact ⟨c, c1, cw_same (S := S) rfl rfl rfl (fun _ => ⟨rfl, up2_ne _ _ (Or.inr (by decide))⟩) c2⟩
theorem SetW.ex {S T : PS} {nw s it : Nat} (hE : Ex nw S T) (h : SetW S nw s it) : SetW T nw s it ∧ T.rr it = S.rr it ∧ T.fi s = S.fi s := by
  obtain ⟨h1, h2, h3, h4, h5, h6, h7⟩ := h
  obtain ⟨a1, a2, -, a4, -⟩ := hE.1 s h1
  obtain ⟨b1, b2, b3, -, b5⟩ := hE.1 it h4
  obtain ⟨a5, a6⟩ := a4 (by rw [h2]; decide)
  obtain ⟨-, b6⟩ := b5 (by rw [h5]; decide)
  refine ⟨⟨a1, a2.trans h2, by rw [a6]; exact h3, b1, b2.trans h5, b3.trans h6, fun i hi => ?_⟩, b6, a5⟩
  obtain ⟨c, c1, c2⟩ := h7 i hi
  exact ⟨c, by rw [b6]; exact c1, hE.2.1 c c2⟩
theorem cr_used {S : PS} {c t : Nat} {v : Int32} (h : Cr S c) : Cr (S.setI t 1 v) c := cr_same (S := S) rfl rfl rfl (fun _ => ⟨rfl, up2_ne _ _ (Or.inr (by decide))⟩) h
theorem cw_used {S : PS} {nw c t : Nat} {v : Int32} (h : Cw S nw c) : Cw (S.setI t 1 v) nw c := cw_same (S := S) rfl rfl rfl (fun _ => ⟨rfl, up2_ne _ _ (Or.inr (by decide))⟩) h
/-- a set's used is set, and behind it its containers are made good -/
theorem grow_post {nw s it u v : Nat} {S T : PS} (hs : SetAt S nw s it u) (hv : v ≤ 7) (hE : Ex nw (S.setI s 1 (nI v)) T) (hr : ∀ i, i < v → ∃ d, S.rr it i = some d ∧ Cr T d) : Es nw S T := by
  refine row_post (g := S.rr it) hs hv (by rw [rowR_self]; exact hE) (fun i hi => hs.cw hi) hr (fun u' hu' i hi => ?_)
  obtain ⟨d, d1, d2⟩ := hu' i hi
  exact ⟨d, d1, hE.2.2 d (cr_used d2)⟩
theorem key_n {j u : Nat} {r : Int32} (h : (j < u ∧ ∃ k : Nat, k < 65536 ∧ r = nI k) ∨ (u ≤ j ∧ r = nI 65536)) : ∃ n : Nat, n ≤ 65536 ∧ r = nI n ∧ (n < 65536 → j < u) := by
  rcases h with ⟨h1, k, h2, h3⟩ | ⟨h1, h2⟩
  · exact ⟨k, by omega, h3, fun _ => h1⟩
  · exact ⟨65536, Nat.le_refl _, h2, fun h => absurd h (by omega)⟩

theorem cf_step {nw it j c : Nat} {T U : PS} {f : Nat → Option Nat} (hrr : T.rr it = f) (hc : T.rr it j = some c) (hp : Ex nw T U ∧ Cr U c) (hr : ∀ i, i < j → ∃ d, f i = some d ∧ Cr T d) : ∀ i, i < j + 1 → ∃ d, f i = some d ∧ Cr U d := by
  intro i hi
  by_cases h : i = j
  · subst h; exact ⟨c, by rw [← hrr]; exact hc, hp.2⟩
  · obtain ⟨d, d1, d2⟩ := hr i (by omega)
    exact ⟨d, d1, hp.1.2.2 d d2⟩

set_option maxRecDepth 100000 in
set_option maxHeartbeats 2000000 in
/-- becomes what another set is -/
theorem c_X2_copyFrom (l : Launch) (D : va_G) (cy : Nat → ClassId) (nw : Nat) (S : PS) (s it u o io uo : Nat) (hs : SetAt S nw s it u) (ho : SetAt S nw o io uo) : kV l yX2_copyFrom wsX2_copyFrom 2 81 D cy nw [.ref s, .ref o] S (fun T => Es nw S T) 7 7168 := by
  refine enterV (cc := cX2_copyFrom) (nL := 3) (ret := none) (by decide +kernel) rfl (Nat.le_of_ble_eq_true rfl) ?_
  intro F Z hl hR hD hcy hnw hnm
  subst hl hD hcy hnw
  have hRf : F.R.frames = 2 := by rw [hR]
  have hRc : F.R.cells = 7 := by rw [hR]
  have hRs : F.R.slots = 7168 := by rw [hR]
  have hRl : F.R.locals = 81 := by rw [hR]
  have in2 : ∀ w ∈ u_ws RX2 TX2 2, w ∈ wsX2_copyFrom := by decide +kernel
  have lk11 : Cond.fieldLink RX2 11 (TX2 0).1 (TX2 0).2.1 (TX2 0).2.2.1 ∈ wsX2_copyFrom := by decide +kernel
  have lk18 : Cond.fieldLink RX2 18 (TX2 1).1 (TX2 1).2.1 (TX2 1).2.2.1 ∈ wsX2_copyFrom := by decide +kernel
  obtain ⟨hsL, hsK, hsit, hsiL, hsiK, hsil, hsu, hsu7, -, -⟩ := id hs
  obtain ⟨hoL, hoK, hoit, hoiL, hoiK, hoil, hou, hou7, -, -⟩ := id ho
  have loop : ∀ (n : Nat) (j : Nat) (T : PS), 8 - j < n → (Ex F.nw (S.setI s 1 (nI uo)) T ∧ j ≤ uo ∧ ∀ i, i < j → ∃ d, S.rr it i = some d ∧ Cr T d) → G F 3 T j (1024 * j) (QV F (fun T => Es F.nw S T) 7 7168) 10 [(0, .ref s), (1, .ref o), (2, .int (nI j))] [] := by
    intro n
    induction n with
    | zero => intros; omega
    | succ n ih =>
      intro j T hn ⟨hE, hj, hr⟩
      obtain ⟨⟨hsL2, hsK2, hsit2, hsiL2, hsiK2, hsil2, hsw2⟩, hrr, hfi⟩ := (hs.sw.used (t := s) (v := nI uo)).ex hE
      obtain ⟨⟨hoL2, hoK2, hoit2, hoiL2, hoiK2, hoil2, -⟩, hrro, -⟩ := (ho.sw.used (t := s) (v := nI uo)).ex hE
      have hus : T.fi s 1 = nI uo := by rw [hfi]; exact up2_self _ _ _ _
      refine g_iload_n Z dX2_copyFrom_10 rfl ?_
      refine g_aload_n Z dX2_copyFrom_11 rfl ?_
      refine g_geti Z 2 1 rfl (by decide) in2 lk18 dX2_copyFrom_12 (by assumption) (by assumption) ?_
      rw [hus]
      refine g_icmp_ge Z 39 dX2_copyFrom_15 (by decide) (fun h15 => ?_) (fun h15 => ?_)
      · exact g_vret Z dX2_copyFrom_39 (by omega) (by omega) (grow_post hs (by omega) hE (fun i hi => hr i (by have := ge_t (by omega) (by omega) h15; omega)))
      · have hlt : j < uo := ge_f (by omega) (by omega) h15
        obtain ⟨c, hc, hcw⟩ := hsw2 j (by omega)
        obtain ⟨d, hd, hdr⟩ := ho.cr hlt
        have hdT : Cr T d := hE.2.2 d (cr_used hdr)
        have hcl : (nI j).toNatClampNeg = j := nI_clamp (by omega)
        have hdd : T.rr io j = some d := by rw [hrro]; exact hd
        obtain ⟨hcL, hcK, -, -⟩ := id hcw
        refine g_aload_n Z dX2_copyFrom_18 rfl ?_
        refine g_getr Z 2 0 rfl (by decide) in2 lk11 dX2_copyFrom_19 (by assumption) (by assumption) (by assumption) ?_
        refine g_iload_n Z dX2_copyFrom_22 rfl ?_
        refine g_aald10 Z dX2_copyFrom_23 (by assumption) (by assumption) (by exact vin_of hsil2 (by omega) (by decide)) (by rw [hcl]; exact hc) ?_
        refine g_aload_n Z dX2_copyFrom_24 rfl ?_
        refine g_getr Z 2 0 rfl (by decide) in2 lk11 dX2_copyFrom_25 (by assumption) (by assumption) (by assumption) ?_
        refine g_iload_n Z dX2_copyFrom_28 rfl ?_
        refine g_aald10 Z dX2_copyFrom_29 (by assumption) (by assumption) (by exact vin_of hoil2 (by omega) (by decide)) (by rw [hcl]; exact hdd) ?_
        refine g_cvV Z (c_X1_copyLowsOf F.l F.D F.cy F.nw _ c d hcw hdT) 1 gX2_copyFrom_X1_copyLowsOf rfl (by decide +kernel) (by rw [hRf, hRl]; decide) (by assumption) (κ := 1) (by assumption) rfl (by decide) rfl rfl (Nat.le_of_ble_eq_true rfl) dX2_copyFrom_30 (by rw [hRc, hRs]; omega) (fun U hp => ?_)
        refine g_iinc (c := 1) Z dX2_copyFrom_33 rfl (by decide) (by decide) ?_
        rw [nI_1]
        refine g_goto Z 10 dX2_copyFrom_36 (by decide) ?_
        exact g_widen (Nat.le_refl _) (by omega) (g_lv (by (repeat (first | exact trivial | refine And.intro rfl ?_)); done) (ih (j + 1) U (by omega) ⟨hE.tr hp.1, by omega, fun i hi => cf_step hrr hc hp hr i hi⟩))
  refine g_aload_n Z dX2_copyFrom_0 rfl ?_
  refine g_aload_n Z dX2_copyFrom_1 rfl ?_
  refine g_geti Z 2 1 rfl (by decide) in2 lk18 dX2_copyFrom_2 (by assumption) (by assumption) ?_
  rw [hou]
  refine g_puti Z 2 1 rfl (by decide) tyX2 tyX2_ok nmX2 rfl in2 lk18 dX2_copyFrom_5 rfl rfl (by assumption) (by assumption) ?_
  refine g_iconst (v := 0) Z dX2_copyFrom_8 (by decide) ?_
  refine g_istore_n Z dX2_copyFrom_9 (by decide) ?_
  exact g_lv (by (repeat (first | exact trivial | refine And.intro rfl ?_)); done) (loop 9 0 _ (by omega) ⟨Ex.rf, by omega, fun i hi => by omega⟩)

theorem add_step {nw s it u c : Nat} {S T : PS} (hc : S.rr it u = some c) (hcr : Cr T c) (hs : SetAt S nw s it u) (hE : Ex nw (S.setI s 1 (nI (u + 1))) T) : ∀ i, i < u + 1 → ∃ d, S.rr it i = some d ∧ Cr T d := by
  intro i hi
  by_cases h : i = u
  · subst h; exact ⟨c, hc, hcr⟩
  · obtain ⟨d, d1, d2⟩ := hs.cr (i := i) (by omega)
    exact ⟨d, d1, hE.2.2 d (cr_used d2)⟩
theorem mix_step {nw s it u c : Nat} {S : PS} (hc : S.rr it u = some c) (hcr : Cr S c) (hs : SetAt S nw s it u) : ∀ i, i < u + 1 → ∃ d, S.rr it i = some d ∧ Cr S d := by
  intro i hi
  by_cases h : i = u
  · subst h; exact ⟨c, hc, hcr⟩
  · exact hs.cr (by omega)

set_option maxRecDepth 100000 in
set_option maxHeartbeats 2000000 in
/-- what two sets have together -/
theorem c_X2_becomeJoin (l : Launch) (D : va_G) (cy : Nat → ClassId) (nw : Nat) (S : PS) (s it u a ia va b ib vb : Nat) (hs0 : SetAt S nw s it u) (ha0 : SetAt S nw a ia va) (hb0 : SetAt S nw b ib vb) (x : Int32) : kI l yX2_becomeJoin wsX2_becomeJoin 3 81 D cy nw [.ref s, .int x, .ref a, .ref b] S (fun r T => (r = 0 ∨ r = 1) ∧ Es nw S T) 12 12288 := by
  refine enterI (cc := cX2_becomeJoin) (nL := 9) (ret := (some .boolean)) (by decide +kernel) rfl (Nat.le_of_ble_eq_true rfl) ?_
  intro F Z hl hR hD hcy hnw hnm
  subst hl hD hcy hnw
  have hRf : F.R.frames = 3 := by rw [hR]
  have hRc : F.R.cells = 12 := by rw [hR]
  have hRs : F.R.slots = 12288 := by rw [hR]
  have hRl : F.R.locals = 81 := by rw [hR]
  have in1 : ∀ w ∈ u_ws RX1 TX1 4, w ∈ wsX2_becomeJoin := by decide +kernel
  have in2 : ∀ w ∈ u_ws RX2 TX2 2, w ∈ wsX2_becomeJoin := by decide +kernel
  have lk11 : Cond.fieldLink RX2 11 (TX2 0).1 (TX2 0).2.1 (TX2 0).2.2.1 ∈ wsX2_becomeJoin := by decide +kernel
  have lk18 : Cond.fieldLink RX2 18 (TX2 1).1 (TX2 1).2.1 (TX2 1).2.2.1 ∈ wsX2_becomeJoin := by decide +kernel
  have lk63 : Cond.fieldLink RX2 63 (TX1 2).1 (TX1 2).2.1 (TX1 2).2.2.1 ∈ wsX2_becomeJoin := by decide +kernel
  have ct29 : Cond.constant RX2 29 (65536) ∈ wsX2_becomeJoin := by decide +kernel
  have loop : ∀ (n : Nat) (k i j : Nat) (T : PS), 12 - k < n → (Es F.nw S T ∧ k ≤ 12 ∧ i ≤ k ∧ j ≤ k) → G F 9 T k (1024 * k) (QI F (fun r T => (r = 0 ∨ r = 1) ∧ Es F.nw S T) 12 12288) 14 [(0, .ref s), (1, .int x), (2, .ref a), (3, .ref b), (4, .int (nI i)), (5, .int (nI j)), (6, .int (nI k))] [] := by
    intro n
    induction n with
    | zero => intros; omega
    | succ n ih =>
      intro k i j T hn ⟨hE, hk, hik, hjk⟩
      obtain ⟨its, us, hs⟩ := hE.2.2.2 s ⟨it, u, hs0⟩
      obtain ⟨ita, ua, ha⟩ := hE.2.2.2 a ⟨ia, va, ha0⟩
      obtain ⟨itb, ub, hb⟩ := hE.2.2.2 b ⟨ib, vb, hb0⟩
      obtain ⟨hsL, hsK, hsit, hsiL, hsiK, hsil, hsu, hsu7, -, -⟩ := id hs
      obtain ⟨haL, haK, hait, haiL, haiK, hail, hau, hau7, -, -⟩ := id ha
      obtain ⟨hbL, hbK, hbit, hbiL, hbiK, hbil, hbu, hbu7, -, -⟩ := id hb
      have j213 : ∀ (i2 j2 : Nat) (T2 : PS), Es F.nw S T2 → i2 ≤ k + 1 → j2 ≤ k + 1 → k < 12 → G F 9 T2 (k + 1) (1024 * k + 1024) (QI F (fun r T => (r = 0 ∨ r = 1) ∧ Es F.nw S T) 12 12288) 213 [(0, .ref s), (1, .int x), (2, .ref a), (3, .ref b), (4, .int (nI i2)), (5, .int (nI j2)), (6, .int (nI k))] [] := by
        intro i2 j2 T2 hE2 hi2 hj2 hk2
        refine g_iinc (c := 1) Z dX2_becomeJoin_213 rfl (by decide) (by decide) ?_
        rw [nI_1]
        refine g_goto Z 14 dX2_becomeJoin_216 (by decide) ?_
        exact g_widen (Nat.le_refl _) (by omega) (g_lv (by (repeat (first | exact trivial | refine And.intro rfl ?_)); done) (ih (k + 1) i2 j2 T2 (by omega) ⟨hE2, by omega, by omega, by omega⟩))
      refine g_iload Z dX2_becomeJoin_14 rfl ?_
      refine g_bipush (v := 12) Z dX2_becomeJoin_16 (by decide) ?_
      refine g_icmp_ge Z 219 dX2_becomeJoin_18 (by decide) (fun h18 => ?_) (fun h18 => ?_)
      · refine g_aload_n Z dX2_becomeJoin_219 rfl ?_
        refine g_geti Z 2 1 rfl (by decide) in2 lk18 dX2_becomeJoin_220 (by assumption) (by assumption) ?_
        rw [hsu]
        refine g_bipush (v := 6) Z dX2_becomeJoin_223 (by decide) ?_
        refine g_icmp_gt Z 232 dX2_becomeJoin_225 (by decide) (fun h225 => ?_) (fun h225 => ?_)
        · refine g_iconst (v := 0) Z dX2_becomeJoin_232 (by decide) ?_
          exact g_zret Z dX2_becomeJoin_233 (by rfl) (by omega) (by omega) (⟨by first | exact Or.inl rfl | exact Or.inr rfl, hE⟩)
        · refine g_iconst (v := 1) Z dX2_becomeJoin_228 (by decide) ?_
          refine g_goto Z 233 dX2_becomeJoin_229 (by decide) ?_
          exact g_zret Z dX2_becomeJoin_233 (by rfl) (by omega) (by omega) (⟨by first | exact Or.inl rfl | exact Or.inr rfl, hE⟩)
      · have hk12 : k < 12 := ge_f (by omega) (by decide) h18
        refine g_aload_n Z dX2_becomeJoin_21 rfl ?_
        refine g_geti Z 2 1 rfl (by decide) in2 lk18 dX2_becomeJoin_22 (by assumption) (by assumption) ?_
        rw [hsu]
        refine g_bipush (v := 6) Z dX2_becomeJoin_25 (by decide) ?_
        refine g_icmp_gt Z 219 dX2_becomeJoin_27 (by decide) (fun h27 => ?_) (fun h27 => ?_)
        · refine g_aload_n Z dX2_becomeJoin_219 rfl ?_
          refine g_geti Z 2 1 rfl (by decide) in2 lk18 dX2_becomeJoin_220 (by assumption) (by assumption) ?_
          rw [hsu]
          refine g_bipush (v := 6) Z dX2_becomeJoin_223 (by decide) ?_
          refine g_icmp_gt Z 232 dX2_becomeJoin_225 (by decide) (fun h225 => ?_) (fun h225 => ?_)
          · refine g_iconst (v := 0) Z dX2_becomeJoin_232 (by decide) ?_
            exact g_zret Z dX2_becomeJoin_233 (by rfl) (by omega) (by omega) (⟨by first | exact Or.inl rfl | exact Or.inr rfl, hE⟩)
          · refine g_iconst (v := 1) Z dX2_becomeJoin_228 (by decide) ?_
            refine g_goto Z 233 dX2_becomeJoin_229 (by decide) ?_
            exact g_zret Z dX2_becomeJoin_233 (by rfl) (by omega) (by omega) (⟨by first | exact Or.inl rfl | exact Or.inr rfl, hE⟩)
        · have hus6 : us ≤ 6 := gt_f (by omega) (by decide) h27
          obtain ⟨c, hc, hcw⟩ := hs.cw (i := us) (by omega)
          obtain ⟨hcL, hcK, -, -⟩ := id hcw
          have hclu : (nI us).toNatClampNeg = us := nI_clamp (by omega)
          have hcli : (nI i).toNatClampNeg = i := nI_clamp (by omega)
          have hclj : (nI j).toNatClampNeg = j := nI_clamp (by omega)
          refine g_aload_n Z dX2_becomeJoin_30 rfl ?_
          refine g_iload Z dX2_becomeJoin_31 rfl ?_
          refine g_cvI Z (c_X2_keyAt F.l F.D F.cy F.nw _ a ita ua ha i (by omega)) 1 gX2_becomeJoin_X2_keyAt rfl (by decide +kernel) (by rw [hRf, hRl]; decide) (by assumption) (κ := 2) (by assumption) rfl (by decide) rfl rfl (Nat.le_of_ble_eq_true rfl) dX2_becomeJoin_33 (by rw [hRc, hRs]; omega) (fun r U hp => ?_)
          obtain ⟨rfl, hp2⟩ := hp
          obtain ⟨na, hna, rfl, hia⟩ := key_n hp2
          refine g_istore Z dX2_becomeJoin_36 (by decide) ?_
          refine g_aload_n Z dX2_becomeJoin_38 rfl ?_
          refine g_iload Z dX2_becomeJoin_39 rfl ?_
          refine g_cvI Z (c_X2_keyAt F.l F.D F.cy F.nw _ b itb ub hb j (by omega)) 1 gX2_becomeJoin_X2_keyAt rfl (by decide +kernel) (by rw [hRf, hRl]; decide) (by assumption) (κ := 2) (by assumption) rfl (by decide) rfl rfl (Nat.le_of_ble_eq_true rfl) dX2_becomeJoin_41 (by rw [hRc, hRs]; omega) (fun r U hp => ?_)
          obtain ⟨rfl, hp3⟩ := hp
          obtain ⟨nb, hnb, rfl, hjb⟩ := key_n hp3
          refine g_istore Z dX2_becomeJoin_44 (by decide) ?_
          have j63 : ¬ (na = 65536 ∧ nb = 65536) → G F 9 T k (1024 * k) (QI F (fun r T => (r = 0 ∨ r = 1) ∧ Es F.nw S T) 12 12288) 63 [(0, .ref s), (1, .int x), (2, .ref a), (3, .ref b), (4, .int (nI i)), (5, .int (nI j)), (6, .int (nI k)), (7, .int (nI na)), (8, .int (nI nb))] [] := by
            intro hne
            refine g_iload Z dX2_becomeJoin_63 rfl ?_
            refine g_iload Z dX2_becomeJoin_65 rfl ?_
            refine g_icmp_ge Z 106 dX2_becomeJoin_67 (by decide) (fun h67 => ?_) (fun h67 => ?_)
            · have hge : nb ≤ na := ge_t (by omega) (by omega) h67
              refine g_iload Z dX2_becomeJoin_106 rfl ?_
              refine g_iload Z dX2_becomeJoin_108 rfl ?_
              refine g_icmp_ge Z 155 dX2_becomeJoin_110 (by decide) (fun h110 => ?_) (fun h110 => ?_)
              · have heq : na = nb := by have := ge_t (by omega) (by omega) h110; omega
                have hiu : i < ua := hia (by omega)
                have hju : j < ub := hjb (by omega)
                obtain ⟨d, hd, hdr⟩ := ha.cr hiu
                obtain ⟨e, he, her⟩ := hb.cr hju
                refine g_aload_n Z dX2_becomeJoin_155 rfl ?_
                refine g_getr Z 2 0 rfl (by decide) in2 lk11 dX2_becomeJoin_156 (by assumption) (by assumption) (by assumption) ?_
                refine g_aload_n Z dX2_becomeJoin_159 rfl ?_
                refine g_geti Z 2 1 rfl (by decide) in2 lk18 dX2_becomeJoin_160 (by assumption) (by assumption) ?_
                rw [hsu]
                refine g_aald10 Z dX2_becomeJoin_163 (by assumption) (by assumption) (by exact vin_of hsil (by omega) (by decide)) (by rw [hclu]; exact hc) ?_
                refine g_iload_n Z dX2_becomeJoin_164 rfl ?_
                refine g_aload_n Z dX2_becomeJoin_165 rfl ?_
                refine g_getr Z 2 0 rfl (by decide) in2 lk11 dX2_becomeJoin_166 (by assumption) (by assumption) (by assumption) ?_
                refine g_iload Z dX2_becomeJoin_169 rfl ?_
                refine g_iinc (c := 1) Z dX2_becomeJoin_171 rfl (by decide) (by decide) ?_
                rw [nI_1]
                refine g_aald10 Z dX2_becomeJoin_174 (by assumption) (by assumption) (by exact vin_of hail (by omega) (by decide)) (by rw [hcli]; exact hd) ?_
                refine g_aload_n Z dX2_becomeJoin_175 rfl ?_
                refine g_getr Z 2 0 rfl (by decide) in2 lk11 dX2_becomeJoin_176 (by assumption) (by assumption) (by assumption) ?_
                refine g_iload Z dX2_becomeJoin_179 rfl ?_
                refine g_iinc (c := 1) Z dX2_becomeJoin_181 rfl (by decide) (by decide) ?_
                rw [nI_1]
                refine g_aald10 Z dX2_becomeJoin_184 (by assumption) (by assumption) (by exact vin_of hbil (by omega) (by decide)) (by rw [hclj]; exact he) ?_
                refine g_cvV Z (c_X1_becomeMix F.l F.D F.cy F.nw _ c d e hcw hdr her _) 3 gX2_becomeJoin_X1_becomeMix rfl (by decide +kernel) (by rw [hRf, hRl]; decide) (by assumption) (κ := 1) (by assumption) rfl (by decide) rfl rfl (Nat.le_of_ble_eq_true rfl) dX2_becomeJoin_185 (by rw [hRc, hRs]; omega) (fun V hp => ?_)
                obtain ⟨hEx, hcr⟩ := hp
                have hs3 := hs.ex hEx
                obtain ⟨hsL3, hsK3, hsit3, hsiL3, hsiK3, hsil3, hsu3, -, -, -⟩ := id hs3
                have hc3 : V.rr its us = some c := by rw [((hEx.1 its hsiL).2.2.2.2 (by rw [hsiK]; decide)).2]; exact hc
                obtain ⟨hcL3, hcK3, -, -⟩ := id hcr
                obtain ⟨-, hE3⟩ := used_set hs3 (v := us + 1) (by omega) (fun q hq => mix_step hc3 hcr hs3 q hq)
                refine g_aload_n Z dX2_becomeJoin_188 rfl ?_
                refine g_getr Z 2 0 rfl (by decide) in2 lk11 dX2_becomeJoin_189 (by assumption) (by assumption) (by assumption) ?_
                refine g_aload_n Z dX2_becomeJoin_192 rfl ?_
                refine g_geti Z 2 1 rfl (by decide) in2 lk18 dX2_becomeJoin_193 (by assumption) (by assumption) ?_
                rw [hsu3]
                refine g_aald10 Z dX2_becomeJoin_196 (by assumption) (by assumption) (by exact vin_of hsil3 (by omega) (by decide)) (by rw [hclu]; exact hc3) ?_
                refine g_geti Z 1 2 rfl (by decide) in1 lk63 dX2_becomeJoin_197 (by assumption) (by assumption) ?_
                refine g_if_le Z 213 dX2_becomeJoin_200 (by decide) (fun h200 => ?_) (fun h200 => ?_)
                · first | exact g_lv (by (repeat (first | exact trivial | refine And.intro rfl ?_)); done) (j213 (i + 1) (j + 1) V (hE.tr hEx.es) (by omega) (by omega) hk12) | exact g_lv (by (repeat (first | exact trivial | refine And.intro rfl ?_)); done) (j213 (i + 1) (j + 1) _ ((hE.tr hEx.es).tr hE3) (by omega) (by omega) hk12)
                · refine g_aload_n Z dX2_becomeJoin_203 rfl ?_
                  refine g_dup Z dX2_becomeJoin_204 rfl ?_
                  refine g_geti Z 2 1 rfl (by decide) in2 lk18 dX2_becomeJoin_205 (by assumption) (by assumption) ?_
                  rw [hsu3]
                  refine g_iconst (v := 1) Z dX2_becomeJoin_208 (by decide) ?_
                  refine g_iadd Z dX2_becomeJoin_209 ?_
                  rw [nI_1]
                  refine g_puti Z 2 1 rfl (by decide) tyX2 tyX2_ok nmX2 rfl in2 lk18 dX2_becomeJoin_210 rfl rfl (by assumption) (by assumption) ?_
                  first | exact g_lv (by (repeat (first | exact trivial | refine And.intro rfl ?_)); done) (j213 (i + 1) (j + 1) V (hE.tr hEx.es) (by omega) (by omega) hk12) | exact g_lv (by (repeat (first | exact trivial | refine And.intro rfl ?_)); done) (j213 (i + 1) (j + 1) _ ((hE.tr hEx.es).tr hE3) (by omega) (by omega) hk12)
              · have hlt : nb < na := ge_f (by omega) (by omega) h110
                have hju : j < ub := hjb (by omega)
                obtain ⟨d, hd, hdr⟩ := hb.cr hju
                obtain ⟨hdL, hdK, -, -⟩ := id hdr
                refine g_iload_n Z dX2_becomeJoin_113 rfl ?_
                refine g_iconst (v := 1) Z dX2_becomeJoin_114 (by decide) ?_
                refine g_icmp_eq Z 123 dX2_becomeJoin_115 (by decide) (fun h115 => ?_) (fun h115 => ?_)
                · refine g_aload_n Z dX2_becomeJoin_123 rfl ?_
                  refine g_getr Z 2 0 rfl (by decide) in2 lk11 dX2_becomeJoin_124 (by assumption) (by assumption) (by assumption) ?_
                  refine g_aload_n Z dX2_becomeJoin_127 rfl ?_
                  refine g_dup Z dX2_becomeJoin_128 rfl ?_
                  refine g_geti Z 2 1 rfl (by decide) in2 lk18 dX2_becomeJoin_129 (by assumption) (by assumption) ?_
                  rw [hsu]
                  refine g_dup_x1 Z dX2_becomeJoin_132 rfl rfl ?_
                  refine g_iconst (v := 1) Z dX2_becomeJoin_133 (by decide) ?_
                  refine g_iadd Z dX2_becomeJoin_134 ?_
                  rw [nI_1]
                  refine g_puti Z 2 1 rfl (by decide) tyX2 tyX2_ok nmX2 rfl in2 lk18 dX2_becomeJoin_135 rfl rfl (by assumption) (by assumption) ?_
                  refine g_aald10 Z dX2_becomeJoin_138 (by assumption) (by assumption) (by exact vin_of hsil (by omega) (by decide)) (by rw [hclu]; exact hc) ?_
                  refine g_aload_n Z dX2_becomeJoin_139 rfl ?_
                  refine g_getr Z 2 0 rfl (by decide) in2 lk11 dX2_becomeJoin_140 (by assumption) (by assumption) (by assumption) ?_
                  refine g_iload Z dX2_becomeJoin_143 rfl ?_
                  refine g_aald10 Z dX2_becomeJoin_145 (by assumption) (by assumption) (by exact vin_of hbil (by omega) (by decide)) (by rw [hclj]; exact hd) ?_
                  refine g_cvV Z (c_X1_copyLowsOf F.l F.D F.cy F.nw _ c d (cw_used hcw) (cr_used hdr)) 1 gX2_becomeJoin_X1_copyLowsOf rfl (by decide +kernel) (by rw [hRf, hRl]; decide) (by assumption) (κ := 1) (by assumption) rfl (by decide) rfl rfl (Nat.le_of_ble_eq_true rfl) dX2_becomeJoin_146 (by rw [hRc, hRs]; omega) (fun V hp => ?_)
                  obtain ⟨hEx, hcr⟩ := hp
                  have hE2 : Es F.nw T V := grow_post hs (by omega) hEx (fun q hq => add_step hc hcr hs hEx q hq)
                  refine g_iinc (c := 1) Z dX2_becomeJoin_149 rfl (by decide) (by decide) ?_
                  rw [nI_1]
                  refine g_goto Z 213 dX2_becomeJoin_152 (by decide) ?_
                  first | exact g_widen (by omega) (by omega) (g_lv (by (repeat (first | exact trivial | refine And.intro rfl ?_)); done) (j213 i (j + 1) T hE (by omega) (by omega) hk12)) | exact g_lv (by (repeat (first | exact trivial | refine And.intro rfl ?_)); done) (j213 i (j + 1) V (hE.tr hE2) (by omega) (by omega) hk12)
                · refine g_iload_n Z dX2_becomeJoin_118 rfl ?_
                  refine g_iconst (v := 2) Z dX2_becomeJoin_119 (by decide) ?_
                  refine g_icmp_ne Z 149 dX2_becomeJoin_120 (by decide) (fun h120 => ?_) (fun h120 => ?_)
                  · refine g_iinc (c := 1) Z dX2_becomeJoin_149 rfl (by decide) (by decide) ?_
                    rw [nI_1]
                    refine g_goto Z 213 dX2_becomeJoin_152 (by decide) ?_
                    first | exact g_widen (by omega) (by omega) (g_lv (by (repeat (first | exact trivial | refine And.intro rfl ?_)); done) (j213 i (j + 1) T hE (by omega) (by omega) hk12)) | exact g_lv (by (repeat (first | exact trivial | refine And.intro rfl ?_)); done) (j213 i (j + 1) V (hE.tr hE2) (by omega) (by omega) hk12)
                  · refine g_aload_n Z dX2_becomeJoin_123 rfl ?_
                    refine g_getr Z 2 0 rfl (by decide) in2 lk11 dX2_becomeJoin_124 (by assumption) (by assumption) (by assumption) ?_
                    refine g_aload_n Z dX2_becomeJoin_127 rfl ?_
                    refine g_dup Z dX2_becomeJoin_128 rfl ?_
                    refine g_geti Z 2 1 rfl (by decide) in2 lk18 dX2_becomeJoin_129 (by assumption) (by assumption) ?_
                    rw [hsu]
                    refine g_dup_x1 Z dX2_becomeJoin_132 rfl rfl ?_
                    refine g_iconst (v := 1) Z dX2_becomeJoin_133 (by decide) ?_
                    refine g_iadd Z dX2_becomeJoin_134 ?_
                    rw [nI_1]
                    refine g_puti Z 2 1 rfl (by decide) tyX2 tyX2_ok nmX2 rfl in2 lk18 dX2_becomeJoin_135 rfl rfl (by assumption) (by assumption) ?_
                    refine g_aald10 Z dX2_becomeJoin_138 (by assumption) (by assumption) (by exact vin_of hsil (by omega) (by decide)) (by rw [hclu]; exact hc) ?_
                    refine g_aload_n Z dX2_becomeJoin_139 rfl ?_
                    refine g_getr Z 2 0 rfl (by decide) in2 lk11 dX2_becomeJoin_140 (by assumption) (by assumption) (by assumption) ?_
                    refine g_iload Z dX2_becomeJoin_143 rfl ?_
                    refine g_aald10 Z dX2_becomeJoin_145 (by assumption) (by assumption) (by exact vin_of hbil (by omega) (by decide)) (by rw [hclj]; exact hd) ?_
                    refine g_cvV Z (c_X1_copyLowsOf F.l F.D F.cy F.nw _ c d (cw_used hcw) (cr_used hdr)) 1 gX2_becomeJoin_X1_copyLowsOf rfl (by decide +kernel) (by rw [hRf, hRl]; decide) (by assumption) (κ := 1) (by assumption) rfl (by decide) rfl rfl (Nat.le_of_ble_eq_true rfl) dX2_becomeJoin_146 (by rw [hRc, hRs]; omega) (fun V hp => ?_)
                    obtain ⟨hEx, hcr⟩ := hp
                    have hE2 : Es F.nw T V := grow_post hs (by omega) hEx (fun q hq => add_step hc hcr hs hEx q hq)
                    refine g_iinc (c := 1) Z dX2_becomeJoin_149 rfl (by decide) (by decide) ?_
                    rw [nI_1]
                    refine g_goto Z 213 dX2_becomeJoin_152 (by decide) ?_
                    first | exact g_widen (by omega) (by omega) (g_lv (by (repeat (first | exact trivial | refine And.intro rfl ?_)); done) (j213 i (j + 1) T hE (by omega) (by omega) hk12)) | exact g_lv (by (repeat (first | exact trivial | refine And.intro rfl ?_)); done) (j213 i (j + 1) V (hE.tr hE2) (by omega) (by omega) hk12)
            · have hlt : na < nb := ge_f (by omega) (by omega) h67
              have hiu : i < ua := hia (by omega)
              obtain ⟨d, hd, hdr⟩ := ha.cr hiu
              obtain ⟨hdL, hdK, -, -⟩ := id hdr
              refine g_iload_n Z dX2_becomeJoin_70 rfl ?_
              refine g_if_eq Z 100 dX2_becomeJoin_71 (by decide) (fun h71 => ?_) (fun h71 => ?_)
              · refine g_iinc (c := 1) Z dX2_becomeJoin_100 rfl (by decide) (by decide) ?_
                rw [nI_1]
                refine g_goto Z 213 dX2_becomeJoin_103 (by decide) ?_
                first | exact g_widen (by omega) (by omega) (g_lv (by (repeat (first | exact trivial | refine And.intro rfl ?_)); done) (j213 (i + 1) j T hE (by omega) (by omega) hk12)) | exact g_lv (by (repeat (first | exact trivial | refine And.intro rfl ?_)); done) (j213 (i + 1) j V (hE.tr hE2) (by omega) (by omega) hk12)
              · refine g_aload_n Z dX2_becomeJoin_74 rfl ?_
                refine g_getr Z 2 0 rfl (by decide) in2 lk11 dX2_becomeJoin_75 (by assumption) (by assumption) (by assumption) ?_
                refine g_aload_n Z dX2_becomeJoin_78 rfl ?_
                refine g_dup Z dX2_becomeJoin_79 rfl ?_
                refine g_geti Z 2 1 rfl (by decide) in2 lk18 dX2_becomeJoin_80 (by assumption) (by assumption) ?_
                rw [hsu]
                refine g_dup_x1 Z dX2_becomeJoin_83 rfl rfl ?_
                refine g_iconst (v := 1) Z dX2_becomeJoin_84 (by decide) ?_
                refine g_iadd Z dX2_becomeJoin_85 ?_
                rw [nI_1]
                refine g_puti Z 2 1 rfl (by decide) tyX2 tyX2_ok nmX2 rfl in2 lk18 dX2_becomeJoin_86 rfl rfl (by assumption) (by assumption) ?_
                refine g_aald10 Z dX2_becomeJoin_89 (by assumption) (by assumption) (by exact vin_of hsil (by omega) (by decide)) (by rw [hclu]; exact hc) ?_
                refine g_aload_n Z dX2_becomeJoin_90 rfl ?_
                refine g_getr Z 2 0 rfl (by decide) in2 lk11 dX2_becomeJoin_91 (by assumption) (by assumption) (by assumption) ?_
                refine g_iload Z dX2_becomeJoin_94 rfl ?_
                refine g_aald10 Z dX2_becomeJoin_96 (by assumption) (by assumption) (by exact vin_of hail (by omega) (by decide)) (by rw [hcli]; exact hd) ?_
                refine g_cvV Z (c_X1_copyLowsOf F.l F.D F.cy F.nw _ c d (cw_used hcw) (cr_used hdr)) 1 gX2_becomeJoin_X1_copyLowsOf rfl (by decide +kernel) (by rw [hRf, hRl]; decide) (by assumption) (κ := 1) (by assumption) rfl (by decide) rfl rfl (Nat.le_of_ble_eq_true rfl) dX2_becomeJoin_97 (by rw [hRc, hRs]; omega) (fun V hp => ?_)
                obtain ⟨hEx, hcr⟩ := hp
                have hE2 : Es F.nw T V := grow_post hs (by omega) hEx (fun q hq => add_step hc hcr hs hEx q hq)
                refine g_iinc (c := 1) Z dX2_becomeJoin_100 rfl (by decide) (by decide) ?_
                rw [nI_1]
                refine g_goto Z 213 dX2_becomeJoin_103 (by decide) ?_
                first | exact g_widen (by omega) (by omega) (g_lv (by (repeat (first | exact trivial | refine And.intro rfl ?_)); done) (j213 (i + 1) j T hE (by omega) (by omega) hk12)) | exact g_lv (by (repeat (first | exact trivial | refine And.intro rfl ?_)); done) (j213 (i + 1) j V (hE.tr hE2) (by omega) (by omega) hk12)
          refine g_iload Z dX2_becomeJoin_46 rfl ?_
          refine g_ldc (v := 65536) Z dX2_becomeJoin_48 ct29 ?_
          refine g_icmp_ne Z 63 dX2_becomeJoin_50 (by decide) (fun h50 => ?_) (fun h50 => ?_)
          · first | exact g_lv (by (repeat (first | exact trivial | refine And.intro rfl ?_)); done) (j63 (fun h => h50 (congrArg nI h.1))) | exact g_lv (by (repeat (first | exact trivial | refine And.intro rfl ?_)); done) (j63 (fun h => h57 (congrArg nI h.2)))
          · refine g_iload Z dX2_becomeJoin_53 rfl ?_
            refine g_ldc (v := 65536) Z dX2_becomeJoin_55 ct29 ?_
            refine g_icmp_ne Z 63 dX2_becomeJoin_57 (by decide) (fun h57 => ?_) (fun h57 => ?_)
            · first | exact g_lv (by (repeat (first | exact trivial | refine And.intro rfl ?_)); done) (j63 (fun h => h50 (congrArg nI h.1))) | exact g_lv (by (repeat (first | exact trivial | refine And.intro rfl ?_)); done) (j63 (fun h => h57 (congrArg nI h.2)))
            · refine g_goto Z 219 dX2_becomeJoin_60 (by decide) ?_
              refine g_aload_n Z dX2_becomeJoin_219 rfl ?_
              refine g_geti Z 2 1 rfl (by decide) in2 lk18 dX2_becomeJoin_220 (by assumption) (by assumption) ?_
              rw [hsu]
              refine g_bipush (v := 6) Z dX2_becomeJoin_223 (by decide) ?_
              refine g_icmp_gt Z 232 dX2_becomeJoin_225 (by decide) (fun h225 => ?_) (fun h225 => ?_)
              · refine g_iconst (v := 0) Z dX2_becomeJoin_232 (by decide) ?_
                exact g_zret Z dX2_becomeJoin_233 (by rfl) (by omega) (by omega) (⟨by first | exact Or.inl rfl | exact Or.inr rfl, hE⟩)
              · refine g_iconst (v := 1) Z dX2_becomeJoin_228 (by decide) ?_
                refine g_goto Z 233 dX2_becomeJoin_229 (by decide) ?_
                exact g_zret Z dX2_becomeJoin_233 (by rfl) (by omega) (by omega) (⟨by first | exact Or.inl rfl | exact Or.inr rfl, hE⟩)
  obtain ⟨hs1, hE1⟩ := used_set hs0 (v := 0) (by omega) (fun i hi => by omega)
  have hsL0 := hs0.1
  have hsK0 := hs0.2.1
  refine g_iconst (v := 0) Z dX2_becomeJoin_0 (by decide) ?_
  refine g_istore Z dX2_becomeJoin_1 (by decide) ?_
  refine g_iconst (v := 0) Z dX2_becomeJoin_3 (by decide) ?_
  refine g_istore Z dX2_becomeJoin_4 (by decide) ?_
  refine g_aload_n Z dX2_becomeJoin_6 rfl ?_
  refine g_iconst (v := 0) Z dX2_becomeJoin_7 (by decide) ?_
  refine g_puti Z 2 1 rfl (by decide) tyX2 tyX2_ok nmX2 rfl in2 lk18 dX2_becomeJoin_8 rfl rfl (by assumption) (by assumption) ?_
  refine g_iconst (v := 0) Z dX2_becomeJoin_11 (by decide) ?_
  refine g_istore Z dX2_becomeJoin_12 (by decide) ?_
  exact g_lv (by (repeat (first | exact trivial | refine And.intro rfl ?_)); done) (loop 13 0 0 0 _ (by omega) ⟨hE1, by omega, by omega, by omega⟩)
