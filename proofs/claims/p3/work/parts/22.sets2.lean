set_option maxRecDepth 100000 in
set_option maxHeartbeats 800000 in
/-- the container of a key, made if there is none -/
theorem c_X2_findOrMake (l : Launch) (D : va_G) (cy : Nat → ClassId) (nw : Nat) (S : PS) (s it u : Nat) (hs : SetAt S nw s it u) (key : Nat) (hk : key < 65536) : kR l yX2_findOrMake wsX2_findOrMake 2 45 D cy nw [.ref s, .int (nI key)] S (fun r T => (r = none ∧ S = T) ∨ ∃ c, r = some c ∧ Cr T c ∧ Es nw S T) 1 1024 := by
  refine enterR (cc := cX2_findOrMake) (nL := 5) (ret := (some (.object "RoaringIndex$Container"))) (by decide +kernel) rfl (Nat.le_of_ble_eq_true rfl) ?_
  intro F Z hl hR hD hcy hnw hnm
  subst hl hD hcy hnw
  have hRf : F.R.frames = 2 := by rw [hR]
  have hRc : F.R.cells = 1 := by rw [hR]
  have hRs : F.R.slots = 1024 := by rw [hR]
  have hRl : F.R.locals = 45 := by rw [hR]
  have in2 : ∀ w ∈ u_ws RX2 TX2 2, w ∈ wsX2_findOrMake := by decide +kernel
  have lk11 : Cond.fieldLink RX2 11 (TX2 0).1 (TX2 0).2.1 (TX2 0).2.2.1 ∈ wsX2_findOrMake := by decide +kernel
  have lk18 : Cond.fieldLink RX2 18 (TX2 1).1 (TX2 1).2.1 (TX2 1).2.2.1 ∈ wsX2_findOrMake := by decide +kernel
  obtain ⟨hsL, hsK, hsit, hitL, hitK, hitl, hsu, hu7, hsw, hsr⟩ := id hs
  refine g_aload_n Z dX2_findOrMake_0 rfl ?_
  refine g_iload_n Z dX2_findOrMake_1 rfl ?_
  refine g_cvI Z (c_X2_indexOf F.l F.D F.cy F.nw _ s it u hs _) 1 gX2_findOrMake_X2_indexOf rfl (by decide +kernel) (by rw [hRf, hRl]; decide) (by assumption) (κ := 2) (by assumption) rfl (by decide) rfl rfl (Nat.le_of_ble_eq_true rfl) dX2_findOrMake_2 (by rw [hRc, hRs]; omega) (fun r T hp => ?_)
  obtain ⟨rfl, j, hj, rfl⟩ := hp
  refine g_istore_n Z dX2_findOrMake_5 (by decide) ?_
  refine g_aload_n Z dX2_findOrMake_6 rfl ?_
  refine g_iload_n Z dX2_findOrMake_7 rfl ?_
  refine g_cvI Z (c_X2_keyAt F.l F.D F.cy F.nw _ s it u hs j (by omega)) 1 gX2_findOrMake_X2_keyAt rfl (by decide +kernel) (by rw [hRf, hRl]; decide) (by assumption) (κ := 2) (by assumption) rfl (by decide) rfl rfl (Nat.le_of_ble_eq_true rfl) dX2_findOrMake_8 (by rw [hRc, hRs]; omega) (fun r T hp => ?_)
  obtain ⟨rfl, hp2⟩ := hp
  refine g_iload_n Z dX2_findOrMake_11 rfl ?_
  refine g_icmp_ne Z 22 dX2_findOrMake_12 (by decide) (fun h12 => ?_) (fun h12 => ?_)
  · refine g_aload_n Z dX2_findOrMake_22 rfl ?_
    refine g_geti Z 2 1 rfl (by decide) in2 lk18 dX2_findOrMake_23 (by assumption) (by assumption) ?_
    rw [hsu]
    refine g_bipush (v := 6) Z dX2_findOrMake_26 (by decide) ?_
    refine g_icmp_lt Z 33 dX2_findOrMake_28 (by decide) (fun h28 => ?_) (fun h28 => ?_)
    · have hu6 : u < 6 := lt_t (by omega) (by decide) h28
      obtain ⟨c, hc, hcw⟩ := hs.cw (i := u) (by omega)
      obtain ⟨hcL, hcK, -, -⟩ := id hcw
      have hclu : (nI u).toNatClampNeg = u := nI_clamp (by omega)
      refine g_aload_n Z dX2_findOrMake_33 rfl ?_
      refine g_getr Z 2 0 rfl (by decide) in2 lk11 dX2_findOrMake_34 (by assumption) (by assumption) (by assumption) ?_
      refine g_aload_n Z dX2_findOrMake_37 rfl ?_
      refine g_geti Z 2 1 rfl (by decide) in2 lk18 dX2_findOrMake_38 (by assumption) (by assumption) ?_
      rw [hsu]
      refine g_aald10 Z dX2_findOrMake_41 (by assumption) (by assumption) (by exact vin_of hitl (by omega) (by decide)) (by rw [hclu]; exact hc) ?_
      refine g_astore_n Z dX2_findOrMake_42 (by decide) ?_
      refine g_aload_n Z dX2_findOrMake_43 rfl ?_
      refine g_geti Z 2 1 rfl (by decide) in2 lk18 dX2_findOrMake_44 (by assumption) (by assumption) ?_
      rw [hsu]
      refine g_istore Z dX2_findOrMake_47 (by decide) ?_
      have loop : ∀ (n k : Nat), k < n → (j ≤ k ∧ k ≤ u) → G F 5 (S.rowR it (shf (S.rr it) k u)) 0 0 (QR F (fun r T => (r = none ∧ S = T) ∨ ∃ c, r = some c ∧ Cr T c ∧ Es F.nw S T) 1 1024) 49 [(0, .ref s), (1, .int (nI key)), (2, .int (nI j)), (3, .ref c), (4, .int (nI k))] [] := by
        intro n
        induction n with
        | zero => intros; omega
        | succ n ih =>
          intro k hn ⟨hjk, hku⟩
          refine g_iload Z dX2_findOrMake_49 rfl ?_
          refine g_iload_n Z dX2_findOrMake_51 rfl ?_
          refine g_icmp_le Z 77 dX2_findOrMake_52 (by decide) (fun h52 => ?_) (fun h52 => ?_)
          · have hk : k = j := by have := le_t (by omega) (by omega) h52; omega
            subst hk
            refine g_aload_n Z dX2_findOrMake_77 rfl ?_
            refine g_getr Z 2 0 rfl (by decide) in2 lk11 dX2_findOrMake_78 (by assumption) (by assumption) (by assumption) ?_
            refine g_iload_n Z dX2_findOrMake_81 rfl ?_
            refine g_aload_n Z dX2_findOrMake_82 rfl ?_
            refine g_aast10 Z dX2_findOrMake_83 (by assumption) (by assumption) (by exact vin_of hitl (by omega) (by decide)) (by assumption) (by assumption) ?_
            rw [show (nI k).toNatClampNeg = k from nI_clamp (by omega), rowR_step]
            refine g_aload_n Z dX2_findOrMake_84 rfl ?_
            refine g_dup Z dX2_findOrMake_85 rfl ?_
            refine g_geti Z 2 1 rfl (by decide) in2 lk18 dX2_findOrMake_86 (by assumption) (by assumption) ?_
            rw [show PS.fi (PS.rowR S it _) s 1 = nI u from hsu]
            refine g_iconst (v := 1) Z dX2_findOrMake_89 (by decide) ?_
            refine g_iadd Z dX2_findOrMake_90 ?_
            rw [nI_1]
            refine g_puti Z 2 1 rfl (by decide) tyX2 tyX2_ok nmX2 rfl in2 lk18 dX2_findOrMake_91 rfl rfl (by assumption) (by assumption) ?_
            refine g_aload_n Z dX2_findOrMake_94 rfl ?_
            refine g_iload_n Z dX2_findOrMake_95 rfl ?_
            have hcw2 : Cw ((S.rowR it (va_up (shf (S.rr it) k u) k (some c))).setI s 1 (nI (u + 1))) F.nw c := cw_same (S := S) rfl rfl rfl (fun _ => ⟨rfl, up2_ne _ _ (Or.inr (by decide))⟩) hcw
            refine g_cvV Z (c_X1_begin F.l F.D F.cy F.nw _ c hcw2 key hk) 1 gX2_findOrMake_X1_begin rfl (by decide +kernel) (by rw [hRf, hRl]; decide) (by assumption) (κ := 1) (by assumption) rfl (by decide) rfl rfl (Nat.le_of_ble_eq_true rfl) dX2_findOrMake_96 (by rw [hRc, hRs]; omega) (fun T hp => ?_)
            obtain ⟨hE, hcr⟩ := hp
            refine g_aload_n Z dX2_findOrMake_99 rfl ?_
            exact g_aret Z rfl (Or.inl ⟨_, rfl⟩) dX2_findOrMake_100 (by omega) (by omega) (Or.inr ⟨c, rfl, hcr, fom_post hs (by omega) (by omega) hc hE hcr⟩)
          · have hk : j < k := le_f (by omega) (by omega) h52
            obtain ⟨v, hv, hvw⟩ := hs.cw (i := k - 1) (by omega)
            have hclk : (nI k).toNatClampNeg = k := nI_clamp (by omega)
            have hclk1 : (nI (k - 1)).toNatClampNeg = k - 1 := nI_clamp (by omega)
            refine g_aload_n Z dX2_findOrMake_55 rfl ?_
            refine g_getr Z 2 0 rfl (by decide) in2 lk11 dX2_findOrMake_56 (by assumption) (by assumption) (by assumption) ?_
            refine g_iload Z dX2_findOrMake_59 rfl ?_
            refine g_aload_n Z dX2_findOrMake_61 rfl ?_
            refine g_getr Z 2 0 rfl (by decide) in2 lk11 dX2_findOrMake_62 (by assumption) (by assumption) (by assumption) ?_
            refine g_iload Z dX2_findOrMake_65 rfl ?_
            refine g_iconst (v := 1) Z dX2_findOrMake_67 (by decide) ?_
            refine g_isub Z dX2_findOrMake_68 ?_
            rw [show nI k - 1 = nI (k - 1) from pk_sub (a := k) (b := 1) (by omega)]
            refine g_aald10 Z dX2_findOrMake_69 (by assumption) (by assumption) (by exact vin_of hitl (by omega) (by decide)) (by rw [hclk1]; show va_up S.rr it _ it _ = _; rw [va_up_self, shf_lo _ (by omega)]; exact hv) ?_
            refine g_aast10 Z dX2_findOrMake_70 (by assumption) (by assumption) (by exact vin_of hitl (by omega) (by decide)) (by exact hvw.1) (by exact hvw.2.1) ?_
            rw [hclk, rowR_step, show some v = S.rr it (k - 1) from hv.symm, shf_s _ (by omega) hku]
            refine g_iinc (c := (-1)) Z dX2_findOrMake_71 rfl (by decide) (by decide) ?_
            rw [sb_m1 (by omega)]
            refine g_goto Z 49 dX2_findOrMake_74 (by decide) ?_
            exact g_lv (by repeat (first | exact trivial | refine And.intro rfl ?_)) (ih (k - 1) (by omega) ⟨by omega, by omega⟩)
      have h0 := loop (u + 1) u (by omega) ⟨hj, by omega⟩
      rw [shf_0, rowR_self] at h0
      exact g_lv (by repeat (first | exact trivial | refine And.intro rfl ?_)) h0
    · refine g_null Z dX2_findOrMake_31 ?_
      exact g_aretN Z rfl (Or.inl ⟨_, rfl⟩) dX2_findOrMake_32 (by omega) (by omega) (Or.inl ⟨rfl, rfl⟩)
  · have hju : j < u := by
      rcases hp2 with ⟨h, -⟩ | ⟨-, e⟩
      · exact h
      · rw [e] at h12; exact absurd h12 (ne_k hk)
    obtain ⟨c, hc, hcr⟩ := hs.cr hju
    have hcl : (nI j).toNatClampNeg = j := nI_clamp (by omega)
    refine g_aload_n Z dX2_findOrMake_15 rfl ?_
    refine g_getr Z 2 0 rfl (by decide) in2 lk11 dX2_findOrMake_16 (by assumption) (by assumption) (by assumption) ?_
    refine g_iload_n Z dX2_findOrMake_19 rfl ?_
    refine g_aald10 Z dX2_findOrMake_20 (by assumption) (by assumption) (by exact vin_of hitl (by omega) (by decide)) (by rw [hcl]; exact hc) ?_
    exact g_aret Z rfl (Or.inl ⟨_, rfl⟩) dX2_findOrMake_21 (by omega) (by omega) (Or.inr ⟨c, rfl, hcr, Es.rf⟩)

set_option maxRecDepth 100000 in
set_option maxHeartbeats 800000 in
/-- the container of a key goes out -/
theorem c_X2_leaveOut (l : Launch) (D : va_G) (cy : Nat → ClassId) (nw : Nat) (S : PS) (s it u : Nat) (hs : SetAt S nw s it u) (key : Nat) (hk : key < 65536) : kV l yX2_leaveOut wsX2_leaveOut 1 22 D cy nw [.ref s, .int (nI key)] S (fun T => Es nw S T) 0 0 := by
  refine enterV (cc := cX2_leaveOut) (nL := 5) (ret := none) (by decide +kernel) rfl (Nat.le_of_ble_eq_true rfl) ?_
  intro F Z hl hR hD hcy hnw hnm
  subst hl hD hcy hnw
  have hRf : F.R.frames = 1 := by rw [hR]
  have hRc : F.R.cells = 0 := by rw [hR]
  have hRs : F.R.slots = 0 := by rw [hR]
  have hRl : F.R.locals = 22 := by rw [hR]
  have in2 : ∀ w ∈ u_ws RX2 TX2 2, w ∈ wsX2_leaveOut := by decide +kernel
  have lk11 : Cond.fieldLink RX2 11 (TX2 0).1 (TX2 0).2.1 (TX2 0).2.2.1 ∈ wsX2_leaveOut := by decide +kernel
  have lk18 : Cond.fieldLink RX2 18 (TX2 1).1 (TX2 1).2.1 (TX2 1).2.2.1 ∈ wsX2_leaveOut := by decide +kernel
  obtain ⟨hsL, hsK, hsit, hitL, hitK, hitl, hsu, hu7, hsw, hsr⟩ := id hs
  refine g_aload_n Z dX2_leaveOut_0 rfl ?_
  refine g_iload_n Z dX2_leaveOut_1 rfl ?_
  refine g_cvI Z (c_X2_indexOf F.l F.D F.cy F.nw _ s it u hs _) 1 gX2_leaveOut_X2_indexOf rfl (by decide +kernel) (by rw [hRf, hRl]; decide) (by assumption) (κ := 2) (by assumption) rfl (by decide) rfl rfl (Nat.le_of_ble_eq_true rfl) dX2_leaveOut_2 (by rw [hRc, hRs]; omega) (fun r T hp => ?_)
  obtain ⟨rfl, j, hj, rfl⟩ := hp
  refine g_istore_n Z dX2_leaveOut_5 (by decide) ?_
  refine g_aload_n Z dX2_leaveOut_6 rfl ?_
  refine g_iload_n Z dX2_leaveOut_7 rfl ?_
  refine g_cvI Z (c_X2_keyAt F.l F.D F.cy F.nw _ s it u hs j (by omega)) 1 gX2_leaveOut_X2_keyAt rfl (by decide +kernel) (by rw [hRf, hRl]; decide) (by assumption) (κ := 2) (by assumption) rfl (by decide) rfl rfl (Nat.le_of_ble_eq_true rfl) dX2_leaveOut_8 (by rw [hRc, hRs]; omega) (fun r T hp => ?_)
  obtain ⟨rfl, hp2⟩ := hp
  refine g_iload_n Z dX2_leaveOut_11 rfl ?_
  refine g_icmp_eq Z 16 dX2_leaveOut_12 (by decide) (fun h12 => ?_) (fun h12 => ?_)
  · have hju : j < u := by
      rcases hp2 with ⟨h, -⟩ | ⟨-, e⟩
      · exact h
      · rw [e] at h12; exact absurd h12 (ne_k hk)
    obtain ⟨c, hc, hcr⟩ := hs.cr hju
    obtain ⟨hcL, hcK, -, -⟩ := id hcr
    have hcl : (nI j).toNatClampNeg = j := nI_clamp (by omega)
    refine g_aload_n Z dX2_leaveOut_16 rfl ?_
    refine g_getr Z 2 0 rfl (by decide) in2 lk11 dX2_leaveOut_17 (by assumption) (by assumption) (by assumption) ?_
    refine g_iload_n Z dX2_leaveOut_20 rfl ?_
    refine g_aald10 Z dX2_leaveOut_21 (by assumption) (by assumption) (by exact vin_of hitl (by omega) (by decide)) (by rw [hcl]; exact hc) ?_
    refine g_astore_n Z dX2_leaveOut_22 (by decide) ?_
    refine g_aload_n Z dX2_leaveOut_23 rfl ?_
    refine g_dup Z dX2_leaveOut_24 rfl ?_
    refine g_geti Z 2 1 rfl (by decide) in2 lk18 dX2_leaveOut_25 (by assumption) (by assumption) ?_
    rw [hsu]
    refine g_iconst (v := 1) Z dX2_leaveOut_28 (by decide) ?_
    refine g_isub Z dX2_leaveOut_29 ?_
    rw [show nI u - 1 = nI (u - 1) from pk_sub (a := u) (b := 1) (by omega)]
    refine g_puti Z 2 1 rfl (by decide) tyX2 tyX2_ok nmX2 rfl in2 lk18 dX2_leaveOut_30 rfl rfl (by assumption) (by assumption) ?_
    refine g_iload_n Z dX2_leaveOut_33 rfl ?_
    refine g_istore Z dX2_leaveOut_34 (by decide) ?_
    have loop : ∀ (n k : Nat), 7 - k < n → (j ≤ k ∧ k ≤ u - 1) → G F 5 ((S.setI s 1 (nI (u - 1))).rowR it (shd (S.rr it) j k)) 0 0 (QV F (fun T => Es F.nw S T) 0 0) 36 [(0, .ref s), (1, .int (nI key)), (2, .int (nI j)), (3, .ref c), (4, .int (nI k))] [] := by
      intro n
      induction n with
      | zero => intros; omega
      | succ n ih =>
        intro k hn ⟨hjk, hku⟩
        refine g_iload Z dX2_leaveOut_36 rfl ?_
        refine g_aload_n Z dX2_leaveOut_38 rfl ?_
        refine g_geti Z 2 1 rfl (by decide) in2 lk18 dX2_leaveOut_39 (by assumption) (by assumption) ?_
        rw [show PS.fi (PS.rowR (PS.setI S s 1 (nI (u - 1))) it _) s 1 = nI (u - 1) from up2_self _ _ _ _]
        refine g_icmp_ge Z 67 dX2_leaveOut_42 (by decide) (fun h42 => ?_) (fun h42 => ?_)
        · have hk : k = u - 1 := by have := ge_t (by omega) (by omega) h42; omega
          subst hk
          refine g_aload_n Z dX2_leaveOut_67 rfl ?_
          refine g_getr Z 2 0 rfl (by decide) in2 lk11 dX2_leaveOut_68 (by assumption) (by assumption) (by assumption) ?_
          refine g_aload_n Z dX2_leaveOut_71 rfl ?_
          refine g_geti Z 2 1 rfl (by decide) in2 lk18 dX2_leaveOut_72 (by assumption) (by assumption) ?_
          rw [show PS.fi (PS.rowR (PS.setI S s 1 (nI (u - 1))) it _) s 1 = nI (u - 1) from up2_self _ _ _ _]
          refine g_aload_n Z dX2_leaveOut_75 rfl ?_
          refine g_aast10 Z dX2_leaveOut_76 (by assumption) (by assumption) (by exact vin_of hitl (by omega) (by decide)) (by assumption) (by assumption) ?_
          rw [show (nI (u - 1)).toNatClampNeg = u - 1 from nI_clamp (by omega), rowR_step, show some c = S.rr it j from hc.symm]
          exact g_vret Z dX2_leaveOut_77 (by omega) (by omega) (lo_post hs hju)
        · have hk : k < u - 1 := ge_f (by omega) (by omega) h42
          obtain ⟨v, hv, hvr⟩ := hs.cr (i := k + 1) (by omega)
          have hclk : (nI k).toNatClampNeg = k := nI_clamp (by omega)
          have hclk1 : (nI (k + 1)).toNatClampNeg = k + 1 := nI_clamp (by omega)
          refine g_aload_n Z dX2_leaveOut_45 rfl ?_
          refine g_getr Z 2 0 rfl (by decide) in2 lk11 dX2_leaveOut_46 (by assumption) (by assumption) (by assumption) ?_
          refine g_iload Z dX2_leaveOut_49 rfl ?_
          refine g_aload_n Z dX2_leaveOut_51 rfl ?_
          refine g_getr Z 2 0 rfl (by decide) in2 lk11 dX2_leaveOut_52 (by assumption) (by assumption) (by assumption) ?_
          refine g_iload Z dX2_leaveOut_55 rfl ?_
          refine g_iconst (v := 1) Z dX2_leaveOut_57 (by decide) ?_
          refine g_iadd Z dX2_leaveOut_58 ?_
          rw [nI_1]
          refine g_aald10 Z dX2_leaveOut_59 (by assumption) (by assumption) (by exact vin_of hitl (by omega) (by decide)) (by rw [hclk1]; show va_up S.rr it _ it _ = _; rw [va_up_self, shd_hi _ (by omega)]; exact hv) ?_
          refine g_aast10 Z dX2_leaveOut_60 (by assumption) (by assumption) (by exact vin_of hitl (by omega) (by decide)) (by exact hvr.1) (by exact hvr.2.1) ?_
          rw [hclk, rowR_step, show some v = S.rr it (k + 1) from hv.symm, shd_s _ hjk]
          refine g_iinc (c := 1) Z dX2_leaveOut_61 rfl (by decide) (by decide) ?_
          rw [nI_1]
          refine g_goto Z 36 dX2_leaveOut_64 (by decide) ?_
          exact g_lv (by repeat (first | exact trivial | refine And.intro rfl ?_)) (ih (k + 1) (by omega) ⟨by omega, by omega⟩)
    have h0 := loop 8 j (by omega) ⟨Nat.le_refl j, by omega⟩
    rw [shd_0, show (S.setI s 1 (nI (u - 1))).rowR it (S.rr it) = S.setI s 1 (nI (u - 1)) from rowR_self (S.setI s 1 (nI (u - 1))) it] at h0
    exact g_lv (by repeat (first | exact trivial | refine And.intro rfl ?_)) h0
  · exact g_vret Z dX2_leaveOut_15 (by omega) (by omega) (Es.rf)

set_option maxRecDepth 100000 in
set_option maxHeartbeats 800000 in
/-- the kind of a container that has changed; an empty one goes -/
theorem c_X2_settle (l : Launch) (D : va_G) (cy : Nat → ClassId) (nw : Nat) (S : PS) (s it u : Nat) (hs : SetAt S nw s it u) (c : Nat) (hc : Cr S c) (x : Int32) : kI l yX2_settle wsX2_settle 2 46 D cy nw [.ref s, .ref c, .int x] S (fun _ T => Es nw S T) 0 0 := by
  refine enterI (cc := cX2_settle) (nL := 3) (ret := (some .int)) (by decide +kernel) rfl (Nat.le_of_ble_eq_true rfl) ?_
  intro F Z hl hR hD hcy hnw hnm
  subst hl hD hcy hnw
  have hRf : F.R.frames = 2 := by rw [hR]
  have hRc : F.R.cells = 0 := by rw [hR]
  have hRs : F.R.slots = 0 := by rw [hR]
  have hRl : F.R.locals = 46 := by rw [hR]
  have in1 : ∀ w ∈ u_ws RX1 TX1 4, w ∈ wsX2_settle := by decide +kernel
  have lk26 : Cond.fieldLink RX2 26 (TX1 0).1 (TX1 0).2.1 (TX1 0).2.2.1 ∈ wsX2_settle := by decide +kernel
  have lk63 : Cond.fieldLink RX2 63 (TX1 2).1 (TX1 2).2.1 (TX1 2).2.2.1 ∈ wsX2_settle := by decide +kernel
  obtain ⟨hsL, hsK, hsit, hitL, hitK, hitl, hsu, hu7, hsw, hsr⟩ := id hs
  obtain ⟨hcL, hcK, -, -⟩ := id hc
  refine g_iload_n Z dX2_settle_0 rfl ?_
  refine g_if_ne Z 6 dX2_settle_1 (by decide) (fun h1 => ?_) (fun h1 => ?_)
  · refine g_aload_n Z dX2_settle_6 rfl ?_
    refine g_cvV Z (c_X1_setPlainKind F.l F.D F.cy F.nw _ c hcL hcK) 0 gX2_settle_X1_setPlainKind rfl (by decide +kernel) (by rw [hRf, hRl]; decide) (by assumption) (κ := 1) (by assumption) rfl (by decide) rfl rfl (Nat.le_of_ble_eq_true rfl) dX2_settle_7 (by rw [hRc, hRs]; omega) (fun U hp => ?_)
    have hE : Ex F.nw S U := hp.ex hcK
    have hs2 := hs.ex hE
    obtain ⟨hcL2, hcK2, ⟨k, hk, ek⟩, -⟩ := hp.cr hc
    have hsL2 := hs2.1
    have hsK2 := hs2.2.1
    refine g_aload_n Z dX2_settle_10 rfl ?_
    refine g_geti Z 1 2 rfl (by decide) in1 lk63 dX2_settle_11 (by assumption) (by assumption) ?_
    refine g_if_ne Z 25 dX2_settle_14 (by decide) (fun h14 => ?_) (fun h14 => ?_)
    · refine g_iconst (v := 1) Z dX2_settle_25 (by decide) ?_
      exact g_iret Z dX2_settle_26 (by omega) (by omega) (by first | exact hE.es.tr hp2 | exact hE.es)
    · refine g_aload_n Z dX2_settle_17 rfl ?_
      refine g_aload_n Z dX2_settle_18 rfl ?_
      refine g_geti Z 1 0 rfl (by decide) in1 lk26 dX2_settle_19 (by assumption) (by assumption) ?_
      rw [ek]
      refine g_cvV Z (c_X2_leaveOut F.l F.D F.cy F.nw _ s it u hs2 k hk) 1 gX2_settle_X2_leaveOut rfl (by decide +kernel) (by rw [hRf, hRl]; decide) (by assumption) (κ := 2) (by assumption) rfl (by decide) rfl rfl (Nat.le_of_ble_eq_true rfl) dX2_settle_22 (by rw [hRc, hRs]; omega) (fun V hp2 => ?_)
      refine g_iconst (v := 1) Z dX2_settle_25 (by decide) ?_
      exact g_iret Z dX2_settle_26 (by omega) (by omega) (by first | exact hE.es.tr hp2 | exact hE.es)
  · refine g_iconst (v := 0) Z dX2_settle_4 (by decide) ?_
    exact g_iret Z dX2_settle_5 (by omega) (by omega) (Es.rf)

set_option maxRecDepth 100000 in
set_option maxHeartbeats 800000 in
/-- numbers of a key come, go or turn -/
theorem c_X2_changeSpan (l : Launch) (D : va_G) (cy : Nat → ClassId) (nw : Nat) (S : PS) (s it u : Nat) (hs : SetAt S nw s it u) (key f t : Nat) (hk : key < 65536) (hf : f < 65536) (ht : t < 65536) (h : Int32) : kI l yX2_changeSpan wsX2_changeSpan 3 69 D cy nw [.ref s, .int (nI key), .int (nI f), .int (nI t), .int h] S (fun _ T => Es nw S T) 1 1024 := by
  refine enterI (cc := cX2_changeSpan) (nL := 6) (ret := (some .int)) (by decide +kernel) rfl (Nat.le_of_ble_eq_true rfl) ?_
  intro F Z hl hR hD hcy hnw hnm
  subst hl hD hcy hnw
  have hRf : F.R.frames = 3 := by rw [hR]
  have hRc : F.R.cells = 1 := by rw [hR]
  have hRs : F.R.slots = 1024 := by rw [hR]
  have hRl : F.R.locals = 69 := by rw [hR]
  obtain ⟨hsL, hsK, hsit, hitL, hitK, hitl, hsu, hu7, hsw, hsr⟩ := id hs
  have j16 : G F 6 S 0 0 (QI F (fun _ T => Es F.nw S T) 1 1024) 16 [(0, .ref s), (1, .int (nI key)), (2, .int (nI f)), (3, .int (nI t)), (4, .int h)] [] := by
    refine g_aload_n Z dX2_changeSpan_16 rfl ?_
    refine g_iload_n Z dX2_changeSpan_17 rfl ?_
    refine g_cvR Z (c_X2_findOrMake F.l F.D F.cy F.nw _ s it u hs key hk) 1 gX2_changeSpan_X2_findOrMake rfl (by decide +kernel) (by rw [hRf, hRl]; decide) (by assumption) (κ := 2) (by assumption) rfl (by decide) rfl rfl (Nat.le_of_ble_eq_true rfl) dX2_changeSpan_18 (by rw [hRc, hRs]; omega) (fun r T hp => ?_)
    rcases hp with ⟨rfl, rfl⟩ | ⟨c, rfl, hcr, hE⟩
    · refine g_astoreN Z dX2_changeSpan_21 (by decide) ?_
      refine g_aloadN Z dX2_changeSpan_23 rfl ?_
      refine g_ifnonnullN Z dX2_changeSpan_25 ?_
      refine g_bipush (v := (-3)) Z dX2_changeSpan_28 (by decide) ?_
      exact g_iret Z dX2_changeSpan_30 (by omega) (by omega) (Es.rf)
    · obtain ⟨it2, u2, hs2⟩ := hE.2.2.2 s ⟨it, u, hs⟩
      obtain ⟨hcL, hcK, -, -⟩ := id hcr
      have hsL2 := hs2.1
      have hsK2 := hs2.2.1
      refine g_astore Z dX2_changeSpan_21 (by decide) ?_
      refine g_aload Z dX2_changeSpan_23 rfl ?_
      refine g_ifnonnull Z 31 dX2_changeSpan_25 (by decide) ?_
      refine g_aload_n Z dX2_changeSpan_31 rfl ?_
      refine g_aload Z dX2_changeSpan_32 rfl ?_
      refine g_aload Z dX2_changeSpan_34 rfl ?_
      refine g_iload_n Z dX2_changeSpan_36 rfl ?_
      refine g_iload_n Z dX2_changeSpan_37 rfl ?_
      refine g_iload Z dX2_changeSpan_38 rfl ?_
      refine g_cvI Z (c_X1_changeLows F.l F.D F.cy F.nw _ c hcr f t hf ht h) 3 gX2_changeSpan_X1_changeLows rfl (by decide +kernel) (by rw [hRf, hRl]; decide) (by assumption) (κ := 1) (by assumption) rfl (by decide) rfl rfl (Nat.le_of_ble_eq_true rfl) dX2_changeSpan_40 (by rw [hRc, hRs]; omega) (fun r U hp2 => ?_)
      obtain ⟨hC, -⟩ := hp2
      have hE2 : Ex F.nw T U := hC.ex hcK
      have hs3 := hs2.ex hE2
      have hsL3 := hs3.1
      have hsK3 := hs3.2.1
      refine g_cvI Z (c_X2_settle F.l F.D F.cy F.nw _ s it2 u2 hs3 c (hC.cr hcr) _) 2 gX2_changeSpan_X2_settle rfl (by decide +kernel) (by rw [hRf, hRl]; decide) (by assumption) (κ := 2) (by assumption) rfl (by decide) rfl rfl (Nat.le_of_ble_eq_true rfl) dX2_changeSpan_43 (by rw [hRc, hRs]; omega) (fun r2 V hp3 => ?_)
      exact g_iret Z dX2_changeSpan_46 (by omega) (by omega) ((hE.tr hE2.es).tr hp3)
  refine g_iload Z dX2_changeSpan_0 rfl ?_
  refine g_iconst (v := 1) Z dX2_changeSpan_2 (by decide) ?_
  refine g_icmp_ne Z 16 dX2_changeSpan_3 (by decide) (fun h3 => ?_) (fun h3 => ?_)
  · exact g_lv (by repeat (first | exact trivial | refine And.intro rfl ?_)) j16
  · refine g_aload_n Z dX2_changeSpan_6 rfl ?_
    refine g_iload_n Z dX2_changeSpan_7 rfl ?_
    refine g_cvR Z (c_X2_find F.l F.D F.cy F.nw _ s it u hs key hk) 1 gX2_changeSpan_X2_find rfl (by decide +kernel) (by rw [hRf, hRl]; decide) (by assumption) (κ := 2) (by assumption) rfl (by decide) rfl rfl (Nat.le_of_ble_eq_true rfl) dX2_changeSpan_8 (by rw [hRc, hRs]; omega) (fun r U hp => ?_)
    obtain ⟨rfl, hr⟩ := hp
    rcases hr with rfl | ⟨c, rfl, hcr⟩
    · refine g_ifnonnullN Z dX2_changeSpan_11 ?_
      refine g_iconst (v := 0) Z dX2_changeSpan_14 (by decide) ?_
      exact g_iret Z dX2_changeSpan_15 (by omega) (by omega) (Es.rf)
    · refine g_ifnonnull Z 16 dX2_changeSpan_11 (by decide) ?_
      exact g_lv (by repeat (first | exact trivial | refine And.intro rfl ?_)) j16

set_option maxRecDepth 100000 in
set_option maxHeartbeats 800000 in
/-- numbers of a key come by steps -/
theorem c_X2_putSteps (l : Launch) (D : va_G) (cy : Nat → ClassId) (nw : Nat) (S : PS) (s it u : Nat) (hs : SetAt S nw s it u) (key f q : Nat) (hk : key < 65536) (hf : f < 65536) (hq1 : 1 ≤ q) (hq : q < 65536) : kI l yX2_putSteps wsX2_putSteps 3 69 D cy nw [.ref s, .int (nI key), .int (nI f), .int (nI q)] S (fun _ T => Es nw S T) 1 1024 := by
  refine enterI (cc := cX2_putSteps) (nL := 5) (ret := (some .int)) (by decide +kernel) rfl (Nat.le_of_ble_eq_true rfl) ?_
  intro F Z hl hR hD hcy hnw hnm
  subst hl hD hcy hnw
  have hRf : F.R.frames = 3 := by rw [hR]
  have hRc : F.R.cells = 1 := by rw [hR]
  have hRs : F.R.slots = 1024 := by rw [hR]
  have hRl : F.R.locals = 69 := by rw [hR]
  obtain ⟨hsL, hsK, hsit, hitL, hitK, hitl, hsu, hu7, hsw, hsr⟩ := id hs
  refine g_aload_n Z dX2_putSteps_0 rfl ?_
  refine g_iload_n Z dX2_putSteps_1 rfl ?_
  refine g_cvR Z (c_X2_findOrMake F.l F.D F.cy F.nw _ s it u hs key hk) 1 gX2_putSteps_X2_findOrMake rfl (by decide +kernel) (by rw [hRf, hRl]; decide) (by assumption) (κ := 2) (by assumption) rfl (by decide) rfl rfl (Nat.le_of_ble_eq_true rfl) dX2_putSteps_2 (by rw [hRc, hRs]; omega) (fun r T hp => ?_)
  rcases hp with ⟨rfl, rfl⟩ | ⟨c, rfl, hcr, hE⟩
  · refine g_astoreN Z dX2_putSteps_5 (by decide) ?_
    refine g_aloadN Z dX2_putSteps_7 rfl ?_
    refine g_ifnonnullN Z dX2_putSteps_9 ?_
    refine g_bipush (v := (-3)) Z dX2_putSteps_12 (by decide) ?_
    exact g_iret Z dX2_putSteps_14 (by omega) (by omega) (Es.rf)
  · obtain ⟨it2, u2, hs2⟩ := hE.2.2.2 s ⟨it, u, hs⟩
    obtain ⟨hcL, hcK, -, -⟩ := id hcr
    have hsL2 := hs2.1
    have hsK2 := hs2.2.1
    refine g_astore Z dX2_putSteps_5 (by decide) ?_
    refine g_aload Z dX2_putSteps_7 rfl ?_
    refine g_ifnonnull Z 15 dX2_putSteps_9 (by decide) ?_
    refine g_aload_n Z dX2_putSteps_15 rfl ?_
    refine g_aload Z dX2_putSteps_16 rfl ?_
    refine g_aload Z dX2_putSteps_18 rfl ?_
    refine g_iload_n Z dX2_putSteps_20 rfl ?_
    refine g_iload_n Z dX2_putSteps_21 rfl ?_
    refine g_cvI Z (c_X1_putLowsBySteps F.l F.D F.cy F.nw _ c hcr f q hf hq1 hq) 2 gX2_putSteps_X1_putLowsBySteps rfl (by decide +kernel) (by rw [hRf, hRl]; decide) (by assumption) (κ := 1) (by assumption) rfl (by decide) rfl rfl (Nat.le_of_ble_eq_true rfl) dX2_putSteps_22 (by rw [hRc, hRs]; omega) (fun r U hp2 => ?_)
    obtain ⟨hC, -⟩ := hp2
    have hE2 : Ex F.nw T U := hC.ex hcK
    have hs3 := hs2.ex hE2
    have hsL3 := hs3.1
    have hsK3 := hs3.2.1
    refine g_cvI Z (c_X2_settle F.l F.D F.cy F.nw _ s it2 u2 hs3 c (hC.cr hcr) _) 2 gX2_putSteps_X2_settle rfl (by decide +kernel) (by rw [hRf, hRl]; decide) (by assumption) (κ := 2) (by assumption) rfl (by decide) rfl rfl (Nat.le_of_ble_eq_true rfl) dX2_putSteps_25 (by rw [hRc, hRs]; omega) (fun r2 V hp3 => ?_)
    exact g_iret Z dX2_putSteps_28 (by omega) (by omega) ((hE.tr hE2.es).tr hp3)

set_option maxRecDepth 100000 in
set_option maxHeartbeats 800000 in
/-- two sets change what they hold -/
theorem c_X2_exchange (l : Launch) (D : va_G) (cy : Nat → ClassId) (nw : Nat) (S : PS) (a b ia ib ua ub : Nat) (ha : SetAt S nw a ia ua) (hb : SetAt S nw b ib ub) : kV l yX2_exchange wsX2_exchange 0 0 D cy nw [.ref a, .ref b] S (fun T => Es nw S T) 0 0 := by
  refine enterV (cc := cX2_exchange) (nL := 4) (ret := none) (by decide +kernel) rfl (Nat.le_of_ble_eq_true rfl) ?_
  intro F Z hl hR hD hcy hnw hnm
  subst hl hD hcy hnw
  have hRf : F.R.frames = 0 := by rw [hR]
  have hRc : F.R.cells = 0 := by rw [hR]
  have hRs : F.R.slots = 0 := by rw [hR]
  have hRl : F.R.locals = 0 := by rw [hR]
  have in2 : ∀ w ∈ u_ws RX2 TX2 2, w ∈ wsX2_exchange := by decide +kernel
  have lk11 : Cond.fieldLink RX2 11 (TX2 0).1 (TX2 0).2.1 (TX2 0).2.2.1 ∈ wsX2_exchange := by decide +kernel
  have lk18 : Cond.fieldLink RX2 18 (TX2 1).1 (TX2 1).2.1 (TX2 1).2.2.1 ∈ wsX2_exchange := by decide +kernel
  obtain ⟨haL, haK, hait, -, -, -, hau, -, -, -⟩ := id ha
  obtain ⟨hbL, hbK, hbit, -, -, -, hbu, -, -, -⟩ := id hb
  refine g_aload_n Z dX2_exchange_0 rfl ?_
  refine g_getr Z 2 0 rfl (by decide) in2 lk11 dX2_exchange_1 (by assumption) (by assumption) (by assumption) ?_
  refine g_astore_n Z dX2_exchange_4 (by decide) ?_
  refine g_aload_n Z dX2_exchange_5 rfl ?_
  refine g_geti Z 2 1 rfl (by decide) in2 lk18 dX2_exchange_6 (by assumption) (by assumption) ?_
  rw [hbu]
  refine g_istore_n Z dX2_exchange_9 (by decide) ?_
  refine g_aload_n Z dX2_exchange_10 rfl ?_
  refine g_aload_n Z dX2_exchange_11 rfl ?_
  refine g_getr Z 2 0 rfl (by decide) in2 lk11 dX2_exchange_12 (by assumption) (by assumption) (by assumption) ?_
  refine g_putr Z 2 0 rfl (by decide) tyX2 tyX2_ok nmX2 rfl in2 lk11 dX2_exchange_15 rfl rfl (by assumption) (by assumption) ?_
  refine g_aload_n Z dX2_exchange_18 rfl ?_
  refine g_aload_n Z dX2_exchange_19 rfl ?_
  refine g_geti Z 2 1 rfl (by decide) in2 lk18 dX2_exchange_20 (by assumption) (by assumption) ?_
  rw [show PS.fi (PS.setR S b 0 _) a 1 = nI ua from hau]
  refine g_puti Z 2 1 rfl (by decide) tyX2 tyX2_ok nmX2 rfl in2 lk18 dX2_exchange_23 rfl rfl (by assumption) (by assumption) ?_
  refine g_aload_n Z dX2_exchange_26 rfl ?_
  refine g_aload_n Z dX2_exchange_27 rfl ?_
  refine g_putr Z 2 0 rfl (by decide) tyX2 tyX2_ok nmX2 rfl in2 lk11 dX2_exchange_28 rfl rfl (by assumption) (by assumption) ?_
  refine g_aload_n Z dX2_exchange_31 rfl ?_
  refine g_iload_n Z dX2_exchange_32 rfl ?_
  refine g_puti Z 2 1 rfl (by decide) tyX2 tyX2_ok nmX2 rfl in2 lk18 dX2_exchange_33 rfl rfl (by assumption) (by assumption) ?_
  exact g_vret Z dX2_exchange_36 (by omega) (by omega) (xch_post ha hb)
