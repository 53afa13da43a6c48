theorem toInt_ne {x : Int32} {k : Nat} (hk : k < 2 ^ 31) (h : ¬ x = nI k) : x.toInt ≠ (k : Int) := fun e => h (Int32.toInt_inj.mp (by rw [nI_toInt hk]; exact e))
theorem look2 {x : Int32} {a b d : Int} (h0 : ¬ x = 0) (h1 : ¬ x = 1) : Op.lookupswitch.offset [(0, a), (1, b)] d x.toInt = d := by
  have e0 : x.toInt ≠ 0 := toInt_ne (k := 0) (by decide) h0
  have e1 : x.toInt ≠ 1 := toInt_ne (k := 1) (by decide) h1
  simp only [Op.lookupswitch.offset]
  simp [Ne.symm e0, Ne.symm e1, e0, e1]

def hrF (S : PS) (it u : Nat) : Int32 := if tkF S it 2 u ≤ 0 then 0 else 1
def hpF (S : PS) (it u : Nat) : Int32 := if hrF S it u = 0 then 1 else if u < 4 then 0 else 1
set_option maxRecDepth 100000 in
set_option maxHeartbeats 2000000 in
/-- static -/
theorem c_X5_hasRuns (l : Launch) (D : va_G) (cy : Nat → ClassId) (nw : Nat) (S : PS) (s it u : Nat) (hs : SetAt S nw s it u) : kI l yX5_hasRuns wsX5_hasRuns 1 23 D cy nw [.ref s] S (fun r T => S = T ∧ r = hrF S it u) 0 0 := by
  refine enterI (cc := cX5_hasRuns) (nL := 1) (ret := (some .boolean)) (by decide +kernel) rfl (Nat.le_of_ble_eq_true rfl) ?_
  intro F Z hl hR hD hcy hnw hnm
  subst hl hD hcy hnw
  have hRf : F.R.frames = 1 := by rw [hR]
  have hRc : F.R.cells = 0 := by rw [hR]
  have hRs : F.R.slots = 0 := by rw [hR]
  have hRl : F.R.locals = 23 := by rw [hR]
  obtain ⟨hsL, hsK, hsit, hitL, hitK, hitl, hsu, hu7, hsw, hsr⟩ := id hs
  refine g_aload_n Z dX5_hasRuns_0 rfl ?_
  refine g_iconst (v := 2) Z dX5_hasRuns_1 (by decide) ?_
  refine g_cvI Z (c_X2_totalOfKind F.l F.D F.cy F.nw _ s it u hs _) 1 gX5_hasRuns_X2_totalOfKind rfl (by decide +kernel) (by rw [hRf, hRl]; decide) (by assumption) (κ := 2) (by assumption) rfl (by decide) rfl rfl (Nat.le_of_ble_eq_true rfl) dX5_hasRuns_2 (by rw [hRc, hRs]; omega) (fun r U hp => ?_)
  obtain ⟨rfl, rfl⟩ := hp
  refine g_if_le Z 12 dX5_hasRuns_5 (by decide) (fun h5 => ?_) (fun h5 => ?_)
  · refine g_iconst (v := 0) Z dX5_hasRuns_12 (by decide) ?_
    exact g_zret Z dX5_hasRuns_13 (by rfl) (by omega) (by omega) (by first | exact ⟨rfl, by unfold hrF; rw [if_pos h5]⟩ | exact ⟨rfl, by unfold hrF; rw [if_neg h5]⟩)
  · refine g_iconst (v := 1) Z dX5_hasRuns_8 (by decide) ?_
    refine g_goto Z 13 dX5_hasRuns_9 (by decide) ?_
    exact g_zret Z dX5_hasRuns_13 (by rfl) (by omega) (by omega) (by first | exact ⟨rfl, by unfold hrF; rw [if_pos h5]⟩ | exact ⟨rfl, by unfold hrF; rw [if_neg h5]⟩)

set_option maxRecDepth 100000 in
set_option maxHeartbeats 2000000 in
/-- static -/
theorem c_X5_hasPlaces (l : Launch) (D : va_G) (cy : Nat → ClassId) (nw : Nat) (S : PS) (s it u : Nat) (hs : SetAt S nw s it u) : kI l yX5_hasPlaces wsX5_hasPlaces 2 43 D cy nw [.ref s] S (fun r T => S = T ∧ r = hpF S it u) 0 0 := by
  refine enterI (cc := cX5_hasPlaces) (nL := 1) (ret := (some .boolean)) (by decide +kernel) rfl (Nat.le_of_ble_eq_true rfl) ?_
  intro F Z hl hR hD hcy hnw hnm
  subst hl hD hcy hnw
  have hRf : F.R.frames = 2 := by rw [hR]
  have hRc : F.R.cells = 0 := by rw [hR]
  have hRs : F.R.slots = 0 := by rw [hR]
  have hRl : F.R.locals = 43 := by rw [hR]
  have in2 : ∀ w ∈ u_ws RX2 TX2 2, w ∈ wsX5_hasPlaces := by decide +kernel
  have lk15 : Cond.fieldLink RX5 15 (TX2 1).1 (TX2 1).2.1 (TX2 1).2.2.1 ∈ wsX5_hasPlaces := by decide +kernel
  obtain ⟨hsL, hsK, hsit, hitL, hitK, hitl, hsu, hu7, hsw, hsr⟩ := id hs
  refine g_aload_n Z dX5_hasPlaces_0 rfl ?_
  refine g_csI Z (c_X5_hasRuns F.l F.D F.cy F.nw _ s it u hs) 1 gX5_hasPlaces_X5_hasRuns rfl (by decide +kernel) (by rw [hRf, hRl]; decide) rfl rfl (Nat.le_of_ble_eq_true rfl) dX5_hasPlaces_1 (by rw [hRc, hRs]; omega) (fun r U hp => ?_)
  obtain ⟨rfl, rfl⟩ := hp
  refine g_if_eq Z 15 dX5_hasPlaces_4 (by decide) (fun h4 => ?_) (fun h4 => ?_)
  · refine g_iconst (v := 1) Z dX5_hasPlaces_15 (by decide) ?_
    refine g_goto Z 20 dX5_hasPlaces_16 (by decide) ?_
    exact g_zret Z dX5_hasPlaces_20 (by rfl) (by omega) (by omega) (by first | exact ⟨rfl, by unfold hpF; rw [if_pos h4]⟩ | exact ⟨rfl, by unfold hpF; rw [if_neg h4, if_pos (lt_t (by omega) (by decide) h12)]⟩ | exact ⟨rfl, by unfold hpF; rw [if_neg h4, if_neg (by have := lt_f (i := u) (N := 4) (by omega) (by decide) h12; omega)]⟩)
  · refine g_aload_n Z dX5_hasPlaces_7 rfl ?_
    refine g_geti Z 2 1 rfl (by decide) in2 lk15 dX5_hasPlaces_8 (by assumption) (by assumption) ?_
    rw [hsu]
    refine g_iconst (v := 4) Z dX5_hasPlaces_11 (by decide) ?_
    refine g_icmp_lt Z 19 dX5_hasPlaces_12 (by decide) (fun h12 => ?_) (fun h12 => ?_)
    · refine g_iconst (v := 0) Z dX5_hasPlaces_19 (by decide) ?_
      exact g_zret Z dX5_hasPlaces_20 (by rfl) (by omega) (by omega) (by first | exact ⟨rfl, by unfold hpF; rw [if_pos h4]⟩ | exact ⟨rfl, by unfold hpF; rw [if_neg h4, if_pos (lt_t (by omega) (by decide) h12)]⟩ | exact ⟨rfl, by unfold hpF; rw [if_neg h4, if_neg (by have := lt_f (i := u) (N := 4) (by omega) (by decide) h12; omega)]⟩)
    · refine g_iconst (v := 1) Z dX5_hasPlaces_15 (by decide) ?_
      refine g_goto Z 20 dX5_hasPlaces_16 (by decide) ?_
      exact g_zret Z dX5_hasPlaces_20 (by rfl) (by omega) (by omega) (by first | exact ⟨rfl, by unfold hpF; rw [if_pos h4]⟩ | exact ⟨rfl, by unfold hpF; rw [if_neg h4, if_pos (lt_t (by omega) (by decide) h12)]⟩ | exact ⟨rfl, by unfold hpF; rw [if_neg h4, if_neg (by have := lt_f (i := u) (N := 4) (by omega) (by decide) h12; omega)]⟩)

/-- how many bytes the head, a body, a set are said to have, as it is worked out -/
def hbF (S : PS) (it u : Nat) : Int32 := (if hrF S it u = 0 then 8 else 4 + (nI u + 7) / 8) + (if hpF S it u = 0 then 4 else 8) * nI u
def bbF (S : PS) (c : Nat) : Int32 := match S.fr c 3 with
  | some w => if S.fi c 1 = 0 then 2 * S.fi c 2 else if S.fi c 1 = 1 then 8192 else 2 + 4 * trF (S.rj w) 1024
  | none => 0
def boF (S : PS) (it u : Nat) : Nat → Int32
  | 0 => hbF S it u
  | i + 1 => boF S it u i + bbF S ((S.rr it i).getD 0)

set_option maxRecDepth 100000 in
set_option maxHeartbeats 2000000 in
/-- static -/
theorem c_X5_headBytesOf (l : Launch) (D : va_G) (cy : Nat → ClassId) (nw : Nat) (S : PS) (s it u : Nat) (hs : SetAt S nw s it u) : kI l yX5_headBytesOf wsX5_headBytesOf 3 63 D cy nw [.ref s] S (fun r T => S = T ∧ r = hbF S it u) 0 0 := by
  refine enterI (cc := cX5_headBytesOf) (nL := 2) (ret := (some .int)) (by decide +kernel) rfl (Nat.le_of_ble_eq_true rfl) ?_
  intro F Z hl hR hD hcy hnw hnm
  subst hl hD hcy hnw
  have hRf : F.R.frames = 3 := by rw [hR]
  have hRc : F.R.cells = 0 := by rw [hR]
  have hRs : F.R.slots = 0 := by rw [hR]
  have hRl : F.R.locals = 63 := by rw [hR]
  have in2 : ∀ w ∈ u_ws RX2 TX2 2, w ∈ wsX5_headBytesOf := by decide +kernel
  have lk15 : Cond.fieldLink RX5 15 (TX2 1).1 (TX2 1).2.1 (TX2 1).2.2.1 ∈ wsX5_headBytesOf := by decide +kernel
  obtain ⟨hsL, hsK, hsit, hitL, hitK, hitl, hsu, hu7, hsw, hsr⟩ := id hs
  have j24 : ∀ v : Int32, v = (if hrF S it u = 0 then 8 else 4 + (nI u + 7) / 8) → G F 2 S 0 0 (QI F (fun r T => S = T ∧ r = hbF S it u) 0 0) 24 [(0, .ref s)] [.int v] := by
    intro v hv
    refine g_istore_n Z dX5_headBytesOf_24 (by decide) ?_
    refine g_iload_n Z dX5_headBytesOf_25 rfl ?_
    refine g_aload_n Z dX5_headBytesOf_26 rfl ?_
    refine g_csI Z (c_X5_hasPlaces F.l F.D F.cy F.nw _ s it u hs) 1 gX5_headBytesOf_X5_hasPlaces rfl (by decide +kernel) (by rw [hRf, hRl]; decide) rfl rfl (Nat.le_of_ble_eq_true rfl) dX5_headBytesOf_27 (by rw [hRc, hRs]; omega) (fun r U hp => ?_)
    obtain ⟨rfl, rfl⟩ := hp
    refine g_if_eq Z 38 dX5_headBytesOf_30 (by decide) (fun h30 => ?_) (fun h30 => ?_)
    · refine g_iconst (v := 4) Z dX5_headBytesOf_38 (by decide) ?_
      refine g_aload_n Z dX5_headBytesOf_39 rfl ?_
      refine g_geti Z 2 1 rfl (by decide) in2 lk15 dX5_headBytesOf_40 (by assumption) (by assumption) ?_
      rw [hsu]
      refine g_imul Z dX5_headBytesOf_43 ?_
      refine g_iadd Z dX5_headBytesOf_44 ?_
      exact g_iret Z dX5_headBytesOf_45 (by omega) (by omega) (by first | exact ⟨rfl, by unfold hbF; rw [if_pos h30, hv]⟩ | exact ⟨rfl, by unfold hbF; rw [if_neg h30, hv]⟩)
    · refine g_bipush (v := 8) Z dX5_headBytesOf_33 (by decide) ?_
      refine g_goto Z 39 dX5_headBytesOf_35 (by decide) ?_
      refine g_aload_n Z dX5_headBytesOf_39 rfl ?_
      refine g_geti Z 2 1 rfl (by decide) in2 lk15 dX5_headBytesOf_40 (by assumption) (by assumption) ?_
      rw [hsu]
      refine g_imul Z dX5_headBytesOf_43 ?_
      refine g_iadd Z dX5_headBytesOf_44 ?_
      exact g_iret Z dX5_headBytesOf_45 (by omega) (by omega) (by first | exact ⟨rfl, by unfold hbF; rw [if_pos h30, hv]⟩ | exact ⟨rfl, by unfold hbF; rw [if_neg h30, hv]⟩)
  refine g_aload_n Z dX5_headBytesOf_0 rfl ?_
  refine g_csI Z (c_X5_hasRuns F.l F.D F.cy F.nw _ s it u hs) 1 gX5_headBytesOf_X5_hasRuns rfl (by decide +kernel) (by rw [hRf, hRl]; decide) rfl rfl (Nat.le_of_ble_eq_true rfl) dX5_headBytesOf_1 (by rw [hRc, hRs]; omega) (fun r U hp => ?_)
  obtain ⟨rfl, rfl⟩ := hp
  refine g_if_eq Z 22 dX5_headBytesOf_4 (by decide) (fun h4 => ?_) (fun h4 => ?_)
  · refine g_bipush (v := 8) Z dX5_headBytesOf_22 (by decide) ?_
    exact g_lv (by (repeat (first | exact trivial | refine And.intro rfl ?_)); done) (j24 _ (by rw [if_pos h4]))
  · refine g_iconst (v := 4) Z dX5_headBytesOf_7 (by decide) ?_
    refine g_aload_n Z dX5_headBytesOf_8 rfl ?_
    refine g_geti Z 2 1 rfl (by decide) in2 lk15 dX5_headBytesOf_9 (by assumption) (by assumption) ?_
    rw [hsu]
    refine g_bipush (v := 7) Z dX5_headBytesOf_12 (by decide) ?_
    refine g_iadd Z dX5_headBytesOf_14 ?_
    refine g_bipush (v := 8) Z dX5_headBytesOf_15 (by decide) ?_
    refine g_idiv Z dX5_headBytesOf_17 (by decide) ?_
    refine g_iadd Z dX5_headBytesOf_18 ?_
    refine g_goto Z 24 dX5_headBytesOf_19 (by decide) ?_
    exact g_lv (by (repeat (first | exact trivial | refine And.intro rfl ?_)); done) (j24 _ (by rw [if_neg h4]))

set_option maxRecDepth 100000 in
set_option maxHeartbeats 2000000 in
/-- static -/
theorem c_X5_bodyBytesOf (l : Launch) (D : va_G) (cy : Nat → ClassId) (nw : Nat) (S : PS) (c : Nat) (hc : Cr S c) : kI l yX5_bodyBytesOf wsX5_bodyBytesOf 2 47 D cy nw [.ref c] S (fun r T => S = T ∧ r = bbF S c) 0 0 := by
  refine enterI (cc := cX5_bodyBytesOf) (nL := 1) (ret := (some .int)) (by decide +kernel) rfl (Nat.le_of_ble_eq_true rfl) ?_
  intro F Z hl hR hD hcy hnw hnm
  subst hl hD hcy hnw
  have hRf : F.R.frames = 2 := by rw [hR]
  have hRc : F.R.cells = 0 := by rw [hR]
  have hRs : F.R.slots = 0 := by rw [hR]
  have hRl : F.R.locals = 47 := by rw [hR]
  have in1 : ∀ w ∈ u_ws RX1 TX1 4, w ∈ wsX5_bodyBytesOf := by decide +kernel
  have lk44 : Cond.fieldLink RX5 44 (TX1 2).1 (TX1 2).2.1 (TX1 2).2.2.1 ∈ wsX5_bodyBytesOf := by decide +kernel
  have lk65 : Cond.fieldLink RX5 65 (TX1 1).1 (TX1 1).2.1 (TX1 1).2.2.1 ∈ wsX5_bodyBytesOf := by decide +kernel
  obtain ⟨hcL, hcK, -, w, hww, -, -, -⟩ := id hc
  refine g_aload_n Z dX5_bodyBytesOf_0 rfl ?_
  refine g_geti Z 1 1 rfl (by decide) in1 lk65 dX5_bodyBytesOf_1 hcL hcK ?_
  by_cases h0 : S.fi c 1 = 0
  · refine g_lookup Z 32 dX5_bodyBytesOf_4 (by decide) (by rw [h0]) (by decide) ?_
    refine g_iconst (v := 2) Z dX5_bodyBytesOf_32 (by decide) ?_
    refine g_aload_n Z dX5_bodyBytesOf_33 rfl ?_
    refine g_geti Z 1 2 rfl (by decide) in1 lk44 dX5_bodyBytesOf_34 (by assumption) (by assumption) ?_
    refine g_imul Z dX5_bodyBytesOf_37 ?_
    exact g_iret Z dX5_bodyBytesOf_38 (by omega) (by omega) (⟨rfl, by unfold bbF; rw [hww]; exact (if_pos h0).symm⟩)
  · by_cases h1 : S.fi c 1 = 1
    · refine g_lookup Z 39 dX5_bodyBytesOf_4 (by decide) (by rw [h1]) (by decide) ?_
      refine g_sipush (v := 8192) Z dX5_bodyBytesOf_39 (by decide) ?_
      exact g_iret Z dX5_bodyBytesOf_42 (by omega) (by omega) (⟨rfl, by unfold bbF; rw [hww]; exact ((if_neg h0).trans (if_pos h1)).symm⟩)
    · refine g_lookup Z 43 dX5_bodyBytesOf_4 (by decide) (look2 h0 h1) (by decide) ?_
      refine g_iconst (v := 2) Z dX5_bodyBytesOf_43 (by decide) ?_
      refine g_iconst (v := 4) Z dX5_bodyBytesOf_44 (by decide) ?_
      refine g_aload_n Z dX5_bodyBytesOf_45 rfl ?_
      refine g_cvI Z (c_X1_totalRuns F.l F.D F.cy F.nw _ c hc) 0 gX5_bodyBytesOf_X1_totalRuns rfl (by decide +kernel) (by rw [hRf, hRl]; decide) (by assumption) (κ := 1) (by assumption) rfl (by decide) rfl rfl (Nat.le_of_ble_eq_true rfl) dX5_bodyBytesOf_46 (by rw [hRc, hRs]; omega) (fun r U hp => ?_)
      obtain ⟨rfl, hr⟩ := hp
      have hr := hr w hww
      subst hr
      refine g_imul Z dX5_bodyBytesOf_49 ?_
      refine g_iadd Z dX5_bodyBytesOf_50 ?_
      exact g_iret Z dX5_bodyBytesOf_51 (by omega) (by omega) (⟨rfl, by unfold bbF; rw [hww]; exact ((if_neg h0).trans (if_neg h1)).symm⟩)

set_option maxRecDepth 100000 in
set_option maxHeartbeats 2000000 in
/-- static -/
theorem c_X5_bytesOf (l : Launch) (D : va_G) (cy : Nat → ClassId) (nw : Nat) (S : PS) (s it u : Nat) (hs : SetAt S nw s it u) : kI l yX5_bytesOf wsX5_bytesOf 4 84 D cy nw [.ref s] S (fun r T => S = T ∧ r = boF S it u u) 0 0 := by
  refine enterI (cc := cX5_bytesOf) (nL := 3) (ret := (some .int)) (by decide +kernel) rfl (Nat.le_of_ble_eq_true rfl) ?_
  intro F Z hl hR hD hcy hnw hnm
  subst hl hD hcy hnw
  have hRf : F.R.frames = 4 := by rw [hR]
  have hRc : F.R.cells = 0 := by rw [hR]
  have hRs : F.R.slots = 0 := by rw [hR]
  have hRl : F.R.locals = 84 := by rw [hR]
  have in2 : ∀ w ∈ u_ws RX2 TX2 2, w ∈ wsX5_bytesOf := by decide +kernel
  have lk15 : Cond.fieldLink RX5 15 (TX2 1).1 (TX2 1).2.1 (TX2 1).2.2.1 ∈ wsX5_bytesOf := by decide +kernel
  have lk21 : Cond.fieldLink RX5 21 (TX2 0).1 (TX2 0).2.1 (TX2 0).2.2.1 ∈ wsX5_bytesOf := by decide +kernel
  obtain ⟨hsL, hsK, hsit, hitL, hitK, hitl, hsu, hu7, hsw, hsr⟩ := id hs
  have loop : ∀ (n : Nat) (j : Nat), 8 - j < n → j ≤ u → G F 3 S 0 0 (QI F (fun r T => S = T ∧ r = boF S it u u) 0 0) 7 [(0, .ref s), (1, .int (boF S it u j)), (2, .int (nI j))] [] := by
    intro n
    induction n with
    | zero => intros; omega
    | succ n ih =>
      intro j hn hj
      refine g_iload_n Z dX5_bytesOf_7 rfl ?_
      refine g_aload_n Z dX5_bytesOf_8 rfl ?_
      refine g_geti Z 2 1 rfl (by decide) in2 lk15 dX5_bytesOf_9 (by assumption) (by assumption) ?_
      rw [hsu]
      refine g_icmp_ge Z 33 dX5_bytesOf_12 (by decide) (fun h12 => ?_) (fun h12 => ?_)
      · have he : j = u := by have := ge_t (by omega) (by omega) h12; omega
        subst he
        refine g_iload_n Z dX5_bytesOf_33 rfl ?_
        exact g_iret Z dX5_bytesOf_34 (by omega) (by omega) (⟨rfl, rfl⟩)
      · have hlt : j < u := ge_f (by omega) (by omega) h12
        obtain ⟨c, hc, hcr⟩ := hs.cr hlt
        obtain ⟨hcL, hcK, ⟨k, hk, ek⟩, -⟩ := id hcr
        have hcl : (nI j).toNatClampNeg = j := nI_clamp (by omega)
        refine g_iload_n Z dX5_bytesOf_15 rfl ?_
        refine g_aload_n Z dX5_bytesOf_16 rfl ?_
        refine g_getr Z 2 0 rfl (by decide) in2 lk21 dX5_bytesOf_17 (by assumption) (by assumption) (by assumption) ?_
        refine g_iload_n Z dX5_bytesOf_20 rfl ?_
        refine g_aald10 Z dX5_bytesOf_21 (by assumption) (by assumption) (by exact vin_of hitl (by omega) (by decide)) (by rw [hcl]; exact hc) ?_
        refine g_csI Z (c_X5_bodyBytesOf F.l F.D F.cy F.nw _ c hcr) 1 gX5_bytesOf_X5_bodyBytesOf rfl (by decide +kernel) (by rw [hRf, hRl]; decide) rfl rfl (Nat.le_of_ble_eq_true rfl) dX5_bytesOf_22 (by rw [hRc, hRs]; omega) (fun r2 U hp => ?_)
        obtain ⟨rfl, rfl⟩ := hp
        refine g_iadd Z dX5_bytesOf_25 ?_
        rw [show boF S it u j + bbF S c = boF S it u (j + 1) by show _ = boF S it u j + bbF S ((S.rr it j).getD 0); rw [hc]; rfl]
        refine g_istore_n Z dX5_bytesOf_26 (by decide) ?_
        refine g_iinc (c := 1) Z dX5_bytesOf_27 rfl (by decide) (by decide) ?_
        rw [nI_1]
        refine g_goto Z 7 dX5_bytesOf_30 (by decide) ?_
        exact g_lv (by (repeat (first | exact trivial | refine And.intro rfl ?_)); done) (ih (j + 1) (by omega) (by omega))
  refine g_aload_n Z dX5_bytesOf_0 rfl ?_
  refine g_csI Z (c_X5_headBytesOf F.l F.D F.cy F.nw _ s it u hs) 1 gX5_bytesOf_X5_headBytesOf rfl (by decide +kernel) (by rw [hRf, hRl]; decide) rfl rfl (Nat.le_of_ble_eq_true rfl) dX5_bytesOf_1 (by rw [hRc, hRs]; omega) (fun r U hp => ?_)
  obtain ⟨rfl, rfl⟩ := hp
  refine g_istore_n Z dX5_bytesOf_4 (by decide) ?_
  refine g_iconst (v := 0) Z dX5_bytesOf_5 (by decide) ?_
  refine g_istore_n Z dX5_bytesOf_6 (by decide) ?_
  exact g_lv (by (repeat (first | exact trivial | refine And.intro rfl ?_)); done) (loop 9 0 (by omega) (by omega))
