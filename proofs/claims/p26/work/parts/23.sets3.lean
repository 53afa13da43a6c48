set_option maxRecDepth 100000 in
set_option maxHeartbeats 2000000 in
/-- how many numbers -/
theorem c_X2_total (l : Launch) (D : va_G) (cy : Nat → ClassId) (nw : Nat) (S : PS) (s it u : Nat) (hs : SetAt S nw s it u)  : kI l yX2_total wsX2_total 0 0 D cy nw [.ref s] S (fun _ T => S = T) 0 0 := by
  refine enterI (cc := cX2_total) (nL := 3) (ret := (some .int)) (by decide +kernel) rfl (Nat.le_of_ble_eq_true rfl) ?_
  intro F Z hl hR hD hcy hnw hnm
  subst hl hD hcy hnw
  have hRf : F.R.frames = 0 := by rw [hR]
  have hRc : F.R.cells = 0 := by rw [hR]
  have hRs : F.R.slots = 0 := by rw [hR]
  have hRl : F.R.locals = 0 := by rw [hR]
  have in1 : ∀ w ∈ u_ws RX1 TX1 4, w ∈ wsX2_total := by decide +kernel
  have in2 : ∀ w ∈ u_ws RX2 TX2 2, w ∈ wsX2_total := by decide +kernel
  have lk11 : Cond.fieldLink RX2 11 (TX2 0).1 (TX2 0).2.1 (TX2 0).2.2.1 ∈ wsX2_total := by decide +kernel
  have lk18 : Cond.fieldLink RX2 18 (TX2 1).1 (TX2 1).2.1 (TX2 1).2.2.1 ∈ wsX2_total := by decide +kernel
  have lk63 : Cond.fieldLink RX2 63 (TX1 2).1 (TX1 2).2.1 (TX1 2).2.2.1 ∈ wsX2_total := by decide +kernel
  obtain ⟨hsL, hsK, hsit, hitL, hitK, hitl, hsu, hu7, hsw, hsr⟩ := id hs
  have loop : ∀ (n : Nat) (j : Nat) (r : Int32), 8 - j < n → j ≤ u → G F 3 S 0 0 (QI F (fun _ T => S = T) 0 0) 4 [(0, .ref s), (1, .int r), (2, .int (nI j))] [] := by
    intro n
    induction n with
    | zero => intros; omega
    | succ n ih =>
      intro j r hn hj
      refine g_iload_n Z dX2_total_4 rfl ?_
      refine g_aload_n Z dX2_total_5 rfl ?_
      refine g_geti Z 2 1 rfl (by decide) in2 lk18 dX2_total_6 (by assumption) (by assumption) ?_
      rw [hsu]
      refine g_icmp_ge Z 30 dX2_total_9 (by decide) (fun h9 => ?_) (fun h9 => ?_)
      · refine g_iload_n Z dX2_total_30 rfl ?_
        exact g_iret Z dX2_total_31 (by omega) (by omega) (rfl)
      · have hlt : j < u := ge_f (by omega) (by omega) h9
        obtain ⟨c, hc, hcr⟩ := hs.cr hlt
        obtain ⟨hcL, hcK, ⟨k, hk, ek⟩, -⟩ := id hcr
        have hcl : (nI j).toNatClampNeg = j := nI_clamp (by omega)
        refine g_iload_n Z dX2_total_12 rfl ?_
        refine g_aload_n Z dX2_total_13 rfl ?_
        refine g_getr Z 2 0 rfl (by decide) in2 lk11 dX2_total_14 (by assumption) (by assumption) (by assumption) ?_
        refine g_iload_n Z dX2_total_17 rfl ?_
        refine g_aald10 Z dX2_total_18 (by assumption) (by assumption) (by exact vin_of hitl (by omega) (by decide)) (by rw [hcl]; exact hc) ?_
        refine g_geti Z 1 2 rfl (by decide) in1 lk63 dX2_total_19 (by assumption) (by assumption) ?_
        refine g_iadd Z dX2_total_22 ?_
        refine g_istore_n Z dX2_total_23 (by decide) ?_
        refine g_iinc (c := 1) Z dX2_total_24 rfl (by decide) (by decide) ?_
        rw [nI_1]
        refine g_goto Z 4 dX2_total_27 (by decide) ?_
        exact g_lv (by (repeat (first | exact trivial | refine And.intro rfl ?_)); done) (ih (j + 1) _ (by omega) (by omega))
  refine g_iconst (v := 0) Z dX2_total_0 (by decide) ?_
  refine g_istore_n Z dX2_total_1 (by decide) ?_
  refine g_iconst (v := 0) Z dX2_total_2 (by decide) ?_
  refine g_istore_n Z dX2_total_3 (by decide) ?_
  exact g_lv (by (repeat (first | exact trivial | refine And.intro rfl ?_)); done) (loop 9 0 _ (by omega) (by omega))

/-- the kind of the container at a place; how many of a kind are ahead of a place -/
def kdF (S : PS) (it i : Nat) : Int32 := match S.rr it i with
  | some c => S.fi c 1
  | none => 0
def tkF (S : PS) (it : Nat) (x : Int32) : Nat → Int32
  | 0 => 0
  | i + 1 => if kdF S it i = x then tkF S it x i + 1 else tkF S it x i
theorem kdF_at {S : PS} {it i c : Nat} (h : S.rr it i = some c) : kdF S it i = S.fi c 1 := by unfold kdF; rw [h]
theorem tkF_y {S : PS} {it i c : Nat} {x : Int32} (h : S.rr it i = some c) (e : S.fi c 1 = x) : tkF S it x i + 1 = tkF S it x (i + 1) := by
  show _ = (if kdF S it i = x then tkF S it x i + 1 else tkF S it x i)
  rw [kdF_at h, if_pos e]
theorem tkF_n {S : PS} {it i c : Nat} {x : Int32} (h : S.rr it i = some c) (e : ¬ S.fi c 1 = x) : tkF S it x i = tkF S it x (i + 1) := by
  show _ = (if kdF S it i = x then tkF S it x i + 1 else tkF S it x i)
  rw [kdF_at h, if_neg e]

set_option maxRecDepth 100000 in
set_option maxHeartbeats 2000000 in
/-- how many of a kind -/
theorem c_X2_totalOfKind (l : Launch) (D : va_G) (cy : Nat → ClassId) (nw : Nat) (S : PS) (s it u : Nat) (hs : SetAt S nw s it u) (x : Int32) : kI l yX2_totalOfKind wsX2_totalOfKind 0 0 D cy nw [.ref s, .int x] S (fun r T => S = T ∧ r = tkF S it x u) 0 0 := by
  refine enterI (cc := cX2_totalOfKind) (nL := 4) (ret := (some .int)) (by decide +kernel) rfl (Nat.le_of_ble_eq_true rfl) ?_
  intro F Z hl hR hD hcy hnw hnm
  subst hl hD hcy hnw
  have hRf : F.R.frames = 0 := by rw [hR]
  have hRc : F.R.cells = 0 := by rw [hR]
  have hRs : F.R.slots = 0 := by rw [hR]
  have hRl : F.R.locals = 0 := by rw [hR]
  have in1 : ∀ w ∈ u_ws RX1 TX1 4, w ∈ wsX2_totalOfKind := by decide +kernel
  have in2 : ∀ w ∈ u_ws RX2 TX2 2, w ∈ wsX2_totalOfKind := by decide +kernel
  have lk11 : Cond.fieldLink RX2 11 (TX2 0).1 (TX2 0).2.1 (TX2 0).2.2.1 ∈ wsX2_totalOfKind := by decide +kernel
  have lk18 : Cond.fieldLink RX2 18 (TX2 1).1 (TX2 1).2.1 (TX2 1).2.2.1 ∈ wsX2_totalOfKind := by decide +kernel
  have lk81 : Cond.fieldLink RX2 81 (TX1 1).1 (TX1 1).2.1 (TX1 1).2.2.1 ∈ wsX2_totalOfKind := by decide +kernel
  obtain ⟨hsL, hsK, hsit, hitL, hitK, hitl, hsu, hu7, hsw, hsr⟩ := id hs
  have loop : ∀ (n : Nat) (j : Nat), 8 - j < n → j ≤ u → G F 4 S 0 0 (QI F (fun r T => S = T ∧ r = tkF S it x u) 0 0) 4 [(0, .ref s), (1, .int x), (2, .int (tkF S it x j)), (3, .int (nI j))] [] := by
    intro n
    induction n with
    | zero => intros; omega
    | succ n ih =>
      intro j hn hj
      refine g_iload_n Z dX2_totalOfKind_4 rfl ?_
      refine g_aload_n Z dX2_totalOfKind_5 rfl ?_
      refine g_geti Z 2 1 rfl (by decide) in2 lk18 dX2_totalOfKind_6 (by assumption) (by assumption) ?_
      rw [hsu]
      refine g_icmp_ge Z 34 dX2_totalOfKind_9 (by decide) (fun h9 => ?_) (fun h9 => ?_)
      · have he : j = u := by have := ge_t (by omega) (by omega) h9; omega
        subst he
        refine g_iload_n Z dX2_totalOfKind_34 rfl ?_
        exact g_iret Z dX2_totalOfKind_35 (by omega) (by omega) (⟨rfl, rfl⟩)
      · have hlt : j < u := ge_f (by omega) (by omega) h9
        obtain ⟨c, hc, hcr⟩ := hs.cr hlt
        obtain ⟨hcL, hcK, ⟨k, hk, ek⟩, -⟩ := id hcr
        have hcl : (nI j).toNatClampNeg = j := nI_clamp (by omega)
        refine g_aload_n Z dX2_totalOfKind_12 rfl ?_
        refine g_getr Z 2 0 rfl (by decide) in2 lk11 dX2_totalOfKind_13 (by assumption) (by assumption) (by assumption) ?_
        refine g_iload_n Z dX2_totalOfKind_16 rfl ?_
        refine g_aald10 Z dX2_totalOfKind_17 (by assumption) (by assumption) (by exact vin_of hitl (by omega) (by decide)) (by rw [hcl]; exact hc) ?_
        refine g_geti Z 1 1 rfl (by decide) in1 lk81 dX2_totalOfKind_18 (by assumption) (by assumption) ?_
        refine g_iload_n Z dX2_totalOfKind_21 rfl ?_
        refine g_icmp_ne Z 28 dX2_totalOfKind_22 (by decide) (fun h22 => ?_) (fun h22 => ?_)
        · rw [tkF_n hc h22]
          refine g_iinc (c := 1) Z dX2_totalOfKind_28 rfl (by decide) (by decide) ?_
          rw [nI_1]
          refine g_goto Z 4 dX2_totalOfKind_31 (by decide) ?_
          exact g_lv (by (repeat (first | exact trivial | refine And.intro rfl ?_)); done) (ih (j + 1) (by omega) (by omega))
        · refine g_iinc (c := 1) Z dX2_totalOfKind_25 rfl (by decide) (by decide) ?_
          rw [tkF_y hc h22]
          refine g_iinc (c := 1) Z dX2_totalOfKind_28 rfl (by decide) (by decide) ?_
          rw [nI_1]
          refine g_goto Z 4 dX2_totalOfKind_31 (by decide) ?_
          exact g_lv (by (repeat (first | exact trivial | refine And.intro rfl ?_)); done) (ih (j + 1) (by omega) (by omega))
  refine g_iconst (v := 0) Z dX2_totalOfKind_0 (by decide) ?_
  refine g_istore_n Z dX2_totalOfKind_1 (by decide) ?_
  refine g_iconst (v := 0) Z dX2_totalOfKind_2 (by decide) ?_
  refine g_istore_n Z dX2_totalOfKind_3 (by decide) ?_
  exact g_lv (by (repeat (first | exact trivial | refine And.intro rfl ?_)); done) (loop 9 0 (by omega) (by omega))

set_option maxRecDepth 100000 in
set_option maxHeartbeats 2000000 in
/-- how many are not above one -/
theorem c_X2_totalUpTo (l : Launch) (D : va_G) (cy : Nat → ClassId) (nw : Nat) (S : PS) (s it u : Nat) (hs : SetAt S nw s it u) (x : Int32) (y : Nat) (hy : y < 65536) : kI l yX2_totalUpTo wsX2_totalUpTo 2 45 D cy nw [.ref s, .int x, .int (nI y)] S (fun _ T => S = T) 0 0 := by
  refine enterI (cc := cX2_totalUpTo) (nL := 5) (ret := (some .int)) (by decide +kernel) rfl (Nat.le_of_ble_eq_true rfl) ?_
  intro F Z hl hR hD hcy hnw hnm
  subst hl hD hcy hnw
  have hRf : F.R.frames = 2 := by rw [hR]
  have hRc : F.R.cells = 0 := by rw [hR]
  have hRs : F.R.slots = 0 := by rw [hR]
  have hRl : F.R.locals = 45 := by rw [hR]
  have in1 : ∀ w ∈ u_ws RX1 TX1 4, w ∈ wsX2_totalUpTo := by decide +kernel
  have in2 : ∀ w ∈ u_ws RX2 TX2 2, w ∈ wsX2_totalUpTo := by decide +kernel
  have lk11 : Cond.fieldLink RX2 11 (TX2 0).1 (TX2 0).2.1 (TX2 0).2.2.1 ∈ wsX2_totalUpTo := by decide +kernel
  have lk18 : Cond.fieldLink RX2 18 (TX2 1).1 (TX2 1).2.1 (TX2 1).2.2.1 ∈ wsX2_totalUpTo := by decide +kernel
  have lk26 : Cond.fieldLink RX2 26 (TX1 0).1 (TX1 0).2.1 (TX1 0).2.2.1 ∈ wsX2_totalUpTo := by decide +kernel
  have lk63 : Cond.fieldLink RX2 63 (TX1 2).1 (TX1 2).2.1 (TX1 2).2.2.1 ∈ wsX2_totalUpTo := by decide +kernel
  obtain ⟨hsL, hsK, hsit, hitL, hitK, hitl, hsu, hu7, hsw, hsr⟩ := id hs
  have loop : ∀ (n : Nat) (j : Nat) (r : Int32), 8 - j < n → j ≤ u → G F 5 S 0 0 (QI F (fun _ T => S = T) 0 0) 5 [(0, .ref s), (1, .int x), (2, .int (nI y)), (3, .int r), (4, .int (nI j))] [] := by
    intro n
    induction n with
    | zero => intros; omega
    | succ n ih =>
      intro j r hn hj
      refine g_iload Z dX2_totalUpTo_5 rfl ?_
      refine g_aload_n Z dX2_totalUpTo_7 rfl ?_
      refine g_geti Z 2 1 rfl (by decide) in2 lk18 dX2_totalUpTo_8 (by assumption) (by assumption) ?_
      rw [hsu]
      refine g_icmp_ge Z 75 dX2_totalUpTo_11 (by decide) (fun h11 => ?_) (fun h11 => ?_)
      · refine g_iload_n Z dX2_totalUpTo_75 rfl ?_
        exact g_iret Z dX2_totalUpTo_76 (by omega) (by omega) (rfl)
      · have hlt : j < u := ge_f (by omega) (by omega) h11
        obtain ⟨c, hc, hcr⟩ := hs.cr hlt
        obtain ⟨hcL, hcK, ⟨k, hk, ek⟩, -⟩ := id hcr
        have hcl : (nI j).toNatClampNeg = j := nI_clamp (by omega)
        refine g_aload_n Z dX2_totalUpTo_14 rfl ?_
        refine g_getr Z 2 0 rfl (by decide) in2 lk11 dX2_totalUpTo_15 (by assumption) (by assumption) (by assumption) ?_
        refine g_iload Z dX2_totalUpTo_18 rfl ?_
        refine g_aald10 Z dX2_totalUpTo_20 (by assumption) (by assumption) (by exact vin_of hitl (by omega) (by decide)) (by rw [hcl]; exact hc) ?_
        refine g_geti Z 1 0 rfl (by decide) in1 lk26 dX2_totalUpTo_21 (by assumption) (by assumption) ?_
        refine g_iload_n Z dX2_totalUpTo_24 rfl ?_
        refine g_icmp_gt Z 75 dX2_totalUpTo_25 (by decide) (fun h25 => ?_) (fun h25 => ?_)
        · refine g_iload_n Z dX2_totalUpTo_75 rfl ?_
          exact g_iret Z dX2_totalUpTo_76 (by omega) (by omega) (rfl)
        · refine g_iload_n Z dX2_totalUpTo_28 rfl ?_
          refine g_aload_n Z dX2_totalUpTo_29 rfl ?_
          refine g_getr Z 2 0 rfl (by decide) in2 lk11 dX2_totalUpTo_30 (by assumption) (by assumption) (by assumption) ?_
          refine g_iload Z dX2_totalUpTo_33 rfl ?_
          refine g_aald10 Z dX2_totalUpTo_35 (by assumption) (by assumption) (by exact vin_of hitl (by omega) (by decide)) (by rw [hcl]; exact hc) ?_
          refine g_geti Z 1 0 rfl (by decide) in1 lk26 dX2_totalUpTo_36 (by assumption) (by assumption) ?_
          refine g_iload_n Z dX2_totalUpTo_39 rfl ?_
          refine g_icmp_ge Z 56 dX2_totalUpTo_40 (by decide) (fun h40 => ?_) (fun h40 => ?_)
          · refine g_aload_n Z dX2_totalUpTo_56 rfl ?_
            refine g_getr Z 2 0 rfl (by decide) in2 lk11 dX2_totalUpTo_57 (by assumption) (by assumption) (by assumption) ?_
            refine g_iload Z dX2_totalUpTo_60 rfl ?_
            refine g_aald10 Z dX2_totalUpTo_62 (by assumption) (by assumption) (by exact vin_of hitl (by omega) (by decide)) (by rw [hcl]; exact hc) ?_
            refine g_iload_n Z dX2_totalUpTo_63 rfl ?_
            refine g_cvI Z (c_X1_lowsUpTo F.l F.D F.cy F.nw _ c hcr y hy) 1 gX2_totalUpTo_X1_lowsUpTo rfl (by decide +kernel) (by rw [hRf, hRl]; decide) (by assumption) (κ := 1) (by assumption) rfl (by decide) rfl rfl (Nat.le_of_ble_eq_true rfl) dX2_totalUpTo_64 (by rw [hRc, hRs]; omega) (fun r2 U hp => ?_)
            obtain rfl := hp
            refine g_iadd Z dX2_totalUpTo_67 ?_
            refine g_istore_n Z dX2_totalUpTo_68 (by decide) ?_
            refine g_iinc (c := 1) Z dX2_totalUpTo_69 rfl (by decide) (by decide) ?_
            rw [nI_1]
            refine g_goto Z 5 dX2_totalUpTo_72 (by decide) ?_
            exact g_lv (by (repeat (first | exact trivial | refine And.intro rfl ?_)); done) (ih (j + 1) _ (by omega) (by omega))
          · refine g_aload_n Z dX2_totalUpTo_43 rfl ?_
            refine g_getr Z 2 0 rfl (by decide) in2 lk11 dX2_totalUpTo_44 (by assumption) (by assumption) (by assumption) ?_
            refine g_iload Z dX2_totalUpTo_47 rfl ?_
            refine g_aald10 Z dX2_totalUpTo_49 (by assumption) (by assumption) (by exact vin_of hitl (by omega) (by decide)) (by rw [hcl]; exact hc) ?_
            refine g_geti Z 1 2 rfl (by decide) in1 lk63 dX2_totalUpTo_50 (by assumption) (by assumption) ?_
            refine g_goto Z 67 dX2_totalUpTo_53 (by decide) ?_
            refine g_iadd Z dX2_totalUpTo_67 ?_
            refine g_istore_n Z dX2_totalUpTo_68 (by decide) ?_
            refine g_iinc (c := 1) Z dX2_totalUpTo_69 rfl (by decide) (by decide) ?_
            rw [nI_1]
            refine g_goto Z 5 dX2_totalUpTo_72 (by decide) ?_
            exact g_lv (by (repeat (first | exact trivial | refine And.intro rfl ?_)); done) (ih (j + 1) _ (by omega) (by omega))
  refine g_iconst (v := 0) Z dX2_totalUpTo_0 (by decide) ?_
  refine g_istore_n Z dX2_totalUpTo_1 (by decide) ?_
  refine g_iconst (v := 0) Z dX2_totalUpTo_2 (by decide) ?_
  refine g_istore Z dX2_totalUpTo_3 (by decide) ?_
  exact g_lv (by (repeat (first | exact trivial | refine And.intro rfl ?_)); done) (loop 9 0 _ (by omega) (by omega))

set_option maxRecDepth 100000 in
set_option maxHeartbeats 2000000 in
/-- static -/
theorem c_X2_numberOf (l : Launch) (D : va_G) (cy : Nat → ClassId) (nw : Nat) (S : PS) (x y : Int32) : kL l yX2_numberOf wsX2_numberOf 0 0 D cy nw [.int x, .int y] S (fun _ T => S = T) 0 0 := by
  refine enterL (cc := cX2_numberOf) (nL := 2) (ret := (some .long)) (by decide +kernel) rfl (Nat.le_of_ble_eq_true rfl) ?_
  intro F Z hl hR hD hcy hnw hnm
  subst hl hD hcy hnw
  have hRf : F.R.frames = 0 := by rw [hR]
  have hRc : F.R.cells = 0 := by rw [hR]
  have hRs : F.R.slots = 0 := by rw [hR]
  have hRl : F.R.locals = 0 := by rw [hR]
  refine g_iload_n Z dX2_numberOf_0 rfl ?_
  refine g_i2l Z dX2_numberOf_1 ?_
  refine g_bipush (v := 16) Z dX2_numberOf_2 (by decide) ?_
  refine g_lshl Z dX2_numberOf_4 ?_
  refine g_iload_n Z dX2_numberOf_5 rfl ?_
  refine g_i2l Z dX2_numberOf_6 ?_
  refine g_lor Z dX2_numberOf_7 ?_
  exact g_lret Z dX2_numberOf_8 (by omega) (by omega) (rfl)

set_option maxRecDepth 100000 in
set_option maxHeartbeats 2000000 in
/-- the number of a rank -/
theorem c_X2_numberAt (l : Launch) (D : va_G) (cy : Nat → ClassId) (nw : Nat) (S : PS) (s it u : Nat) (hs : SetAt S nw s it u) (x : Int32) : kL l yX2_numberAt wsX2_numberAt 3 70 D cy nw [.ref s, .int x] S (fun _ T => S = T) 0 0 := by
  refine enterL (cc := cX2_numberAt) (nL := 4) (ret := (some .long)) (by decide +kernel) rfl (Nat.le_of_ble_eq_true rfl) ?_
  intro F Z hl hR hD hcy hnw hnm
  subst hl hD hcy hnw
  have hRf : F.R.frames = 3 := by rw [hR]
  have hRc : F.R.cells = 0 := by rw [hR]
  have hRs : F.R.slots = 0 := by rw [hR]
  have hRl : F.R.locals = 70 := by rw [hR]
  have in1 : ∀ w ∈ u_ws RX1 TX1 4, w ∈ wsX2_numberAt := by decide +kernel
  have in2 : ∀ w ∈ u_ws RX2 TX2 2, w ∈ wsX2_numberAt := by decide +kernel
  have lk11 : Cond.fieldLink RX2 11 (TX2 0).1 (TX2 0).2.1 (TX2 0).2.2.1 ∈ wsX2_numberAt := by decide +kernel
  have lk18 : Cond.fieldLink RX2 18 (TX2 1).1 (TX2 1).2.1 (TX2 1).2.2.1 ∈ wsX2_numberAt := by decide +kernel
  have lk26 : Cond.fieldLink RX2 26 (TX1 0).1 (TX1 0).2.1 (TX1 0).2.2.1 ∈ wsX2_numberAt := by decide +kernel
  have lk63 : Cond.fieldLink RX2 63 (TX1 2).1 (TX1 2).2.1 (TX1 2).2.2.1 ∈ wsX2_numberAt := by decide +kernel
  have ct94 : Cond.constantLong RX2 94 (-1) ∈ wsX2_numberAt := by decide +kernel
  obtain ⟨hsL, hsK, hsit, hitL, hitK, hitl, hsu, hu7, hsw, hsr⟩ := id hs
  have loop : ∀ (n : Nat) (j : Nat) (r : Int32), 8 - j < n → j ≤ u → G F 4 S 0 0 (QL F (fun _ T => S = T) 0 0) 4 [(0, .ref s), (1, .int x), (2, .int r), (3, .int (nI j))] [] := by
    intro n
    induction n with
    | zero => intros; omega
    | succ n ih =>
      intro j r hn hj
      refine g_iload_n Z dX2_numberAt_4 rfl ?_
      refine g_aload_n Z dX2_numberAt_5 rfl ?_
      refine g_geti Z 2 1 rfl (by decide) in2 lk18 dX2_numberAt_6 (by assumption) (by assumption) ?_
      rw [hsu]
      refine g_icmp_ge Z 66 dX2_numberAt_9 (by decide) (fun h9 => ?_) (fun h9 => ?_)
      · refine g_ldc2 (v := -1) Z dX2_numberAt_66 ct94 ?_
        exact g_lret Z dX2_numberAt_69 (by omega) (by omega) (rfl)
      · have hlt : j < u := ge_f (by omega) (by omega) h9
        obtain ⟨c, hc, hcr⟩ := hs.cr hlt
        obtain ⟨hcL, hcK, ⟨k, hk, ek⟩, -⟩ := id hcr
        have hcl : (nI j).toNatClampNeg = j := nI_clamp (by omega)
        refine g_iload_n Z dX2_numberAt_12 rfl ?_
        refine g_aload_n Z dX2_numberAt_13 rfl ?_
        refine g_getr Z 2 0 rfl (by decide) in2 lk11 dX2_numberAt_14 (by assumption) (by assumption) (by assumption) ?_
        refine g_iload_n Z dX2_numberAt_17 rfl ?_
        refine g_aald10 Z dX2_numberAt_18 (by assumption) (by assumption) (by exact vin_of hitl (by omega) (by decide)) (by rw [hcl]; exact hc) ?_
        refine g_geti Z 1 2 rfl (by decide) in1 lk63 dX2_numberAt_19 (by assumption) (by assumption) ?_
        refine g_icmp_ge Z 48 dX2_numberAt_22 (by decide) (fun h22 => ?_) (fun h22 => ?_)
        · refine g_iload_n Z dX2_numberAt_48 rfl ?_
          refine g_aload_n Z dX2_numberAt_49 rfl ?_
          refine g_getr Z 2 0 rfl (by decide) in2 lk11 dX2_numberAt_50 (by assumption) (by assumption) (by assumption) ?_
          refine g_iload_n Z dX2_numberAt_53 rfl ?_
          refine g_aald10 Z dX2_numberAt_54 (by assumption) (by assumption) (by exact vin_of hitl (by omega) (by decide)) (by rw [hcl]; exact hc) ?_
          refine g_geti Z 1 2 rfl (by decide) in1 lk63 dX2_numberAt_55 (by assumption) (by assumption) ?_
          refine g_isub Z dX2_numberAt_58 ?_
          refine g_istore_n Z dX2_numberAt_59 (by decide) ?_
          refine g_iinc (c := 1) Z dX2_numberAt_60 rfl (by decide) (by decide) ?_
          rw [nI_1]
          refine g_goto Z 4 dX2_numberAt_63 (by decide) ?_
          exact g_lv (by (repeat (first | exact trivial | refine And.intro rfl ?_)); done) (ih (j + 1) _ (by omega) (by omega))
        · refine g_aload_n Z dX2_numberAt_25 rfl ?_
          refine g_getr Z 2 0 rfl (by decide) in2 lk11 dX2_numberAt_26 (by assumption) (by assumption) (by assumption) ?_
          refine g_iload_n Z dX2_numberAt_29 rfl ?_
          refine g_aald10 Z dX2_numberAt_30 (by assumption) (by assumption) (by exact vin_of hitl (by omega) (by decide)) (by rw [hcl]; exact hc) ?_
          refine g_geti Z 1 0 rfl (by decide) in1 lk26 dX2_numberAt_31 (by assumption) (by assumption) ?_
          refine g_aload_n Z dX2_numberAt_34 rfl ?_
          refine g_getr Z 2 0 rfl (by decide) in2 lk11 dX2_numberAt_35 (by assumption) (by assumption) (by assumption) ?_
          refine g_iload_n Z dX2_numberAt_38 rfl ?_
          refine g_aald10 Z dX2_numberAt_39 (by assumption) (by assumption) (by exact vin_of hitl (by omega) (by decide)) (by rw [hcl]; exact hc) ?_
          refine g_iload_n Z dX2_numberAt_40 rfl ?_
          refine g_cvI Z (c_X1_lowAt F.l F.D F.cy F.nw _ c hcr _) 1 gX2_numberAt_X1_lowAt rfl (by decide +kernel) (by rw [hRf, hRl]; decide) (by assumption) (κ := 1) (by assumption) rfl (by decide) rfl rfl (Nat.le_of_ble_eq_true rfl) dX2_numberAt_41 (by rw [hRc, hRs]; omega) (fun r2 U hp => ?_)
          obtain rfl := hp
          refine g_csL Z (c_X2_numberOf F.l F.D F.cy F.nw _ _ _) 2 gX2_numberAt_X2_numberOf rfl (by decide +kernel) (by rw [hRf, hRl]; decide) rfl rfl (Nat.le_of_ble_eq_true rfl) dX2_numberAt_44 (by rw [hRc, hRs]; omega) (fun r3 U hp => ?_)
          obtain rfl := hp
          exact g_lret Z dX2_numberAt_47 (by omega) (by omega) (rfl)
  refine g_iload_n Z dX2_numberAt_0 rfl ?_
  refine g_istore_n Z dX2_numberAt_1 (by decide) ?_
  refine g_iconst (v := 0) Z dX2_numberAt_2 (by decide) ?_
  refine g_istore_n Z dX2_numberAt_3 (by decide) ?_
  exact g_lv (by (repeat (first | exact trivial | refine And.intro rfl ?_)); done) (loop 9 0 _ (by omega) (by omega))

set_option maxRecDepth 100000 in
set_option maxHeartbeats 2000000 in
/-- the first number from one on -/
theorem c_X2_firstFrom (l : Launch) (D : va_G) (cy : Nat → ClassId) (nw : Nat) (S : PS) (s it u : Nat) (hs : SetAt S nw s it u) (x : Int32) (y : Nat) (hy : y < 65536) : kL l yX2_firstFrom wsX2_firstFrom 4 91 D cy nw [.ref s, .int x, .int (nI y)] S (fun _ T => S = T) 0 0 := by
  refine enterL (cc := cX2_firstFrom) (nL := 5) (ret := (some .long)) (by decide +kernel) rfl (Nat.le_of_ble_eq_true rfl) ?_
  intro F Z hl hR hD hcy hnw hnm
  subst hl hD hcy hnw
  have hRf : F.R.frames = 4 := by rw [hR]
  have hRc : F.R.cells = 0 := by rw [hR]
  have hRs : F.R.slots = 0 := by rw [hR]
  have hRl : F.R.locals = 91 := by rw [hR]
  have in1 : ∀ w ∈ u_ws RX1 TX1 4, w ∈ wsX2_firstFrom := by decide +kernel
  have in2 : ∀ w ∈ u_ws RX2 TX2 2, w ∈ wsX2_firstFrom := by decide +kernel
  have lk11 : Cond.fieldLink RX2 11 (TX2 0).1 (TX2 0).2.1 (TX2 0).2.2.1 ∈ wsX2_firstFrom := by decide +kernel
  have lk18 : Cond.fieldLink RX2 18 (TX2 1).1 (TX2 1).2.1 (TX2 1).2.2.1 ∈ wsX2_firstFrom := by decide +kernel
  have lk26 : Cond.fieldLink RX2 26 (TX1 0).1 (TX1 0).2.1 (TX1 0).2.2.1 ∈ wsX2_firstFrom := by decide +kernel
  have ct29 : Cond.constant RX2 29 (65536) ∈ wsX2_firstFrom := by decide +kernel
  have ct94 : Cond.constantLong RX2 94 (-1) ∈ wsX2_firstFrom := by decide +kernel
  obtain ⟨hsL, hsK, hsit, hitL, hitK, hitl, hsu, hu7, hsw, hsr⟩ := id hs
  have loop : ∀ (n : Nat) (j : Nat), 8 - j < n → j ≤ u → G F 5 S 0 0 (QL F (fun _ T => S = T) 0 0) 6 [(0, .ref s), (1, .int x), (2, .int (nI y)), (3, .int (nI j))] [] := by
    intro n
    induction n with
    | zero => intros; omega
    | succ n ih =>
      intro j hn hj
      refine g_iload_n Z dX2_firstFrom_6 rfl ?_
      refine g_aload_n Z dX2_firstFrom_7 rfl ?_
      refine g_geti Z 2 1 rfl (by decide) in2 lk18 dX2_firstFrom_8 (by assumption) (by assumption) ?_
      rw [hsu]
      refine g_icmp_ge Z 71 dX2_firstFrom_11 (by decide) (fun h11 => ?_) (fun h11 => ?_)
      · refine g_ldc2 (v := -1) Z dX2_firstFrom_71 ct94 ?_
        exact g_lret Z dX2_firstFrom_74 (by omega) (by omega) (rfl)
      · have hlt : j < u := ge_f (by omega) (by omega) h11
        obtain ⟨c, hc, hcr⟩ := hs.cr hlt
        obtain ⟨hcL, hcK, ⟨k, hk, ek⟩, -⟩ := id hcr
        have hcl : (nI j).toNatClampNeg = j := nI_clamp (by omega)
        refine g_aload_n Z dX2_firstFrom_14 rfl ?_
        refine g_getr Z 2 0 rfl (by decide) in2 lk11 dX2_firstFrom_15 (by assumption) (by assumption) (by assumption) ?_
        refine g_iload_n Z dX2_firstFrom_18 rfl ?_
        refine g_aald10 Z dX2_firstFrom_19 (by assumption) (by assumption) (by exact vin_of hitl (by omega) (by decide)) (by rw [hcl]; exact hc) ?_
        refine g_aload_n Z dX2_firstFrom_20 rfl ?_
        refine g_getr Z 2 0 rfl (by decide) in2 lk11 dX2_firstFrom_21 (by assumption) (by assumption) (by assumption) ?_
        refine g_iload_n Z dX2_firstFrom_24 rfl ?_
        refine g_aald10 Z dX2_firstFrom_25 (by assumption) (by assumption) (by exact vin_of hitl (by omega) (by decide)) (by rw [hcl]; exact hc) ?_
        refine g_geti Z 1 0 rfl (by decide) in1 lk26 dX2_firstFrom_26 (by assumption) (by assumption) ?_
        refine g_iload_n Z dX2_firstFrom_29 rfl ?_
        refine g_icmp_ne Z 37 dX2_firstFrom_30 (by decide) (fun h30 => ?_) (fun h30 => ?_)
        · refine g_iconst (v := 0) Z dX2_firstFrom_37 (by decide) ?_
          refine g_cvI Z (c_X1_firstIn F.l F.D F.cy F.nw _ c hcr 0 (by omega)) 1 gX2_firstFrom_X1_firstIn rfl (by decide +kernel) (by rw [hRf, hRl]; decide) (by assumption) (κ := 1) (by assumption) rfl (by decide) rfl rfl (Nat.le_of_ble_eq_true rfl) dX2_firstFrom_38 (by rw [hRc, hRs]; omega) (fun r2 U hp => ?_)
          obtain ⟨rfl, n2, hn2, rfl⟩ := hp
          refine g_istore Z dX2_firstFrom_41 (by decide) ?_
          refine g_iload Z dX2_firstFrom_43 rfl ?_
          refine g_ldc (v := 65536) Z dX2_firstFrom_45 ct29 ?_
          refine g_icmp_eq Z 65 dX2_firstFrom_47 (by decide) (fun h47 => ?_) (fun h47 => ?_)
          · refine g_iinc (c := 1) Z dX2_firstFrom_65 rfl (by decide) (by decide) ?_
            rw [nI_1]
            refine g_goto Z 6 dX2_firstFrom_68 (by decide) ?_
            exact g_lv (by (repeat (first | exact trivial | refine And.intro rfl ?_)); done) (ih (j + 1) (by omega) (by omega))
          · refine g_aload_n Z dX2_firstFrom_50 rfl ?_
            refine g_getr Z 2 0 rfl (by decide) in2 lk11 dX2_firstFrom_51 (by assumption) (by assumption) (by assumption) ?_
            refine g_iload_n Z dX2_firstFrom_54 rfl ?_
            refine g_aald10 Z dX2_firstFrom_55 (by assumption) (by assumption) (by exact vin_of hitl (by omega) (by decide)) (by rw [hcl]; exact hc) ?_
            refine g_geti Z 1 0 rfl (by decide) in1 lk26 dX2_firstFrom_56 (by assumption) (by assumption) ?_
            refine g_iload Z dX2_firstFrom_59 rfl ?_
            refine g_csL Z (c_X2_numberOf F.l F.D F.cy F.nw _ _ _) 2 gX2_firstFrom_X2_numberOf rfl (by decide +kernel) (by rw [hRf, hRl]; decide) rfl rfl (Nat.le_of_ble_eq_true rfl) dX2_firstFrom_61 (by rw [hRc, hRs]; omega) (fun r3 U hp => ?_)
            obtain rfl := hp
            exact g_lret Z dX2_firstFrom_64 (by omega) (by omega) (rfl)
        · refine g_iload_n Z dX2_firstFrom_33 rfl ?_
          refine g_goto Z 38 dX2_firstFrom_34 (by decide) ?_
          refine g_cvI Z (c_X1_firstIn F.l F.D F.cy F.nw _ c hcr y (by omega)) 1 gX2_firstFrom_X1_firstIn rfl (by decide +kernel) (by rw [hRf, hRl]; decide) (by assumption) (κ := 1) (by assumption) rfl (by decide) rfl rfl (Nat.le_of_ble_eq_true rfl) dX2_firstFrom_38 (by rw [hRc, hRs]; omega) (fun r2 U hp => ?_)
          obtain ⟨rfl, n2, hn2, rfl⟩ := hp
          refine g_istore Z dX2_firstFrom_41 (by decide) ?_
          refine g_iload Z dX2_firstFrom_43 rfl ?_
          refine g_ldc (v := 65536) Z dX2_firstFrom_45 ct29 ?_
          refine g_icmp_eq Z 65 dX2_firstFrom_47 (by decide) (fun h47 => ?_) (fun h47 => ?_)
          · refine g_iinc (c := 1) Z dX2_firstFrom_65 rfl (by decide) (by decide) ?_
            rw [nI_1]
            refine g_goto Z 6 dX2_firstFrom_68 (by decide) ?_
            exact g_lv (by (repeat (first | exact trivial | refine And.intro rfl ?_)); done) (ih (j + 1) (by omega) (by omega))
          · refine g_aload_n Z dX2_firstFrom_50 rfl ?_
            refine g_getr Z 2 0 rfl (by decide) in2 lk11 dX2_firstFrom_51 (by assumption) (by assumption) (by assumption) ?_
            refine g_iload_n Z dX2_firstFrom_54 rfl ?_
            refine g_aald10 Z dX2_firstFrom_55 (by assumption) (by assumption) (by exact vin_of hitl (by omega) (by decide)) (by rw [hcl]; exact hc) ?_
            refine g_geti Z 1 0 rfl (by decide) in1 lk26 dX2_firstFrom_56 (by assumption) (by assumption) ?_
            refine g_iload Z dX2_firstFrom_59 rfl ?_
            refine g_csL Z (c_X2_numberOf F.l F.D F.cy F.nw _ _ _) 2 gX2_firstFrom_X2_numberOf rfl (by decide +kernel) (by rw [hRf, hRl]; decide) rfl rfl (Nat.le_of_ble_eq_true rfl) dX2_firstFrom_61 (by rw [hRc, hRs]; omega) (fun r3 U hp => ?_)
            obtain rfl := hp
            exact g_lret Z dX2_firstFrom_64 (by omega) (by omega) (rfl)
  refine g_aload_n Z dX2_firstFrom_0 rfl ?_
  refine g_iload_n Z dX2_firstFrom_1 rfl ?_
  refine g_cvI Z (c_X2_indexOf F.l F.D F.cy F.nw _ s it u hs _) 1 gX2_firstFrom_X2_indexOf rfl (by decide +kernel) (by rw [hRf, hRl]; decide) (by assumption) (κ := 2) (by assumption) rfl (by decide) rfl rfl (Nat.le_of_ble_eq_true rfl) dX2_firstFrom_2 (by rw [hRc, hRs]; omega) (fun r T hp => ?_)
  obtain ⟨rfl, j, hj, rfl⟩ := hp
  refine g_istore_n Z dX2_firstFrom_5 (by decide) ?_
  exact g_lv (by (repeat (first | exact trivial | refine And.intro rfl ?_)); done) (loop 9 j (by omega) hj)

set_option maxRecDepth 100000 in
set_option maxHeartbeats 2000000 in
/-- two sets held beside each other -/
theorem c_X2_isInside (l : Launch) (D : va_G) (cy : Nat → ClassId) (nw : Nat) (S : PS) (s it u o io uo : Nat) (hs : SetAt S nw s it u) (ho : SetAt S nw o io uo) : kI l yX2_isInside wsX2_isInside 2 44 D cy nw [.ref s, .ref o] S (fun r T => S = T ∧ (r = 0 ∨ r = 1)) 0 0 := by
  refine enterI (cc := cX2_isInside) (nL := 4) (ret := (some .boolean)) (by decide +kernel) rfl (Nat.le_of_ble_eq_true rfl) ?_
  intro F Z hl hR hD hcy hnw hnm
  subst hl hD hcy hnw
  have hRf : F.R.frames = 2 := by rw [hR]
  have hRc : F.R.cells = 0 := by rw [hR]
  have hRs : F.R.slots = 0 := by rw [hR]
  have hRl : F.R.locals = 44 := by rw [hR]
  have in1 : ∀ w ∈ u_ws RX1 TX1 4, w ∈ wsX2_isInside := by decide +kernel
  have in2 : ∀ w ∈ u_ws RX2 TX2 2, w ∈ wsX2_isInside := by decide +kernel
  have lk11 : Cond.fieldLink RX2 11 (TX2 0).1 (TX2 0).2.1 (TX2 0).2.2.1 ∈ wsX2_isInside := by decide +kernel
  have lk18 : Cond.fieldLink RX2 18 (TX2 1).1 (TX2 1).2.1 (TX2 1).2.2.1 ∈ wsX2_isInside := by decide +kernel
  have lk26 : Cond.fieldLink RX2 26 (TX1 0).1 (TX1 0).2.1 (TX1 0).2.2.1 ∈ wsX2_isInside := by decide +kernel
  obtain ⟨hsL, hsK, hsit, hitL, hitK, hitl, hsu, hu7, hsw, hsr⟩ := id hs
  obtain ⟨hoL, hoK, -, -, -, -, -, -, -, -⟩ := id ho
  have loop : ∀ (n : Nat) (j : Nat), 8 - j < n → j ≤ u → G F 4 S 0 0 (QI F (fun r T => S = T ∧ (r = 0 ∨ r = 1)) 0 0) 2 [(0, .ref s), (1, .ref o), (2, .int (nI j))] [] := by
    intro n
    induction n with
    | zero => intros; omega
    | succ n ih =>
      intro j hn hj
      refine g_iload_n Z dX2_isInside_2 rfl ?_
      refine g_aload_n Z dX2_isInside_3 rfl ?_
      refine g_geti Z 2 1 rfl (by decide) in2 lk18 dX2_isInside_4 (by assumption) (by assumption) ?_
      rw [hsu]
      refine g_icmp_ge Z 49 dX2_isInside_7 (by decide) (fun h7 => ?_) (fun h7 => ?_)
      · refine g_iconst (v := 1) Z dX2_isInside_49 (by decide) ?_
        exact g_zret Z dX2_isInside_50 (by rfl) (by omega) (by omega) (⟨rfl, by first | exact Or.inl rfl | exact Or.inr rfl⟩)
      · have hlt : j < u := ge_f (by omega) (by omega) h7
        obtain ⟨c, hc, hcr⟩ := hs.cr hlt
        obtain ⟨hcL, hcK, ⟨k, hk, ek⟩, -⟩ := id hcr
        have hcl : (nI j).toNatClampNeg = j := nI_clamp (by omega)
        refine g_aload_n Z dX2_isInside_10 rfl ?_
        refine g_aload_n Z dX2_isInside_11 rfl ?_
        refine g_getr Z 2 0 rfl (by decide) in2 lk11 dX2_isInside_12 (by assumption) (by assumption) (by assumption) ?_
        refine g_iload_n Z dX2_isInside_15 rfl ?_
        refine g_aald10 Z dX2_isInside_16 (by assumption) (by assumption) (by exact vin_of hitl (by omega) (by decide)) (by rw [hcl]; exact hc) ?_
        refine g_geti Z 1 0 rfl (by decide) in1 lk26 dX2_isInside_17 (by assumption) (by assumption) ?_
        rw [ek]
        refine g_cvR Z (c_X2_find F.l F.D F.cy F.nw _ o io uo ho k hk) 1 gX2_isInside_X2_find rfl (by decide +kernel) (by rw [hRf, hRl]; decide) (by assumption) (κ := 2) (by assumption) rfl (by decide) rfl rfl (Nat.le_of_ble_eq_true rfl) dX2_isInside_20 (by rw [hRc, hRs]; omega) (fun r U hp => ?_)
        obtain ⟨rfl, hr⟩ := hp
        rcases hr with rfl | ⟨d, rfl, hdr⟩
        · refine g_astore_nN Z dX2_isInside_23 (by decide) ?_
          refine g_aload_nN Z dX2_isInside_24 rfl ?_
          refine g_ifnullN Z 41 dX2_isInside_25 (by decide) ?_
          refine g_iconst (v := 0) Z dX2_isInside_41 (by decide) ?_
          exact g_zret Z dX2_isInside_42 (by rfl) (by omega) (by omega) (⟨rfl, by first | exact Or.inl rfl | exact Or.inr rfl⟩)
        · refine g_astore_n Z dX2_isInside_23 (by decide) ?_
          refine g_aload_n Z dX2_isInside_24 rfl ?_
          refine g_ifnull Z dX2_isInside_25 ?_
          refine g_aload_n Z dX2_isInside_28 rfl ?_
          refine g_getr Z 2 0 rfl (by decide) in2 lk11 dX2_isInside_29 (by assumption) (by assumption) (by assumption) ?_
          refine g_iload_n Z dX2_isInside_32 rfl ?_
          refine g_aald10 Z dX2_isInside_33 (by assumption) (by assumption) (by exact vin_of hitl (by omega) (by decide)) (by rw [hcl]; exact hc) ?_
          refine g_aload_n Z dX2_isInside_34 rfl ?_
          refine g_cvI Z (c_X1_hasNoLowBut F.l F.D F.cy F.nw _ c d hcr hdr) 1 gX2_isInside_X1_hasNoLowBut rfl (by decide +kernel) (by rw [hRf, hRl]; decide) (by assumption) (κ := 1) (by assumption) rfl (by decide) rfl rfl (Nat.le_of_ble_eq_true rfl) dX2_isInside_35 (by rw [hRc, hRs]; omega) (fun r2 U hp2 => ?_)
          obtain ⟨rfl, -⟩ := hp2
          refine g_if_ne Z 43 dX2_isInside_38 (by decide) (fun h38 => ?_) (fun h38 => ?_)
          · refine g_iinc (c := 1) Z dX2_isInside_43 rfl (by decide) (by decide) ?_
            rw [nI_1]
            refine g_goto Z 2 dX2_isInside_46 (by decide) ?_
            exact g_lv (by (repeat (first | exact trivial | refine And.intro rfl ?_)); done) (ih (j + 1) (by omega) (by omega))
          · refine g_iconst (v := 0) Z dX2_isInside_41 (by decide) ?_
            exact g_zret Z dX2_isInside_42 (by rfl) (by omega) (by omega) (⟨rfl, by first | exact Or.inl rfl | exact Or.inr rfl⟩)
  refine g_iconst (v := 0) Z dX2_isInside_0 (by decide) ?_
  refine g_istore_n Z dX2_isInside_1 (by decide) ?_
  exact g_lv (by (repeat (first | exact trivial | refine And.intro rfl ?_)); done) (loop 9 0 (by omega) (by omega))

set_option maxRecDepth 100000 in
set_option maxHeartbeats 2000000 in
/-- two sets held beside each other -/
theorem c_X2_meets (l : Launch) (D : va_G) (cy : Nat → ClassId) (nw : Nat) (S : PS) (s it u o io uo : Nat) (hs : SetAt S nw s it u) (ho : SetAt S nw o io uo) : kI l yX2_meets wsX2_meets 2 44 D cy nw [.ref s, .ref o] S (fun r T => S = T ∧ (r = 0 ∨ r = 1)) 0 0 := by
  refine enterI (cc := cX2_meets) (nL := 4) (ret := (some .boolean)) (by decide +kernel) rfl (Nat.le_of_ble_eq_true rfl) ?_
  intro F Z hl hR hD hcy hnw hnm
  subst hl hD hcy hnw
  have hRf : F.R.frames = 2 := by rw [hR]
  have hRc : F.R.cells = 0 := by rw [hR]
  have hRs : F.R.slots = 0 := by rw [hR]
  have hRl : F.R.locals = 44 := by rw [hR]
  have in1 : ∀ w ∈ u_ws RX1 TX1 4, w ∈ wsX2_meets := by decide +kernel
  have in2 : ∀ w ∈ u_ws RX2 TX2 2, w ∈ wsX2_meets := by decide +kernel
  have lk11 : Cond.fieldLink RX2 11 (TX2 0).1 (TX2 0).2.1 (TX2 0).2.2.1 ∈ wsX2_meets := by decide +kernel
  have lk18 : Cond.fieldLink RX2 18 (TX2 1).1 (TX2 1).2.1 (TX2 1).2.2.1 ∈ wsX2_meets := by decide +kernel
  have lk26 : Cond.fieldLink RX2 26 (TX1 0).1 (TX1 0).2.1 (TX1 0).2.2.1 ∈ wsX2_meets := by decide +kernel
  obtain ⟨hsL, hsK, hsit, hitL, hitK, hitl, hsu, hu7, hsw, hsr⟩ := id hs
  obtain ⟨hoL, hoK, -, -, -, -, -, -, -, -⟩ := id ho
  have loop : ∀ (n : Nat) (j : Nat), 8 - j < n → j ≤ u → G F 4 S 0 0 (QI F (fun r T => S = T ∧ (r = 0 ∨ r = 1)) 0 0) 2 [(0, .ref s), (1, .ref o), (2, .int (nI j))] [] := by
    intro n
    induction n with
    | zero => intros; omega
    | succ n ih =>
      intro j hn hj
      refine g_iload_n Z dX2_meets_2 rfl ?_
      refine g_aload_n Z dX2_meets_3 rfl ?_
      refine g_geti Z 2 1 rfl (by decide) in2 lk18 dX2_meets_4 (by assumption) (by assumption) ?_
      rw [hsu]
      refine g_icmp_ge Z 49 dX2_meets_7 (by decide) (fun h7 => ?_) (fun h7 => ?_)
      · refine g_iconst (v := 0) Z dX2_meets_49 (by decide) ?_
        exact g_zret Z dX2_meets_50 (by rfl) (by omega) (by omega) (⟨rfl, by first | exact Or.inl rfl | exact Or.inr rfl⟩)
      · have hlt : j < u := ge_f (by omega) (by omega) h7
        obtain ⟨c, hc, hcr⟩ := hs.cr hlt
        obtain ⟨hcL, hcK, ⟨k, hk, ek⟩, -⟩ := id hcr
        have hcl : (nI j).toNatClampNeg = j := nI_clamp (by omega)
        refine g_aload_n Z dX2_meets_10 rfl ?_
        refine g_aload_n Z dX2_meets_11 rfl ?_
        refine g_getr Z 2 0 rfl (by decide) in2 lk11 dX2_meets_12 (by assumption) (by assumption) (by assumption) ?_
        refine g_iload_n Z dX2_meets_15 rfl ?_
        refine g_aald10 Z dX2_meets_16 (by assumption) (by assumption) (by exact vin_of hitl (by omega) (by decide)) (by rw [hcl]; exact hc) ?_
        refine g_geti Z 1 0 rfl (by decide) in1 lk26 dX2_meets_17 (by assumption) (by assumption) ?_
        rw [ek]
        refine g_cvR Z (c_X2_find F.l F.D F.cy F.nw _ o io uo ho k hk) 1 gX2_meets_X2_find rfl (by decide +kernel) (by rw [hRf, hRl]; decide) (by assumption) (κ := 2) (by assumption) rfl (by decide) rfl rfl (Nat.le_of_ble_eq_true rfl) dX2_meets_20 (by rw [hRc, hRs]; omega) (fun r U hp => ?_)
        obtain ⟨rfl, hr⟩ := hp
        rcases hr with rfl | ⟨d, rfl, hdr⟩
        · refine g_astore_nN Z dX2_meets_23 (by decide) ?_
          refine g_aload_nN Z dX2_meets_24 rfl ?_
          refine g_ifnullN Z 43 dX2_meets_25 (by decide) ?_
          refine g_iinc (c := 1) Z dX2_meets_43 rfl (by decide) (by decide) ?_
          rw [nI_1]
          refine g_goto Z 2 dX2_meets_46 (by decide) ?_
          exact g_lv (by (repeat (first | exact trivial | refine And.intro rfl ?_)); done) (ih (j + 1) (by omega) (by omega))
        · refine g_astore_n Z dX2_meets_23 (by decide) ?_
          refine g_aload_n Z dX2_meets_24 rfl ?_
          refine g_ifnull Z dX2_meets_25 ?_
          refine g_aload_n Z dX2_meets_28 rfl ?_
          refine g_getr Z 2 0 rfl (by decide) in2 lk11 dX2_meets_29 (by assumption) (by assumption) (by assumption) ?_
          refine g_iload_n Z dX2_meets_32 rfl ?_
          refine g_aald10 Z dX2_meets_33 (by assumption) (by assumption) (by exact vin_of hitl (by omega) (by decide)) (by rw [hcl]; exact hc) ?_
          refine g_aload_n Z dX2_meets_34 rfl ?_
          refine g_cvI Z (c_X1_hasLowIn F.l F.D F.cy F.nw _ c d hcr hdr) 1 gX2_meets_X1_hasLowIn rfl (by decide +kernel) (by rw [hRf, hRl]; decide) (by assumption) (κ := 1) (by assumption) rfl (by decide) rfl rfl (Nat.le_of_ble_eq_true rfl) dX2_meets_35 (by rw [hRc, hRs]; omega) (fun r2 U hp2 => ?_)
          obtain ⟨rfl, -⟩ := hp2
          refine g_if_eq Z 43 dX2_meets_38 (by decide) (fun h38 => ?_) (fun h38 => ?_)
          · refine g_iinc (c := 1) Z dX2_meets_43 rfl (by decide) (by decide) ?_
            rw [nI_1]
            refine g_goto Z 2 dX2_meets_46 (by decide) ?_
            exact g_lv (by (repeat (first | exact trivial | refine And.intro rfl ?_)); done) (ih (j + 1) (by omega) (by omega))
          · refine g_iconst (v := 1) Z dX2_meets_41 (by decide) ?_
            exact g_zret Z dX2_meets_42 (by rfl) (by omega) (by omega) (⟨rfl, by first | exact Or.inl rfl | exact Or.inr rfl⟩)
  refine g_iconst (v := 0) Z dX2_meets_0 (by decide) ?_
  refine g_istore_n Z dX2_meets_1 (by decide) ?_
  exact g_lv (by (repeat (first | exact trivial | refine And.intro rfl ?_)); done) (loop 9 0 (by omega) (by omega))

