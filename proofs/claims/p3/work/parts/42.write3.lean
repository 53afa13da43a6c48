/-- how many bytes the head's first part, the bodies ahead of a place, and a whole set have -/
def markK (S : PS) (it u : Nat) : Nat := if hrF S it u = 0 then 8 else 4 + (u + 7) / 8
def sumK (S : PS) (it : Nat) : Nat → Nat
  | 0 => 0
  | i + 1 => sumK S it i + bodyK S ((S.rr it i).getD 0)
def setK (S : PS) (it u : Nat) : Nat := markK S it u + 4 * u + (if hpF S it u = 0 then 0 else 4 * u) + sumK S it u
theorem sumK_mono (S : PS) (it : Nat) {i j : Nat} (h : i ≤ j) : sumK S it i ≤ sumK S it j := by
  induction j with
  | zero => rw [Nat.le_zero.mp h]; exact Nat.le_refl _
  | succ j ih =>
    by_cases e : i = j + 1
    · rw [e]; exact Nat.le_refl _
    · exact Nat.le_trans (ih (by omega)) (Nat.le_add_right _ _)
theorem Rl.bdK {S T : PS} (h : Rl Pb S T) {c : Nat} (hc : Cr S c) : bodyK T c = bodyK S c := by
  obtain ⟨k1, k2, -, w, k5, k6, k7, k8⟩ := hc
  obtain ⟨-, -, -, a4⟩ := h c k1
  obtain ⟨e1, e2, -⟩ := a4 (by rw [k2]; exact nPb1)
  obtain ⟨-, -, -, b4⟩ := h w k6
  obtain ⟨-, -, -, e4, -⟩ := b4 (by rw [k7]; exact nPb9)
  unfold bodyK
  rw [e2, k5, e1]
  show (if S.fi c 1 = 0 then aK (T.rj w) 1024 else if S.fi c 1 = 1 then 8192 else 2 + 4 * (trF (T.rj w) 1024).toNatClampNeg) = (if S.fi c 1 = 0 then aK (S.rj w) 1024 else if S.fi c 1 = 1 then 8192 else 2 + 4 * (trF (S.rj w) 1024).toNatClampNeg)
  rw [e4]
theorem Rl.rr10 {S T : PS} (h : Rl Pb S T) {it : Nat} (h1 : it ∈ S.L) (h2 : S.K it = 10) : T.rr it = S.rr it := ((h it h1).2.2.2 (by rw [h2]; exact nPb10)).2.2.2.2

set_option maxRecDepth 100000 in
set_option maxHeartbeats 2000000 in
/-- static -/
theorem c_X5_putMark (l : Launch) (D : va_G) (cy : Nat → ClassId) (nw : Nat) (S : PS) (s it u : Nat) (hs : SetAt S nw s it u) (br h n v : Nat) (hb : BytesAt S br h n v) : kV l yX5_putMark wsX5_putMark 3 106 D cy nw [.ref s, .ref br] S (fun T => WS S br n v (markK S it u) T) (bG n v (markK S it u)) (60000 * bG n v (markK S it u)) := by
  refine enterV (cc := cX5_putMark) (nL := 5) (ret := none) (by decide +kernel) rfl (Nat.le_of_ble_eq_true rfl) ?_
  intro F Z hl hR hD hcy hnw hnm
  subst hl hD hcy hnw
  have hRf : F.R.frames = 3 := by rw [hR]
  have hRc : F.R.cells = (bG n v (markK S it u)) := by rw [hR]
  have hRs : F.R.slots = (60000 * bG n v (markK S it u)) := by rw [hR]
  have hRl : F.R.locals = 106 := by rw [hR]
  have in1 : ∀ w ∈ u_ws RX1 TX1 4, w ∈ wsX5_putMark := by decide +kernel
  have in2 : ∀ w ∈ u_ws RX2 TX2 2, w ∈ wsX5_putMark := by decide +kernel
  have lk15 : Cond.fieldLink RX5 15 (TX2 1).1 (TX2 1).2.1 (TX2 1).2.2.1 ∈ wsX5_putMark := by decide +kernel
  have lk21 : Cond.fieldLink RX5 21 (TX2 0).1 (TX2 0).2.1 (TX2 0).2.2.1 ∈ wsX5_putMark := by decide +kernel
  have lk65 : Cond.fieldLink RX5 65 (TX1 1).1 (TX1 1).2.1 (TX1 1).2.2.1 ∈ wsX5_putMark := by decide +kernel
  have ct72 : Cond.constantLong RX5 72 (12346) ∈ wsX5_putMark := by decide +kernel
  have ct74 : Cond.constantLong RX5 74 (12347) ∈ wsX5_putMark := by decide +kernel
  obtain ⟨hsL, hsK, hsit, hitL, hitK, hitl, hsu, hu7, hsw, hsr⟩ := id hs
  have hun : v ≤ n := hb.2.2.2.2.2.2.2.2.1
  have hn6 : n ≤ 60000 := by have := hb.2.2.2.2.2.2.1; omega
  have hbL := hb.1
  have hbK := hb.2.1
  have hWr := WS.rf hb
  have hu8 : (u + 7) / 8 ≤ 8 := by omega
  have j31 : hrF S it u ≠ 0 → ∀ (m j : Nat) (b : Int64), 8 - j < m → j ≤ u → G F 5 S (bG n v 0) (60000 * bG n v 0) (QV F (fun T => WS S br n v (markK S it u) T) (bG n v (markK S it u)) (60000 * bG n v (markK S it u))) 31 [(0, .ref s), (1, .ref br), (2, .long b), (4, .int (nI j))] [] := by
    intro hne m
    have hk : markK S it u = 4 + (u + 7) / 8 := by unfold markK; rw [if_neg hne]
    induction m with
    | zero => intros; omega
    | succ m ih =>
      intro j b hm hj
      refine g_iload Z dX5_putMark_31 rfl ?_
      refine g_aload_n Z dX5_putMark_33 rfl ?_
      refine g_geti Z 2 1 rfl (by decide) in2 lk15 dX5_putMark_34 (by assumption) (by assumption) ?_
      rw [hsu]
      refine g_icmp_ge Z 67 dX5_putMark_37 (by decide) (fun h37 => ?_) (fun h37 => ?_)
      · refine g_aload_n Z dX5_putMark_67 rfl ?_
        refine g_ldc2 (v := 12347) Z dX5_putMark_68 ct74 ?_
        refine g_iconst (v := 2) Z dX5_putMark_71 (by decide) ?_
        refine g_cvV Z (c_X0_put F.l F.D F.cy F.nw _ br _ _ _ (hWr.2.choose_spec) 2 (by omega) _) 2 gX5_putMark_X0_put rfl (by decide +kernel) (by rw [hRf, hRl]; decide) (by exact hWr.2.choose_spec.1) (κ := 0) (by exact hWr.2.choose_spec.2.1) rfl (by decide) rfl rfl (Nat.le_of_ble_eq_true rfl) dX5_putMark_72 (by rw [hRc, hRs]; exact w_room hun hn6 (by omega)) (fun X hp => ?_)
        have hW2 := hWr.put hun hn6 hp
        refine g_widen (w_wid hun hn6).1 (w_wid hun hn6).2 ?_
        refine g_aload_n Z dX5_putMark_75 rfl ?_
        refine g_aload_n Z dX5_putMark_76 rfl ?_
        refine g_geti Z 2 1 rfl (by decide) in2 lk15 dX5_putMark_77 (by exact (hW2.1 s hsL).1) (by exact (hW2.1 s hsL).2.1.trans hsK) ?_
        refine g_iconst (v := 1) Z dX5_putMark_80 (by decide) ?_
        refine g_isub Z dX5_putMark_81 ?_
        refine g_i2l Z dX5_putMark_82 ?_
        refine g_iconst (v := 2) Z dX5_putMark_83 (by decide) ?_
        refine g_cvV Z (c_X0_put F.l F.D F.cy F.nw _ br _ _ _ (hW2.2.choose_spec) 2 (by omega) _) 2 gX5_putMark_X0_put rfl (by decide +kernel) (by rw [hRf, hRl]; decide) (by exact hW2.2.choose_spec.1) (κ := 0) (by exact hW2.2.choose_spec.2.1) rfl (by decide) rfl rfl (Nat.le_of_ble_eq_true rfl) dX5_putMark_84 (by rw [hRc, hRs]; exact w_room hun hn6 (by omega)) (fun Y hp => ?_)
        have hW3 := hW2.put hun hn6 hp
        refine g_widen (w_wid hun hn6).1 (w_wid hun hn6).2 ?_
        refine g_aload_n Z dX5_putMark_87 rfl ?_
        refine g_lload_n Z dX5_putMark_88 rfl ?_
        refine g_aload_n Z dX5_putMark_89 rfl ?_
        refine g_geti Z 2 1 rfl (by decide) in2 lk15 dX5_putMark_90 (by exact (hW3.1 s hsL).1) (by exact (hW3.1 s hsL).2.1.trans hsK) ?_
        rw [show Y.fi s 1 = nI u by rw [((hW3.1 s hsL).2.2.2 (by rw [hsK]; exact nPb2)).1]; exact hsu]
        refine g_bipush (v := 7) Z dX5_putMark_93 (by decide) ?_
        refine g_iadd Z dX5_putMark_95 ?_
        rw [show nI u + 7 = nI (u + 7) from nI_add u 7]
        refine g_bipush (v := 8) Z dX5_putMark_96 (by decide) ?_
        refine g_idiv Z dX5_putMark_98 (by decide) ?_
        rw [show nI (u + 7) / 8 = nI ((u + 7) / 8) from pk_div (a := u + 7) (d := 8) (by omega) (by decide) (by decide)]
        refine g_cvV Z (c_X0_put F.l F.D F.cy F.nw _ br _ _ _ (hW3.2.choose_spec) ((u + 7) / 8) (by omega) _) 2 gX5_putMark_X0_put rfl (by decide +kernel) (by rw [hRf, hRl]; decide) (by exact hW3.2.choose_spec.1) (κ := 0) (by exact hW3.2.choose_spec.2.1) rfl (by decide) rfl rfl (Nat.le_of_ble_eq_true rfl) dX5_putMark_99 (by rw [hRc, hRs]; exact w_room hun hn6 (by omega)) (fun V hp => ?_)
        have hW4 := hW3.put hun hn6 hp
        refine g_widen (w_wid hun hn6).1 (w_wid hun hn6).2 ?_
        exact g_vret Z dX5_putMark_102 (by rw [hk, show 0 + 2 + 2 + (u + 7) / 8 = 4 + (u + 7) / 8 by omega]; exact Nat.le_refl _) (by rw [hk, show 0 + 2 + 2 + (u + 7) / 8 = 4 + (u + 7) / 8 by omega]; exact Nat.le_refl _) (by rw [hk]; rw [show 0 + 2 + 2 + (u + 7) / 8 = 4 + (u + 7) / 8 by omega] at hW4; exact hW4)
      · have hlt : j < u := ge_f (by omega) (by omega) h37
        obtain ⟨c, hc, hcr⟩ := hs.cr hlt
        obtain ⟨hcL, hcK, -, -⟩ := id hcr
        have hcl : (nI j).toNatClampNeg = j := nI_clamp (by omega)
        refine g_aload_n Z dX5_putMark_40 rfl ?_
        refine g_getr Z 2 0 rfl (by decide) in2 lk21 dX5_putMark_41 (by assumption) (by assumption) (by assumption) ?_
        refine g_iload Z dX5_putMark_44 rfl ?_
        refine g_aald10 Z dX5_putMark_46 (by assumption) (by assumption) (by exact vin_of hitl (by omega) (by decide)) (by rw [hcl]; exact hc) ?_
        refine g_geti Z 1 1 rfl (by decide) in1 lk65 dX5_putMark_47 (by assumption) (by assumption) ?_
        refine g_iconst (v := 2) Z dX5_putMark_50 (by decide) ?_
        refine g_icmp_ne Z 61 dX5_putMark_51 (by decide) (fun h51 => ?_) (fun h51 => ?_)
        · refine g_iinc (c := 1) Z dX5_putMark_61 rfl (by decide) (by decide) ?_
          rw [nI_1]
          refine g_goto Z 31 dX5_putMark_64 (by decide) ?_
          exact g_lv (by (repeat (first | exact trivial | refine And.intro rfl ?_)); done) (ih (j + 1) _ (by omega) (by omega))
        · refine g_lload_n Z dX5_putMark_54 rfl ?_
          refine g_lconst (v := 1) Z dX5_putMark_55 (by decide) ?_
          refine g_iload Z dX5_putMark_56 rfl ?_
          refine g_lshl Z dX5_putMark_58 ?_
          refine g_lor Z dX5_putMark_59 ?_
          refine g_lstore_n Z dX5_putMark_60 (by decide) ?_
          refine g_iinc (c := 1) Z dX5_putMark_61 rfl (by decide) (by decide) ?_
          rw [nI_1]
          refine g_goto Z 31 dX5_putMark_64 (by decide) ?_
          exact g_lv (by (repeat (first | exact trivial | refine And.intro rfl ?_)); done) (ih (j + 1) _ (by omega) (by omega))
  refine g_aload_n Z dX5_putMark_0 rfl ?_
  refine g_csI Z (c_X5_hasRuns F.l F.D F.cy F.nw _ s it u hs) 1 gX5_putMark_X5_hasRuns rfl (by decide +kernel) (by rw [hRf, hRl]; decide) rfl rfl (Nat.le_of_ble_eq_true rfl) dX5_putMark_1 (by rw [hRc, hRs]; exact ⟨Nat.zero_le _, Nat.zero_le _⟩) (fun r U hp => ?_)
  obtain ⟨rfl, rfl⟩ := hp
  refine g_widen (Nat.zero_le (bG n v 0)) (Nat.zero_le (60000 * bG n v 0)) ?_
  refine g_if_ne Z 26 dX5_putMark_4 (by decide) (fun h4 => ?_) (fun h4 => ?_)
  · refine g_lconst (v := 0) Z dX5_putMark_26 (by decide) ?_
    refine g_lstore_n Z dX5_putMark_27 (by decide) ?_
    refine g_iconst (v := 0) Z dX5_putMark_28 (by decide) ?_
    refine g_istore Z dX5_putMark_29 (by decide) ?_
    exact g_lv (by (repeat (first | exact trivial | refine And.intro rfl ?_)); done) (j31 h4 9 0 0 (by omega) (by omega))
  · have hk : markK S it u = 8 := by unfold markK; rw [if_pos h4]
    refine g_aload_n Z dX5_putMark_7 rfl ?_
    refine g_ldc2 (v := 12346) Z dX5_putMark_8 ct72 ?_
    refine g_iconst (v := 4) Z dX5_putMark_11 (by decide) ?_
    refine g_cvV Z (c_X0_put F.l F.D F.cy F.nw _ br _ _ _ (hWr.2.choose_spec) 4 (by omega) _) 2 gX5_putMark_X0_put rfl (by decide +kernel) (by rw [hRf, hRl]; decide) (by exact hWr.2.choose_spec.1) (κ := 0) (by exact hWr.2.choose_spec.2.1) rfl (by decide) rfl rfl (Nat.le_of_ble_eq_true rfl) dX5_putMark_12 (by rw [hRc, hRs]; exact w_room hun hn6 (by omega)) (fun X hp => ?_)
    have hW2 := hWr.put hun hn6 hp
    refine g_widen (w_wid hun hn6).1 (w_wid hun hn6).2 ?_
    refine g_aload_n Z dX5_putMark_15 rfl ?_
    refine g_aload_n Z dX5_putMark_16 rfl ?_
    refine g_geti Z 2 1 rfl (by decide) in2 lk15 dX5_putMark_17 (by exact (hW2.1 s hsL).1) (by exact (hW2.1 s hsL).2.1.trans hsK) ?_
    refine g_i2l Z dX5_putMark_20 ?_
    refine g_iconst (v := 4) Z dX5_putMark_21 (by decide) ?_
    refine g_cvV Z (c_X0_put F.l F.D F.cy F.nw _ br _ _ _ (hW2.2.choose_spec) 4 (by omega) _) 2 gX5_putMark_X0_put rfl (by decide +kernel) (by rw [hRf, hRl]; decide) (by exact hW2.2.choose_spec.1) (κ := 0) (by exact hW2.2.choose_spec.2.1) rfl (by decide) rfl rfl (Nat.le_of_ble_eq_true rfl) dX5_putMark_22 (by rw [hRc, hRs]; exact w_room hun hn6 (by omega)) (fun Y hp => ?_)
    have hW3 := hW2.put hun hn6 hp
    refine g_widen (w_wid hun hn6).1 (w_wid hun hn6).2 ?_
    exact g_vret Z dX5_putMark_25 (by rw [hk]; exact Nat.le_refl _) (by rw [hk]; exact Nat.le_refl _) (by rw [hk]; exact hW3)

set_option maxRecDepth 100000 in
set_option maxHeartbeats 2000000 in
/-- static -/
theorem c_X5_putPlaces (l : Launch) (D : va_G) (cy : Nat → ClassId) (nw : Nat) (S : PS) (s it u : Nat) (hs : SetAt S nw s it u) (br h n v : Nat) (hb : BytesAt S br h n v) : kV l yX5_putPlaces wsX5_putPlaces 4 106 D cy nw [.ref s, .ref br] S (fun T => WS S br n v (4 * u) T) (bG n v (4 * u)) (60000 * bG n v (4 * u)) := by
  refine enterV (cc := cX5_putPlaces) (nL := 4) (ret := none) (by decide +kernel) rfl (Nat.le_of_ble_eq_true rfl) ?_
  intro F Z hl hR hD hcy hnw hnm
  subst hl hD hcy hnw
  have hRf : F.R.frames = 4 := by rw [hR]
  have hRc : F.R.cells = (bG n v (4 * u)) := by rw [hR]
  have hRs : F.R.slots = (60000 * bG n v (4 * u)) := by rw [hR]
  have hRl : F.R.locals = 106 := by rw [hR]
  have in2 : ∀ w ∈ u_ws RX2 TX2 2, w ∈ wsX5_putPlaces := by decide +kernel
  have lk15 : Cond.fieldLink RX5 15 (TX2 1).1 (TX2 1).2.1 (TX2 1).2.2.1 ∈ wsX5_putPlaces := by decide +kernel
  have lk21 : Cond.fieldLink RX5 21 (TX2 0).1 (TX2 0).2.1 (TX2 0).2.2.1 ∈ wsX5_putPlaces := by decide +kernel
  have hun : v ≤ n := hb.2.2.2.2.2.2.2.2.1
  have hn6 : n ≤ 60000 := by have := hb.2.2.2.2.2.2.1; omega
  have loop : ∀ (m j : Nat) (p : Int32) (T : PS), 8 - j < m → (WS S br n v (4 * j) T ∧ j ≤ u) → G F 4 T (bG n v (4 * j)) (60000 * bG n v (4 * j)) (QV F (fun T => WS S br n v (4 * u) T) (bG n v (4 * u)) (60000 * bG n v (4 * u))) 7 [(0, .ref s), (1, .ref br), (2, .int p), (3, .int (nI j))] [] := by
    intro m
    induction m with
    | zero => intros; omega
    | succ m ih =>
      intro j p T hm ⟨hW, hj⟩
      have hsT := hW.1.set nPb1 nPb2 nPb10 hs
      obtain ⟨hsL, hsK, hsit, hitL, hitK, hitl, hsu, hu7, -, -⟩ := id hsT
      refine g_iload_n Z dX5_putPlaces_7 rfl ?_
      refine g_aload_n Z dX5_putPlaces_8 rfl ?_
      refine g_geti Z 2 1 rfl (by decide) in2 lk15 dX5_putPlaces_9 (by assumption) (by assumption) ?_
      rw [hsu]
      refine g_icmp_ge Z 40 dX5_putPlaces_12 (by decide) (fun h12 => ?_) (fun h12 => ?_)
      · have he : j = u := by have := ge_t (by omega) (by omega) h12; omega
        subst he
        exact g_vret Z dX5_putPlaces_40 (by exact Nat.le_refl _) (by exact Nat.le_refl _) (hW)
      · have hlt : j < u := ge_f (by omega) (by omega) h12
        have hcl : (nI j).toNatClampNeg = j := nI_clamp (by omega)
        refine g_aload_n Z dX5_putPlaces_15 rfl ?_
        refine g_iload_n Z dX5_putPlaces_16 rfl ?_
        refine g_i2l Z dX5_putPlaces_17 ?_
        refine g_iconst (v := 4) Z dX5_putPlaces_18 (by decide) ?_
        refine g_cvV Z (c_X0_put F.l F.D F.cy F.nw _ br _ _ _ (hW.2.choose_spec) 4 (by omega) _) 2 gX5_putPlaces_X0_put rfl (by decide +kernel) (by rw [hRf, hRl]; decide) (by exact hW.2.choose_spec.1) (κ := 0) (by exact hW.2.choose_spec.2.1) rfl (by decide) rfl rfl (Nat.le_of_ble_eq_true rfl) dX5_putPlaces_19 (by rw [hRc, hRs]; exact w_room hun hn6 (by omega)) (fun X hp => ?_)
        have hW2 := hW.put hun hn6 hp
        refine g_widen (w_wid hun hn6).1 (w_wid hun hn6).2 ?_
        have hs2 := hW2.1.set nPb1 nPb2 nPb10 hs
        obtain ⟨c, hc, hcr⟩ := hs2.cr hlt
        refine g_iload_n Z dX5_putPlaces_22 rfl ?_
        refine g_aload_n Z dX5_putPlaces_23 rfl ?_
        refine g_getr Z 2 0 rfl (by decide) in2 lk21 dX5_putPlaces_24 (by exact hs2.1) (by exact hs2.2.1) (by exact hs2.2.2.1) ?_
        refine g_iload_n Z dX5_putPlaces_27 rfl ?_
        refine g_aald10 Z dX5_putPlaces_28 (by exact hs2.2.2.2.1) (by exact hs2.2.2.2.2.1) (by exact vin_of hs2.2.2.2.2.2.1 (by omega) (by decide)) (by rw [hcl]; exact hc) ?_
        refine g_csI Z (c_X5_bodyBytesOf F.l F.D F.cy F.nw _ c hcr) 1 gX5_putPlaces_X5_bodyBytesOf rfl (by decide +kernel) (by rw [hRf, hRl]; decide) rfl rfl (Nat.le_of_ble_eq_true rfl) dX5_putPlaces_29 (by rw [hRc, hRs]; exact w_room0 (by omega)) (fun r Y hp => ?_)
        obtain ⟨rfl, -⟩ := hp
        refine g_iadd Z dX5_putPlaces_32 ?_
        refine g_istore_n Z dX5_putPlaces_33 (by decide) ?_
        refine g_iinc (c := 1) Z dX5_putPlaces_34 rfl (by decide) (by decide) ?_
        rw [nI_1]
        refine g_goto Z 7 dX5_putPlaces_37 (by decide) ?_
        rw [show 4 * j + 4 = 4 * (j + 1) by omega] at hW2 ⊢
        exact g_lv (by (repeat (first | exact trivial | refine And.intro rfl ?_)); done) (ih (j + 1) _ X (by omega) ⟨hW2, by omega⟩)
  refine g_aload_n Z dX5_putPlaces_0 rfl ?_
  refine g_csI Z (c_X5_headBytesOf F.l F.D F.cy F.nw _ s it u hs) 1 gX5_putPlaces_X5_headBytesOf rfl (by decide +kernel) (by rw [hRf, hRl]; decide) rfl rfl (Nat.le_of_ble_eq_true rfl) dX5_putPlaces_1 (by rw [hRc, hRs]; exact ⟨Nat.zero_le _, Nat.zero_le _⟩) (fun r U hp => ?_)
  obtain ⟨rfl, -⟩ := hp
  refine g_istore_n Z dX5_putPlaces_4 (by decide) ?_
  refine g_iconst (v := 0) Z dX5_putPlaces_5 (by decide) ?_
  refine g_istore_n Z dX5_putPlaces_6 (by decide) ?_
  exact g_widen (Nat.zero_le _) (Nat.zero_le _) (g_lv (by (repeat (first | exact trivial | refine And.intro rfl ?_)); done) (loop 9 0 _ S (by omega) ⟨WS.rf hb, by omega⟩))

theorem Rl.tk {S T : PS} (h : Rl Pb S T) {nw s it u : Nat} (hs : SetAt S nw s it u) (x : Int32) : ∀ i, i ≤ u → tkF T it x i = tkF S it x i
  | 0, _ => rfl
  | i + 1, hi => by
    obtain ⟨c, hc, hcr⟩ := hs.cr (i := i) (by omega)
    have e1 : kdF T it i = kdF S it i := by
      rw [kdF_at hc, kdF_at (by rw [h.rr10 hs.2.2.2.1 hs.2.2.2.2.1]; exact hc), ((h c hcr.1).2.2.2 (by rw [hcr.2.1]; exact nPb1)).1]
    show (if kdF T it i = x then tkF T it x i + 1 else tkF T it x i) = (if kdF S it i = x then tkF S it x i + 1 else tkF S it x i)
    rw [e1, h.tk hs x i (by omega)]
theorem Rl.hp {S T : PS} (h : Rl Pb S T) {nw s it u : Nat} (hs : SetAt S nw s it u) : hpF T it u = hpF S it u := by
  unfold hpF hrF
  rw [h.tk hs 2 u (Nat.le_refl u)]

set_option maxRecDepth 100000 in
set_option maxHeartbeats 2000000 in
/-- static -/
theorem c_X5_putSet (l : Launch) (D : va_G) (cy : Nat → ClassId) (nw : Nat) (S : PS) (s it u : Nat) (hs : SetAt S nw s it u) (br h n v : Nat) (hb : BytesAt S br h n v) : kV l yX5_putSet wsX5_putSet 6 153 D cy nw [.ref s, .ref br] S (fun T => WS S br n v (setK S it u) T) (bG n v (setK S it u)) (60000 * bG n v (setK S it u)) := by
  refine enterV (cc := cX5_putSet) (nL := 3) (ret := none) (by decide +kernel) rfl (Nat.le_of_ble_eq_true rfl) ?_
  intro F Z hl hR hD hcy hnw hnm
  subst hl hD hcy hnw
  have hRf : F.R.frames = 6 := by rw [hR]
  have hRc : F.R.cells = (bG n v (setK S it u)) := by rw [hR]
  have hRs : F.R.slots = (60000 * bG n v (setK S it u)) := by rw [hR]
  have hRl : F.R.locals = 153 := by rw [hR]
  have in1 : ∀ w ∈ u_ws RX1 TX1 4, w ∈ wsX5_putSet := by decide +kernel
  have in2 : ∀ w ∈ u_ws RX2 TX2 2, w ∈ wsX5_putSet := by decide +kernel
  have lk15 : Cond.fieldLink RX5 15 (TX2 1).1 (TX2 1).2.1 (TX2 1).2.2.1 ∈ wsX5_putSet := by decide +kernel
  have lk21 : Cond.fieldLink RX5 21 (TX2 0).1 (TX2 0).2.1 (TX2 0).2.2.1 ∈ wsX5_putSet := by decide +kernel
  have lk33 : Cond.fieldLink RX5 33 (TX1 0).1 (TX1 0).2.1 (TX1 0).2.2.1 ∈ wsX5_putSet := by decide +kernel
  have lk44 : Cond.fieldLink RX5 44 (TX1 2).1 (TX1 2).2.1 (TX1 2).2.2.1 ∈ wsX5_putSet := by decide +kernel
  have hun : v ≤ n := hb.2.2.2.2.2.2.2.2.1
  have hn6 : n ≤ 60000 := by have := hb.2.2.2.2.2.2.1; omega
  obtain ⟨hsL0, hsK0, -, hitL0, hitK0, -, -, hu70, -, -⟩ := id hs
  have hsm : ∀ i, i ≤ u → sumK S it i ≤ sumK S it u := fun i hi => sumK_mono S it hi
  have hK : setK S it u = markK S it u + 4 * u + (if hpF S it u = 0 then 0 else 4 * u) + sumK S it u := rfl
  generalize hpl : (if hpF S it u = 0 then 0 else 4 * u) = pl at hK
  have loop2 : ∀ (m j : Nat) (T : PS), 8 - j < m → (WS S br n v (markK S it u + 4 * u + pl + sumK S it j) T ∧ j ≤ u) → G F 3 T (bG n v (markK S it u + 4 * u + pl + sumK S it j)) (60000 * bG n v (markK S it u + 4 * u + pl + sumK S it j)) (QV F (fun T => WS S br n v (setK S it u) T) (bG n v (setK S it u)) (60000 * bG n v (setK S it u))) 67 [(0, .ref s), (1, .ref br), (2, .int (nI j))] [] := by
    intro m
    induction m with
    | zero => intros; omega
    | succ m ih =>
      intro j T hm ⟨hW, hj⟩
      have hsT := hW.1.set nPb1 nPb2 nPb10 hs
      obtain ⟨hsL, hsK, hsit, hitL, hitK, hitl, hsu, hu7, -, -⟩ := id hsT
      refine g_iload_n Z dX5_putSet_67 rfl ?_
      refine g_aload_n Z dX5_putSet_68 rfl ?_
      refine g_geti Z 2 1 rfl (by decide) in2 lk15 dX5_putSet_69 (by assumption) (by assumption) ?_
      rw [hsu]
      refine g_icmp_ge Z 91 dX5_putSet_72 (by decide) (fun h72 => ?_) (fun h72 => ?_)
      · have he : j = u := by have := ge_t (by omega) (by omega) h72; omega
        subst he
        exact g_vret Z dX5_putSet_91 (by rw [hK]; exact Nat.le_refl _) (by rw [hK]; exact Nat.le_refl _) (by rw [hK]; exact hW)
      · have hlt : j < u := ge_f (by omega) (by omega) h72
        obtain ⟨c, hc, hcr⟩ := hsT.cr hlt
        have hcl : (nI j).toNatClampNeg = j := nI_clamp (by omega)
        have hcS : S.rr it j = some c := by rw [← hW.1.rr10 hitL0 hitK0]; exact hc
        obtain ⟨c2, hc2, hcr2⟩ := hs.cr hlt
        obtain rfl : c2 = c := by rw [hcS] at hc2; exact (Option.some.inj hc2).symm
        have hbk := hW.1.bdK hcr2
        have hss : sumK S it (j + 1) = sumK S it j + bodyK T c2 := by rw [hbk]; show sumK S it j + bodyK S ((S.rr it j).getD 0) = _; rw [hcS]; rfl
        have hsj := hsm (j + 1) (by omega)
        refine g_aload_n Z dX5_putSet_75 rfl ?_
        refine g_getr Z 2 0 rfl (by decide) in2 lk21 dX5_putSet_76 (by assumption) (by assumption) (by assumption) ?_
        refine g_iload_n Z dX5_putSet_79 rfl ?_
        refine g_aald10 Z dX5_putSet_80 (by assumption) (by assumption) (by exact vin_of hitl (by omega) (by decide)) (by rw [hcl]; exact hc) ?_
        refine g_aload_n Z dX5_putSet_81 rfl ?_
        refine g_csV Z (c_X5_putBody F.l F.D F.cy F.nw _ c2 hcr br _ _ _ (hW.2.choose_spec)) 2 gX5_putSet_X5_putBody rfl (by decide +kernel) (by rw [hRf, hRl]; decide) rfl rfl (Nat.le_of_ble_eq_true rfl) dX5_putSet_82 (by rw [hRc, hRs]; exact w_room hun hn6 (by omega)) (fun U hp => ?_)
        have hW2 := hW.put hun hn6 hp
        refine g_widen (w_wid hun hn6).1 (w_wid hun hn6).2 ?_
        refine g_iinc (c := 1) Z dX5_putSet_85 rfl (by decide) (by decide) ?_
        rw [nI_1]
        refine g_goto Z 67 dX5_putSet_88 (by decide) ?_
        rw [show markK S it u + 4 * u + pl + sumK S it j + bodyK T c2 = markK S it u + 4 * u + pl + sumK S it (j + 1) by omega] at hW2 ⊢
        exact g_lv (by (repeat (first | exact trivial | refine And.intro rfl ?_)); done) (ih (j + 1) U (by omega) ⟨hW2, by omega⟩)
  have j53 : ∀ (T : PS), WS S br n v (markK S it u + 4 * u) T → ∀ q : Int32, G F 3 T (bG n v (markK S it u + 4 * u)) (60000 * bG n v (markK S it u + 4 * u)) (QV F (fun T => WS S br n v (setK S it u) T) (bG n v (setK S it u)) (60000 * bG n v (setK S it u))) 53 [(0, .ref s), (1, .ref br), (2, .int q)] [] := by
    intro T hW q
    have hsT := hW.1.set nPb1 nPb2 nPb10 hs
    obtain ⟨hsL, hsK, hsit, hitL, hitK, hitl, hsu, hu7, -, -⟩ := id hsT
    have hhp : hpF T it u = hpF S it u := hW.1.hp hs
    refine g_aload_n Z dX5_putSet_53 rfl ?_
    refine g_csI Z (c_X5_hasPlaces F.l F.D F.cy F.nw _ s it u hsT) 1 gX5_putSet_X5_hasPlaces rfl (by decide +kernel) (by rw [hRf, hRl]; decide) rfl rfl (Nat.le_of_ble_eq_true rfl) dX5_putSet_54 (by rw [hRc, hRs]; exact w_room0 (by omega)) (fun r U hp => ?_)
    obtain ⟨rfl, rfl⟩ := hp
    refine g_if_eq Z 65 dX5_putSet_57 (by decide) (fun h57 => ?_) (fun h57 => ?_)
    · have hp0 : pl = 0 := by rw [← hpl, if_pos (by rw [← hhp]; exact h57)]
      refine g_iconst (v := 0) Z dX5_putSet_65 (by decide) ?_
      refine g_istore_n Z dX5_putSet_66 (by decide) ?_
      exact g_widen (by rw [show markK S it u + 4 * u + pl + sumK S it 0 = markK S it u + 4 * u by rw [hp0]; rfl]; exact Nat.le_refl _) (by rw [show markK S it u + 4 * u + pl + sumK S it 0 = markK S it u + 4 * u by rw [hp0]; rfl]; exact Nat.le_refl _) (g_lv (by (repeat (first | exact trivial | refine And.intro rfl ?_)); done) (loop2 9 0 T (by omega) ⟨by rw [show markK S it u + 4 * u + pl + sumK S it 0 = markK S it u + 4 * u by rw [hp0]; rfl]; exact hW, by omega⟩))
    · have hp4 : pl = 4 * u := by rw [← hpl, if_neg (by rw [← hhp]; exact h57)]
      refine g_aload_n Z dX5_putSet_60 rfl ?_
      refine g_aload_n Z dX5_putSet_61 rfl ?_
      refine g_csV Z (c_X5_putPlaces F.l F.D F.cy F.nw _ s it u hsT br _ _ _ (hW.2.choose_spec)) 2 gX5_putSet_X5_putPlaces rfl (by decide +kernel) (by rw [hRf, hRl]; decide) rfl rfl (Nat.le_of_ble_eq_true rfl) dX5_putSet_62 (by rw [hRc, hRs]; exact w_room hun hn6 (by omega)) (fun U hp => ?_)
      have hW2 := hW.put hun hn6 hp
      refine g_widen (w_wid hun hn6).1 (w_wid hun hn6).2 ?_
      refine g_iconst (v := 0) Z dX5_putSet_65 (by decide) ?_
      refine g_istore_n Z dX5_putSet_66 (by decide) ?_
      rw [show markK S it u + 4 * u + 4 * u = markK S it u + 4 * u + pl + sumK S it 0 by rw [hp4]; rfl] at hW2 ⊢
      exact g_lv (by (repeat (first | exact trivial | refine And.intro rfl ?_)); done) (loop2 9 0 U (by omega) ⟨hW2, by omega⟩)
  have loop1 : ∀ (m j : Nat) (T : PS), 8 - j < m → (WS S br n v (markK S it u + 4 * j) T ∧ j ≤ u) → G F 3 T (bG n v (markK S it u + 4 * j)) (60000 * bG n v (markK S it u + 4 * j)) (QV F (fun T => WS S br n v (setK S it u) T) (bG n v (setK S it u)) (60000 * bG n v (setK S it u))) 7 [(0, .ref s), (1, .ref br), (2, .int (nI j))] [] := by
    intro m
    induction m with
    | zero => intros; omega
    | succ m ih =>
      intro j T hm ⟨hW, hj⟩
      have hsT := hW.1.set nPb1 nPb2 nPb10 hs
      obtain ⟨hsL, hsK, hsit, hitL, hitK, hitl, hsu, hu7, -, -⟩ := id hsT
      refine g_iload_n Z dX5_putSet_7 rfl ?_
      refine g_aload_n Z dX5_putSet_8 rfl ?_
      refine g_geti Z 2 1 rfl (by decide) in2 lk15 dX5_putSet_9 (by assumption) (by assumption) ?_
      rw [hsu]
      refine g_icmp_ge Z 53 dX5_putSet_12 (by decide) (fun h12 => ?_) (fun h12 => ?_)
      · have he : j = u := by have := ge_t (by omega) (by omega) h12; omega
        subst he
        exact g_lv (by (repeat (first | exact trivial | refine And.intro rfl ?_)); done) (j53 T hW _)
      · have hlt : j < u := ge_f (by omega) (by omega) h12
        obtain ⟨c, hc, hcr⟩ := hsT.cr hlt
        obtain ⟨hcL, hcK, -, -⟩ := id hcr
        have hcl : (nI j).toNatClampNeg = j := nI_clamp (by omega)
        refine g_aload_n Z dX5_putSet_15 rfl ?_
        refine g_aload_n Z dX5_putSet_16 rfl ?_
        refine g_getr Z 2 0 rfl (by decide) in2 lk21 dX5_putSet_17 (by assumption) (by assumption) (by assumption) ?_
        refine g_iload_n Z dX5_putSet_20 rfl ?_
        refine g_aald10 Z dX5_putSet_21 (by assumption) (by assumption) (by exact vin_of hitl (by omega) (by decide)) (by rw [hcl]; exact hc) ?_
        refine g_geti Z 1 0 rfl (by decide) in1 lk33 dX5_putSet_22 (by assumption) (by assumption) ?_
        refine g_i2l Z dX5_putSet_25 ?_
        refine g_iconst (v := 2) Z dX5_putSet_26 (by decide) ?_
        refine g_cvV Z (c_X0_put F.l F.D F.cy F.nw _ br _ _ _ (hW.2.choose_spec) 2 (by omega) _) 2 gX5_putSet_X0_put rfl (by decide +kernel) (by rw [hRf, hRl]; decide) (by exact hW.2.choose_spec.1) (κ := 0) (by exact hW.2.choose_spec.2.1) rfl (by decide) rfl rfl (Nat.le_of_ble_eq_true rfl) dX5_putSet_27 (by rw [hRc, hRs]; exact w_room hun hn6 (by omega)) (fun X hp => ?_)
        have hW2 := hW.put hun hn6 hp
        refine g_widen (w_wid hun hn6).1 (w_wid hun hn6).2 ?_
        have hs2 := hW2.1.set nPb1 nPb2 nPb10 hs
        obtain ⟨c2, hc2, hcr2⟩ := hs2.cr hlt
        refine g_aload_n Z dX5_putSet_30 rfl ?_
        refine g_aload_n Z dX5_putSet_31 rfl ?_
        refine g_getr Z 2 0 rfl (by decide) in2 lk21 dX5_putSet_32 (by exact hs2.1) (by exact hs2.2.1) (by exact hs2.2.2.1) ?_
        refine g_iload_n Z dX5_putSet_35 rfl ?_
        refine g_aald10 Z dX5_putSet_36 (by exact hs2.2.2.2.1) (by exact hs2.2.2.2.2.1) (by exact vin_of hs2.2.2.2.2.2.1 (by omega) (by decide)) (by rw [hcl]; exact hc2) ?_
        refine g_geti Z 1 2 rfl (by decide) in1 lk44 dX5_putSet_37 (by exact hcr2.1) (by exact hcr2.2.1) ?_
        refine g_iconst (v := 1) Z dX5_putSet_40 (by decide) ?_
        refine g_isub Z dX5_putSet_41 ?_
        refine g_i2l Z dX5_putSet_42 ?_
        refine g_iconst (v := 2) Z dX5_putSet_43 (by decide) ?_
        refine g_cvV Z (c_X0_put F.l F.D F.cy F.nw _ br _ _ _ (hW2.2.choose_spec) 2 (by omega) _) 2 gX5_putSet_X0_put rfl (by decide +kernel) (by rw [hRf, hRl]; decide) (by exact hW2.2.choose_spec.1) (κ := 0) (by exact hW2.2.choose_spec.2.1) rfl (by decide) rfl rfl (Nat.le_of_ble_eq_true rfl) dX5_putSet_44 (by rw [hRc, hRs]; exact w_room hun hn6 (by omega)) (fun Y hp => ?_)
        have hW3 := hW2.put hun hn6 hp
        refine g_widen (w_wid hun hn6).1 (w_wid hun hn6).2 ?_
        refine g_iinc (c := 1) Z dX5_putSet_47 rfl (by decide) (by decide) ?_
        rw [nI_1]
        refine g_goto Z 7 dX5_putSet_50 (by decide) ?_
        rw [show markK S it u + 4 * j + 2 + 2 = markK S it u + 4 * (j + 1) by omega] at hW3 ⊢
        exact g_lv (by (repeat (first | exact trivial | refine And.intro rfl ?_)); done) (ih (j + 1) Y (by omega) ⟨hW3, by omega⟩)
  refine g_aload_n Z dX5_putSet_0 rfl ?_
  refine g_aload_n Z dX5_putSet_1 rfl ?_
  refine g_csV Z (c_X5_putMark F.l F.D F.cy F.nw _ s it u hs br h n v hb) 2 gX5_putSet_X5_putMark rfl (by decide +kernel) (by rw [hRf, hRl]; decide) rfl rfl (Nat.le_of_ble_eq_true rfl) dX5_putSet_2 (by rw [hRc, hRs]; rw [Nat.zero_add, Nat.zero_add]; exact (w_room0 (n := n) (u := v) (k := markK S it u) (K := setK S it u) (by omega))) (fun U hp => ?_)
  refine g_widen (Nat.le_of_eq (Nat.zero_add _)) (Nat.le_of_eq (Nat.zero_add _)) ?_
  refine g_iconst (v := 0) Z dX5_putSet_5 (by decide) ?_
  refine g_istore_n Z dX5_putSet_6 (by decide) ?_
  exact g_lv (by (repeat (first | exact trivial | refine And.intro rfl ?_)); done) (loop1 9 0 U (by omega) ⟨hp, by omega⟩)
