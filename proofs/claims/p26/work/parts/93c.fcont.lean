theorem CS_row {S : PS} (c w : Nat) {R : Nat → Int64} : S.rowJ w R = CS S c w (S.fi c 0) (S.fi c 1) (S.fi c 2) R := by
  show (_, _, _, _, _, _, va_up S.rj w R, _) = (_, _, va_up S.fi c (c3 (S.fi c) (S.fi c 0) (S.fi c 1) (S.fi c 2)), _, _, _, va_up S.rj w R, _)
  rw [c3_id, va_up_get]
/-- two states agree at a cell -/
def Ag (S T : PS) (a : Nat) : Prop := T.K a = S.K a ∧ T.fi a = S.fi a ∧ T.fr a = S.fr a ∧ T.ln a = S.ln a ∧ T.ri a = S.ri a ∧ T.rj a = S.rj a ∧ T.rr a = S.rr a
theorem Ag.rf {S : PS} {a : Nat} : Ag S S a := ⟨rfl, rfl, rfl, rfl, rfl, rfl, rfl⟩
theorem Ag.tr {S T U : PS} {a : Nat} (h : Ag S T a) (k : Ag T U a) : Ag S U a := ⟨k.1.trans h.1, k.2.1.trans h.2.1, k.2.2.1.trans h.2.2.1, k.2.2.2.1.trans h.2.2.2.1, k.2.2.2.2.1.trans h.2.2.2.2.1, k.2.2.2.2.2.1.trans h.2.2.2.2.2.1, k.2.2.2.2.2.2.trans h.2.2.2.2.2.2⟩
theorem Ag.cq {S T : PS} {c w : Nat} (hL : ∀ a ∈ S.L, a ∈ T.L) (h1 : Ag S T c) (h2 : T.K w = S.K w ∧ T.ln w = S.ln w) (h : Cq S c w) : Cq T c w := by
  obtain ⟨k1, k2, k3, k4, k5, k6⟩ := h
  exact ⟨hL c k1, h1.1.trans k2, by rw [h1.2.2.1]; exact k3, hL w k4, h2.1.trans k5, h2.2.trans k6⟩
theorem Rm.L {nw : Nat} {S S1 : PS} {c w : Nat} (h : Rm nw S c S1 w) : ∀ a ∈ S.L, a ∈ S1.L := by
  rcases h with ⟨rfl, h⟩ | ⟨-, hq, rfl⟩
  · exact fun a h => h
  · exact fun a h => List.mem_append_left _ h
theorem Rm.ag {nw : Nat} {S S1 : PS} {c w : Nat} (h : Rm nw S c S1 w) {a : Nat} (ha : a ∈ S.L) (hac : a ≠ c) : Ag S S1 a := by
  rcases h with ⟨rfl, h⟩ | ⟨-, hq, rfl⟩
  · exact Ag.rf
  · have hn := ne_mem hq ha
    exact ⟨va_up_ne _ _ hn, rfl, va_up_ne _ _ hac, va_up_ne _ _ hn, va_up_ne _ _ hn, va_up_ne _ _ hn, va_up_ne _ _ hn⟩
theorem CS.ag {S : PS} {c w : Nat} {k d v : Int32} {R : Nat → Int64} {a : Nat} (h1 : a ≠ c) (h2 : a ≠ w) : Ag S (CS S c w k d v R) a := ⟨rfl, va_up_ne _ _ h1, rfl, rfl, rfl, va_up_ne _ _ h2, rfl⟩
def plK (v : Int32) : Int32 := if (4096 : Int32) < v then 1 else 0
def smK (v r : Int32) : Int32 := if (if (4096 : Int32) < v then 8192 else 2 * v) ≤ 2 + 4 * r then plK v else 2
def mxW (x : Int32) (a b : Int64) : Int64 := if x = 0 then a &&& b else if x = 1 then a ||| b else if x = 2 then a ^^^ b else a &&& (b ^^^ -1)

set_option maxRecDepth 100000 in
set_option maxHeartbeats 2000000 in
/-- a container has its words behind it -/
theorem f_X1_makeRoom (l : Launch) (D : va_G) (cy : Nat → ClassId) (nw : Nat) (S : PS) (c : Nat) (hcL : c ∈ S.L) (hcK : S.K c = 1) (hww : S.fr c 3 = some nw ∨ ∃ w, Cq S c w) : kV l yX1_makeRoom wsX1_makeRoom 0 0 D cy nw [.ref c] S (fun T => ∃ w, Rm nw S c T w) 1 1024 := by
  refine enterV (cc := cX1_makeRoom) (nL := 1) (ret := none) (by decide +kernel) rfl (Nat.le_of_ble_eq_true rfl) ?_
  intro F Z hl hR hD hcy hnw hnm
  subst hl hD hcy hnw
  have hRf : F.R.frames = 0 := by rw [hR]
  have hRc : F.R.cells = 1 := by rw [hR]
  have hRs : F.R.slots = 1024 := by rw [hR]
  have hRl : F.R.locals = 0 := by rw [hR]
  have in1 : ∀ w ∈ u_ws RX1 TX1 4, w ∈ wsX1_makeRoom := by decide +kernel
  have lk13 : Cond.fieldLink RX1 13 (TX1 3).1 (TX1 3).2.1 (TX1 3).2.2.1 ∈ wsX1_makeRoom := by decide +kernel
  rcases hww with hww | ⟨w, hq⟩
  · refine g_aload_n Z dX1_makeRoom_0 rfl ?_
    refine g_getr Z 1 3 rfl (by decide) in1 lk13 dX1_makeRoom_1 (by assumption) (by assumption) (by assumption) ?_
    refine g_alenNw Z dX1_makeRoom_4 ?_
    refine g_sipush (v := 1024) Z dX1_makeRoom_5 (by decide) ?_
    refine g_icmp_ge Z 20 dX1_makeRoom_8 (by decide) (fun h8 => absurd h8 (by decide)) (fun h8 => ?_)
    refine g_aload_n Z dX1_makeRoom_11 rfl ?_
    refine g_sipush (v := 1024) Z dX1_makeRoom_12 (by decide) ?_
    refine g_newaJ Z 1024 dX1_makeRoom_15 (by decide +kernel) (by decide) (by decide) (by decide) (by rw [hRc]; omega) (by rw [hRs]; omega) (fun q hq => ?_)
    refine g_putr Z 1 3 rfl (by decide) tyX1 tyX1_ok nmX1 rfl in1 lk13 dX1_makeRoom_17 rfl rfl (by exact List.mem_append_left _ hcL) (by exact (va_up_ne _ _ (ne_mem hq hcL)).trans hcK) ?_
    exact g_vret Z dX1_makeRoom_20 (by omega) (by omega) (⟨q, Or.inr ⟨hww, hq, rfl⟩⟩)
  · obtain ⟨-, -, hww, hwL, hwK, hwl⟩ := id hq
    refine g_aload_n Z dX1_makeRoom_0 rfl ?_
    refine g_getr Z 1 3 rfl (by decide) in1 lk13 dX1_makeRoom_1 (by assumption) (by assumption) (by assumption) ?_
    refine g_alen9 Z dX1_makeRoom_4 (by assumption) (by assumption) ?_
    refine g_sipush (v := 1024) Z dX1_makeRoom_5 (by decide) ?_
    refine g_icmp_ge Z 20 dX1_makeRoom_8 (by decide) (fun h8 => ?_) (fun h8 => absurd (by rw [hwl]; decide) h8)
    exact g_vret Z dX1_makeRoom_20 (by omega) (by omega) (⟨w, Or.inl ⟨rfl, hq⟩⟩)

set_option maxRecDepth 100000 in
set_option maxHeartbeats 2000000 in
/-- static -/
theorem f_J7_fill_d0a16 (l : Launch) (D : va_G) (cy : Nat → ClassId) (nw : Nat) (S : PS) (w : Nat) (x : Int64) (hwL : w ∈ S.L) (hwK : S.K w = 9) (hwl : S.ln w = 1024) : kV l yJ7_fill_d0a16 wsJ7_fill_d0a16 0 0 D cy nw [.ref w, .long x] S (fun T => ∃ f, T = S.rowJ w f ∧ ∀ j, j < 1024 → f j = x) 0 0 := by
  refine enterV (cc := cJ7_fill_d0a16) (nL := 5) (ret := none) (by decide +kernel) rfl (Nat.le_of_ble_eq_true rfl) ?_
  intro F Z hl hR hD hcy hnw hnm
  subst hl hD hcy hnw
  have hRf : F.R.frames = 0 := by rw [hR]
  have hRc : F.R.cells = 0 := by rw [hR]
  have hRs : F.R.slots = 0 := by rw [hR]
  have hRl : F.R.locals = 0 := by rw [hR]
  have loop : ∀ (n i : Nat) (f : Nat → Int64), 1024 - i < n → i ≤ 1024 → (∀ j, j < i → f j = x) → G F 5 (S.rowJ w f) 0 0 (QV F (fun T => ∃ f, T = S.rowJ w f ∧ ∀ j, j < 1024 → f j = x) 0 0) 6 [(0, .ref w), (1, .long x), (3, .int (nI i)), (4, .int (nI 1024))] [] := by
    intro n
    induction n with
    | zero => intro i f hn; omega
    | succ n ih =>
      intro i f hn hi hf
      refine g_iload_n Z dJ7_fill_d0a16_6 rfl ?_
      refine g_iload Z dJ7_fill_d0a16_7 rfl ?_
      refine g_icmp_ge Z 22 dJ7_fill_d0a16_9 (by decide) (fun h9 => ?_) (fun h9 => ?_)
      · have he : i = 1024 := by have := ge_t (N := 1024) (by omega) (by decide) h9; omega
        subst he
        exact g_vret Z dJ7_fill_d0a16_22 (by omega) (by omega) (⟨_, rfl, hf⟩)
      · have hlt : i < 1024 := ge_f (by omega) (by decide) h9
        refine g_aload_n Z dJ7_fill_d0a16_12 rfl ?_
        refine g_iload_n Z dJ7_fill_d0a16_13 rfl ?_
        refine g_lload_n Z dJ7_fill_d0a16_14 rfl ?_
        refine g_last Z dJ7_fill_d0a16_15 (by assumption) (by assumption) (by show vp_in (nI i) (S.ln w); rw [hwl]; exact vp_in_nI (by omega) (by decide)) ?_
        rw [rowJ_rowJ, nI_clamp (by omega), show PS.rj (S.rowJ w f) w = f from va_up_self _ _ _]
        refine g_iinc (c := 1) Z dJ7_fill_d0a16_16 rfl (by decide) (by decide) ?_
        rw [nI_1]
        refine g_goto Z 6 dJ7_fill_d0a16_19 (by decide) ?_
        exact g_lv (by (repeat (first | exact trivial | refine And.intro rfl ?_)); done) (ih (i + 1) _ (by omega) (by omega) (fun j hj => by
          by_cases e : j = i
          · subst e; exact pk_uLs
          · rw [pk_uLn e]; exact hf j (by omega)))
  refine g_iconst (v := 0) Z dJ7_fill_d0a16_0 (by decide) ?_
  refine g_istore_n Z dJ7_fill_d0a16_1 (by decide) ?_
  refine g_aload_n Z dJ7_fill_d0a16_2 rfl ?_
  refine g_alen9 Z dJ7_fill_d0a16_3 (by assumption) (by assumption) ?_
  rw [hwl]
  refine g_istore Z dJ7_fill_d0a16_4 (by decide) ?_
  have h0 := loop 1025 0 (S.rj w) (by omega) (by omega) (fun j hj => by omega)
  rw [← rowJ_self] at h0
  exact g_lv (by (repeat (first | exact trivial | refine And.intro rfl ?_)); done) h0

set_option maxRecDepth 100000 in
set_option maxHeartbeats 2000000 in
/-- an empty container of a key -/
theorem f_X1_begin (l : Launch) (D : va_G) (cy : Nat → ClassId) (nw : Nat) (S : PS) (c : Nat) (hcL : c ∈ S.L) (hcK : S.K c = 1) (hww : S.fr c 3 = some nw ∨ ∃ w, Cq S c w) (k : Int32) : kV l yX1_begin wsX1_begin 1 24 D cy nw [.ref c, .int k] S (fun T => ∃ S1 w R, Rm nw S c S1 w ∧ (∀ j, j < 1024 → R j = 0) ∧ T = CS S1 c w k 0 0 R) 1 1024 := by
  refine enterV (cc := cX1_begin) (nL := 2) (ret := none) (by decide +kernel) rfl (Nat.le_of_ble_eq_true rfl) ?_
  intro F Z hl hR hD hcy hnw hnm
  subst hl hD hcy hnw
  have hRf : F.R.frames = 1 := by rw [hR]
  have hRc : F.R.cells = 1 := by rw [hR]
  have hRs : F.R.slots = 1024 := by rw [hR]
  have hRl : F.R.locals = 24 := by rw [hR]
  have in1 : ∀ w ∈ u_ws RX1 TX1 4, w ∈ wsX1_begin := by decide +kernel
  have lk13 : Cond.fieldLink RX1 13 (TX1 3).1 (TX1 3).2.1 (TX1 3).2.2.1 ∈ wsX1_begin := by decide +kernel
  have lk27 : Cond.fieldLink RX1 27 (TX1 0).1 (TX1 0).2.1 (TX1 0).2.2.1 ∈ wsX1_begin := by decide +kernel
  have lk31 : Cond.fieldLink RX1 31 (TX1 1).1 (TX1 1).2.1 (TX1 1).2.2.1 ∈ wsX1_begin := by decide +kernel
  have lk34 : Cond.fieldLink RX1 34 (TX1 2).1 (TX1 2).2.1 (TX1 2).2.2.1 ∈ wsX1_begin := by decide +kernel
  refine g_aload_n Z dX1_begin_0 rfl ?_
  refine g_cvV Z (f_X1_makeRoom F.l F.D F.cy F.nw S c hcL hcK hww) 0 gX1_begin_X1_makeRoom rfl (by decide +kernel) (by rw [hRf, hRl]; decide) (by assumption) (κ := 1) (by assumption) rfl (by decide) rfl rfl (Nat.le_of_ble_eq_true rfl) dX1_begin_1 (by rw [hRc, hRs]; omega) (fun S1 hp => ?_)
  obtain ⟨w, hrm⟩ := hp
  obtain ⟨kcL, kcK, kww, kwL, kwK, kwl⟩ := hrm.cq hcL hcK
  refine g_aload_n Z dX1_begin_4 rfl ?_
  refine g_getr Z 1 3 rfl (by decide) in1 lk13 dX1_begin_5 (by assumption) (by assumption) (by assumption) ?_
  refine g_lconst (v := 0) Z dX1_begin_8 (by decide) ?_
  refine g_csV Z (f_J7_fill_d0a16 F.l F.D F.cy F.nw S1 w 0 kwL kwK kwl) 2 gX1_begin_J7_fill_d0a16 rfl (by decide +kernel) (by rw [hRf, hRl]; decide) rfl rfl (Nat.le_of_ble_eq_true rfl) dX1_begin_9 (by rw [hRc, hRs]; omega) (fun U hp => ?_)
  obtain ⟨f, rfl, hf⟩ := hp
  rw [CS_row c w]
  refine g_aload_n Z dX1_begin_12 rfl ?_
  refine g_iload_n Z dX1_begin_13 rfl ?_
  refine g_puti Z 1 0 rfl (by decide) tyX1 tyX1_ok nmX1 rfl in1 lk27 dX1_begin_14 rfl rfl (by assumption) (by assumption) ?_
  rw [CS_k]
  refine g_aload_n Z dX1_begin_17 rfl ?_
  refine g_iconst (v := 0) Z dX1_begin_18 (by decide) ?_
  refine g_puti Z 1 1 rfl (by decide) tyX1 tyX1_ok nmX1 rfl in1 lk31 dX1_begin_19 rfl rfl (by assumption) (by assumption) ?_
  rw [CS_d]
  refine g_aload_n Z dX1_begin_22 rfl ?_
  refine g_iconst (v := 0) Z dX1_begin_23 (by decide) ?_
  refine g_puti Z 1 2 rfl (by decide) tyX1 tyX1_ok nmX1 rfl in1 lk34 dX1_begin_24 rfl rfl (by assumption) (by assumption) ?_
  rw [CS_v]
  exact g_vret Z dX1_begin_27 (by omega) (by omega) (⟨S1, w, f, hrm, hf, rfl⟩)

set_option maxRecDepth 100000 in
set_option maxHeartbeats 2000000 in
/-- becomes what another is -/
theorem f_X1_copyLowsOf (l : Launch) (D : va_G) (cy : Nat → ClassId) (nw : Nat) (S : PS) (c d v : Nat) (hcL : c ∈ S.L) (hcK : S.K c = 1) (hww : S.fr c 3 = some nw ∨ ∃ w, Cq S c w) (hd : Cq S d v) (hdc : d ≠ c) (hne : ∀ w, S.fr c 3 = some w → w ≠ v) : kV l yX1_copyLowsOf wsX1_copyLowsOf 1 60 D cy nw [.ref c, .ref d] S (fun T => ∃ S1 w R, Rm nw S c S1 w ∧ (∀ j, j < 1024 → R j = S.rj v j) ∧ T = CS S1 c w (S.fi d 0) (S.fi d 1) (S.fi d 2) R) 1 1024 := by
  refine enterV (cc := cX1_copyLowsOf) (nL := 2) (ret := none) (by decide +kernel) rfl (Nat.le_of_ble_eq_true rfl) ?_
  intro F Z hl hR hD hcy hnw hnm
  subst hl hD hcy hnw
  have hRf : F.R.frames = 1 := by rw [hR]
  have hRc : F.R.cells = 1 := by rw [hR]
  have hRs : F.R.slots = 1024 := by rw [hR]
  have hRl : F.R.locals = 60 := by rw [hR]
  have in1 : ∀ w ∈ u_ws RX1 TX1 4, w ∈ wsX1_copyLowsOf := by decide +kernel
  have lk13 : Cond.fieldLink RX1 13 (TX1 3).1 (TX1 3).2.1 (TX1 3).2.2.1 ∈ wsX1_copyLowsOf := by decide +kernel
  have lk27 : Cond.fieldLink RX1 27 (TX1 0).1 (TX1 0).2.1 (TX1 0).2.2.1 ∈ wsX1_copyLowsOf := by decide +kernel
  have lk31 : Cond.fieldLink RX1 31 (TX1 1).1 (TX1 1).2.1 (TX1 1).2.2.1 ∈ wsX1_copyLowsOf := by decide +kernel
  have lk34 : Cond.fieldLink RX1 34 (TX1 2).1 (TX1 2).2.1 (TX1 2).2.2.1 ∈ wsX1_copyLowsOf := by decide +kernel
  refine g_aload_n Z dX1_copyLowsOf_0 rfl ?_
  refine g_cvV Z (f_X1_makeRoom F.l F.D F.cy F.nw S c hcL hcK hww) 0 gX1_copyLowsOf_X1_makeRoom rfl (by decide +kernel) (by rw [hRf, hRl]; decide) (by assumption) (κ := 1) (by assumption) rfl (by decide) rfl rfl (Nat.le_of_ble_eq_true rfl) dX1_copyLowsOf_1 (by rw [hRc, hRs]; omega) (fun S1 hp => ?_)
  obtain ⟨w, hrm⟩ := hp
  obtain ⟨kcL, kcK, kww, kwL, kwK, kwl⟩ := hrm.cq hcL hcK
  obtain ⟨hdL, hdK, hvv, hvL, hvK, hvl⟩ := id hd
  have hvc : v ≠ c := fun e => by rw [e, hcK] at hvK; exact absurd hvK (by decide)
  have hwv : v ≠ w := by
    rcases id hrm with ⟨rfl, h⟩ | ⟨-, hq, -⟩
    · exact fun e => hne w h.2.2.1 e.symm
    · exact ne_mem hq hvL
  have hrj : S1.rj v = S.rj v := (hrm.ag hvL hvc).2.2.2.2.2.1
  obtain ⟨gdL, gdK, gvv, gvL, gvK, gvl⟩ := Ag.cq hrm.L (hrm.ag hdL hdc) ⟨(hrm.ag hvL hvc).1, (hrm.ag hvL hvc).2.2.2.1⟩ hd
  have hfi : S1.fi = S.fi := hrm.fi
  refine g_aload_n Z dX1_copyLowsOf_4 rfl ?_
  refine g_getr Z 1 3 rfl (by decide) in1 lk13 dX1_copyLowsOf_5 (by assumption) (by assumption) (by assumption) ?_
  refine g_iconst (v := 0) Z dX1_copyLowsOf_8 (by decide) ?_
  refine g_aload_n Z dX1_copyLowsOf_9 rfl ?_
  refine g_getr Z 1 3 rfl (by decide) in1 lk13 dX1_copyLowsOf_10 (by assumption) (by assumption) (by assumption) ?_
  refine g_iconst (v := 0) Z dX1_copyLowsOf_13 (by decide) ?_
  refine g_sipush (v := 1024) Z dX1_copyLowsOf_14 (by decide) ?_
  refine g_copyJ Z (by decide +kernel) (by decide +kernel) (by decide +kernel) (by decide +kernel) dX1_copyLowsOf_17 gvL gvK kwL kwK (by decide) (by decide) (by decide) (by rw [gvl]; decide) (by rw [kwl]; decide) (by rw [hRf]; decide) (by rw [hRl]; decide) ?_
  rw [CS_row c w]
  refine g_aload_n Z dX1_copyLowsOf_20 rfl ?_
  refine g_aload_n Z dX1_copyLowsOf_21 rfl ?_
  refine g_geti Z 1 0 rfl (by decide) in1 lk27 dX1_copyLowsOf_22 (by assumption) (by assumption) ?_
  rw [CS_o hdc, hfi]
  refine g_puti Z 1 0 rfl (by decide) tyX1 tyX1_ok nmX1 rfl in1 lk27 dX1_copyLowsOf_25 rfl rfl (by assumption) (by assumption) ?_
  rw [CS_k]
  refine g_aload_n Z dX1_copyLowsOf_28 rfl ?_
  refine g_aload_n Z dX1_copyLowsOf_29 rfl ?_
  refine g_geti Z 1 1 rfl (by decide) in1 lk31 dX1_copyLowsOf_30 (by assumption) (by assumption) ?_
  rw [CS_o hdc, hfi]
  refine g_puti Z 1 1 rfl (by decide) tyX1 tyX1_ok nmX1 rfl in1 lk31 dX1_copyLowsOf_33 rfl rfl (by assumption) (by assumption) ?_
  rw [CS_d]
  refine g_aload_n Z dX1_copyLowsOf_36 rfl ?_
  refine g_aload_n Z dX1_copyLowsOf_37 rfl ?_
  refine g_geti Z 1 2 rfl (by decide) in1 lk34 dX1_copyLowsOf_38 (by assumption) (by assumption) ?_
  rw [CS_o hdc, hfi]
  refine g_puti Z 1 2 rfl (by decide) tyX1 tyX1_ok nmX1 rfl in1 lk34 dX1_copyLowsOf_41 rfl rfl (by assumption) (by assumption) ?_
  rw [CS_v]
  exact g_vret Z dX1_copyLowsOf_44 (by omega) (by omega) (⟨S1, w, _, hrm, fun j hj => (pk_cpy_in (Nat.zero_le _) (show j < 0 + 1024 by omega)).trans (by rw [hrj]; congr 1; show 0 + (j - 0) = j; omega), rfl⟩)

set_option maxRecDepth 100000 in
set_option maxHeartbeats 2000000 in
/-- array or bitmap -/
theorem f_X1_setPlainKind (l : Launch) (D : va_G) (cy : Nat → ClassId) (nw : Nat) (S : PS) (c : Nat) (hcL : c ∈ S.L) (hcK : S.K c = 1) : kV l yX1_setPlainKind wsX1_setPlainKind 0 0 D cy nw [.ref c] S (fun T => T = S.setI c 1 (plK (S.fi c 2))) 0 0 := by
  refine enterV (cc := cX1_setPlainKind) (nL := 1) (ret := none) (by decide +kernel) rfl (Nat.le_of_ble_eq_true rfl) ?_
  intro F Z hl hR hD hcy hnw hnm
  subst hl hD hcy hnw
  have hRf : F.R.frames = 0 := by rw [hR]
  have hRc : F.R.cells = 0 := by rw [hR]
  have hRs : F.R.slots = 0 := by rw [hR]
  have hRl : F.R.locals = 0 := by rw [hR]
  have in1 : ∀ w ∈ u_ws RX1 TX1 4, w ∈ wsX1_setPlainKind := by decide +kernel
  have lk31 : Cond.fieldLink RX1 31 (TX1 1).1 (TX1 1).2.1 (TX1 1).2.2.1 ∈ wsX1_setPlainKind := by decide +kernel
  have lk34 : Cond.fieldLink RX1 34 (TX1 2).1 (TX1 2).2.1 (TX1 2).2.2.1 ∈ wsX1_setPlainKind := by decide +kernel
  have e1 : ∀ h : (4096 : Int32) < S.fi c 2, plK (S.fi c 2) = 1 := fun h => if_pos h
  have e0 : ∀ h : ¬ (4096 : Int32) < S.fi c 2, plK (S.fi c 2) = 0 := fun h => if_neg h
  refine g_aload_n Z dX1_setPlainKind_0 rfl ?_
  refine g_aload_n Z dX1_setPlainKind_1 rfl ?_
  refine g_geti Z 1 2 rfl (by decide) in1 lk34 dX1_setPlainKind_2 (by assumption) (by assumption) ?_
  refine g_sipush (v := 4096) Z dX1_setPlainKind_5 (by decide) ?_
  refine g_icmp_gt Z 15 dX1_setPlainKind_8 (by decide) (fun h8 => ?_) (fun h8 => ?_)
  · refine g_iconst (v := 1) Z dX1_setPlainKind_15 (by decide) ?_
    refine g_puti Z 1 1 rfl (by decide) tyX1 tyX1_ok nmX1 rfl in1 lk31 dX1_setPlainKind_16 rfl rfl (by assumption) (by assumption) ?_
    exact g_vret Z dX1_setPlainKind_19 (by omega) (by omega) (by first | rw [e1 h8] | rw [e0 h8])
  · refine g_iconst (v := 0) Z dX1_setPlainKind_11 (by decide) ?_
    refine g_goto Z 16 dX1_setPlainKind_12 (by decide) ?_
    refine g_puti Z 1 1 rfl (by decide) tyX1 tyX1_ok nmX1 rfl in1 lk31 dX1_setPlainKind_16 rfl rfl (by assumption) (by assumption) ?_
    exact g_vret Z dX1_setPlainKind_19 (by omega) (by omega) (by first | rw [e1 h8] | rw [e0 h8])

set_option maxRecDepth 100000 in
set_option maxHeartbeats 2000000 in
/-- the kind that takes the fewest bytes -/
theorem f_X1_setSmallestKind (l : Launch) (D : va_G) (cy : Nat → ClassId) (nw : Nat) (S : PS) (c w : Nat) (hc : Cq S c w) (hk : Cr S c) : kV l yX1_setSmallestKind wsX1_setSmallestKind 2 47 D cy nw [.ref c] S (fun T => T = S.setI c 1 (smK (S.fi c 2) (trF (S.rj w) 1024))) 0 0 := by
  refine enterV (cc := cX1_setSmallestKind) (nL := 2) (ret := none) (by decide +kernel) rfl (Nat.le_of_ble_eq_true rfl) ?_
  intro F Z hl hR hD hcy hnw hnm
  subst hl hD hcy hnw
  have hRf : F.R.frames = 2 := by rw [hR]
  have hRc : F.R.cells = 0 := by rw [hR]
  have hRs : F.R.slots = 0 := by rw [hR]
  have hRl : F.R.locals = 47 := by rw [hR]
  have in1 : ∀ w ∈ u_ws RX1 TX1 4, w ∈ wsX1_setSmallestKind := by decide +kernel
  have lk31 : Cond.fieldLink RX1 31 (TX1 1).1 (TX1 1).2.1 (TX1 1).2.2.1 ∈ wsX1_setSmallestKind := by decide +kernel
  have lk34 : Cond.fieldLink RX1 34 (TX1 2).1 (TX1 2).2.1 (TX1 2).2.2.1 ∈ wsX1_setSmallestKind := by decide +kernel
  obtain ⟨hcL, hcK, hww, hwL, hwK, hwl⟩ := id hc
  have hcr : ∀ z, S.fr c 3 = some z → z = w := fun z hz => by rw [hww] at hz; cases hz; rfl
  have j22 : G F 2 S 0 0 (QV F (fun T => T = S.setI c 1 (smK (S.fi c 2) (trF (S.rj w) 1024))) 0 0) 22 [(0, .ref c)] [.int (if (4096 : Int32) < S.fi c 2 then 8192 else 2 * S.fi c 2)] := by
    refine g_istore_n Z dX1_setSmallestKind_22 (by decide) ?_
    refine g_iconst (v := 2) Z dX1_setSmallestKind_23 (by decide) ?_
    refine g_iconst (v := 4) Z dX1_setSmallestKind_24 (by decide) ?_
    refine g_aload_n Z dX1_setSmallestKind_25 rfl ?_
    refine g_cvI Z (c_X1_totalRuns F.l F.D F.cy F.nw S c hk) 0 gX1_setSmallestKind_X1_totalRuns rfl (by decide +kernel) (by rw [hRf, hRl]; decide) (by assumption) (κ := 1) (by assumption) rfl (by decide) rfl rfl (Nat.le_of_ble_eq_true rfl) dX1_setSmallestKind_26 (by rw [hRc, hRs]; omega) (fun r T hp => ?_)
    obtain ⟨rfl, hr⟩ := hp
    rw [hr w hww]
    refine g_imul Z dX1_setSmallestKind_29 ?_
    refine g_iadd Z dX1_setSmallestKind_30 ?_
    refine g_iload_n Z dX1_setSmallestKind_31 rfl ?_
    refine g_icmp_ge Z 43 dX1_setSmallestKind_32 (by decide) (fun h32 => ?_) (fun h32 => ?_)
    · have es : smK (S.fi c 2) (trF (S.rj w) 1024) = plK (S.fi c 2) := if_pos h32
      refine g_aload_n Z dX1_setSmallestKind_43 rfl ?_
      refine g_cvV Z (f_X1_setPlainKind F.l F.D F.cy F.nw S c hcL hcK) 0 gX1_setSmallestKind_X1_setPlainKind rfl (by decide +kernel) (by rw [hRf, hRl]; decide) (by assumption) (κ := 1) (by assumption) rfl (by decide) rfl rfl (Nat.le_of_ble_eq_true rfl) dX1_setSmallestKind_44 (by rw [hRc, hRs]; omega) (fun T hp => ?_)
      exact g_vret Z dX1_setSmallestKind_47 (by omega) (by omega) (by first | (rw [es]; exact hp) | rw [es])
    · have es : smK (S.fi c 2) (trF (S.rj w) 1024) = 2 := if_neg h32
      refine g_aload_n Z dX1_setSmallestKind_35 rfl ?_
      refine g_iconst (v := 2) Z dX1_setSmallestKind_36 (by decide) ?_
      refine g_puti Z 1 1 rfl (by decide) tyX1 tyX1_ok nmX1 rfl in1 lk31 dX1_setSmallestKind_37 rfl rfl (by assumption) (by assumption) ?_
      refine g_goto Z 47 dX1_setSmallestKind_40 (by decide) ?_
      exact g_vret Z dX1_setSmallestKind_47 (by omega) (by omega) (by first | (rw [es]; exact hp) | rw [es])
  refine g_aload_n Z dX1_setSmallestKind_0 rfl ?_
  refine g_geti Z 1 2 rfl (by decide) in1 lk34 dX1_setSmallestKind_1 (by assumption) (by assumption) ?_
  refine g_sipush (v := 4096) Z dX1_setSmallestKind_4 (by decide) ?_
  refine g_icmp_gt Z 19 dX1_setSmallestKind_7 (by decide) (fun h7 => ?_) (fun h7 => ?_)
  · refine g_sipush (v := 8192) Z dX1_setSmallestKind_19 (by decide) ?_
    first | (have h0 := j22; rw [if_pos h7] at h0; exact g_lv (by (repeat (first | exact trivial | refine And.intro rfl ?_)); done) h0) | (have h0 := j22; rw [if_neg h7] at h0; exact g_lv (by (repeat (first | exact trivial | refine And.intro rfl ?_)); done) h0)
  · refine g_iconst (v := 2) Z dX1_setSmallestKind_10 (by decide) ?_
    refine g_aload_n Z dX1_setSmallestKind_11 rfl ?_
    refine g_geti Z 1 2 rfl (by decide) in1 lk34 dX1_setSmallestKind_12 (by assumption) (by assumption) ?_
    refine g_imul Z dX1_setSmallestKind_15 ?_
    refine g_goto Z 22 dX1_setSmallestKind_16 (by decide) ?_
    first | (have h0 := j22; rw [if_pos h7] at h0; exact g_lv (by (repeat (first | exact trivial | refine And.intro rfl ?_)); done) h0) | (have h0 := j22; rw [if_neg h7] at h0; exact g_lv (by (repeat (first | exact trivial | refine And.intro rfl ?_)); done) h0)

theorem bit_any (x : Int64) {i : Nat} (hi : i < 2 ^ 31) : (x.toUInt64 >>> ((nI i).toInt64.toUInt64 &&& Int64.toUInt64 63)).toInt64 &&& 1 = lN (wv x / 2 ^ (i % 64) % 2) := by
  rw [sh_anyU hi]
  have h := wb_bit (n := wv x) (k := i % 64) (wv_lt x) (by omega)
  rw [lN_wv] at h
  exact h
theorem lN01 {b : Nat} (hb : b < 2) : lg_cmp (lN b) 0 = 0 ↔ b = 0 := by
  rw [lc_eq]
  rcases (show b = 0 ∨ b = 1 by omega) with rfl | rfl
  · exact ⟨fun _ => rfl, fun _ => rfl⟩
  · exact ⟨fun h => absurd h (by decide), fun h => absurd h (by decide)⟩

set_option maxRecDepth 100000 in
set_option maxHeartbeats 2000000 in
/-- whether a low is there -/
theorem f_X1_holds (l : Launch) (D : va_G) (cy : Nat → ClassId) (nw : Nat) (S : PS) (c w : Nat) (hc : Cq S c w) (i : Nat) (hi : i < 65536) : kI l yX1_holds wsX1_holds 0 0 D cy nw [.ref c, .int (nI i)] S (fun r T => S = T ∧ r = nI (cb (S.rj w) 0 i)) 0 0 := by
  refine enterI (cc := cX1_holds) (nL := 2) (ret := (some .boolean)) (by decide +kernel) rfl (Nat.le_of_ble_eq_true rfl) ?_
  intro F Z hl hR hD hcy hnw hnm
  subst hl hD hcy hnw
  have hRf : F.R.frames = 0 := by rw [hR]
  have hRc : F.R.cells = 0 := by rw [hR]
  have hRs : F.R.slots = 0 := by rw [hR]
  have hRl : F.R.locals = 0 := by rw [hR]
  have in1 : ∀ w ∈ u_ws RX1 TX1 4, w ∈ wsX1_holds := by decide +kernel
  have lk13 : Cond.fieldLink RX1 13 (TX1 3).1 (TX1 3).2.1 (TX1 3).2.2.1 ∈ wsX1_holds := by decide +kernel
  obtain ⟨hcL, hcK, hww, hwL, hwK, hwl⟩ := id hc
  have hb : wv (S.rj w (i / 64)) / 2 ^ (i % 64) % 2 < 2 := Nat.mod_lt _ (by decide)
  refine g_aload_n Z dX1_holds_0 rfl ?_
  refine g_getr Z 1 3 rfl (by decide) in1 lk13 dX1_holds_1 (by assumption) (by assumption) (by assumption) ?_
  refine g_iload_n Z dX1_holds_4 rfl ?_
  refine g_bipush (v := 6) Z dX1_holds_5 (by decide) ?_
  refine g_ishr Z dX1_holds_7 ?_
  rw [shr6 (by omega)]
  refine g_lald Z dX1_holds_8 (by assumption) (by assumption) (by exact vin_of hwl (by omega) (by decide)) ?_
  rw [nI_clamp (by omega)]
  refine g_iload_n Z dX1_holds_9 rfl ?_
  refine g_lushr Z dX1_holds_10 ?_
  refine g_lconst (v := 1) Z dX1_holds_11 (by decide) ?_
  refine g_land Z dX1_holds_12 ?_
  rw [bit_any _ (by omega)]
  refine g_lconst (v := 0) Z dX1_holds_13 (by decide) ?_
  refine g_lcmp Z dX1_holds_14 ?_
  refine g_if_eq Z 22 dX1_holds_15 (by decide) (fun h15 => ?_) (fun h15 => ?_)
  · have hz := (lN01 hb).mp h15
    refine g_iconst (v := 0) Z dX1_holds_22 (by decide) ?_
    exact g_zret Z dX1_holds_23 (by rfl) (by omega) (by omega) (⟨rfl, by rw [cbz, hz]; rfl⟩)
  · have hz : wv (S.rj w (i / 64)) / 2 ^ (i % 64) % 2 = 1 := by
      rcases Nat.mod_two_eq_zero_or_one (wv (S.rj w (i / 64)) / 2 ^ (i % 64)) with e | e
      · exact absurd ((lN01 hb).mpr e) h15
      · exact e
    refine g_iconst (v := 1) Z dX1_holds_18 (by decide) ?_
    refine g_goto Z 23 dX1_holds_19 (by decide) ?_
    exact g_zret Z dX1_holds_23 (by rfl) (by omega) (by omega) (⟨rfl, by rw [cbz, hz]; rfl⟩)

set_option maxRecDepth 100000 in
set_option maxHeartbeats 2000000 in
/-- static -/
theorem f_X1_upTo (l : Launch) (D : va_G) (cy : Nat → ClassId) (nw : Nat) (S : PS) (t : Nat) (ht : t < 65536) : kL l yX1_upTo wsX1_upTo 0 0 D cy nw [.int (nI t)] S (fun r T => S = T ∧ r = upT t) 0 0 := by
  refine enterL (cc := cX1_upTo) (nL := 1) (ret := (some .long)) (by decide +kernel) rfl (Nat.le_of_ble_eq_true rfl) ?_
  intro F Z hl hR hD hcy hnw hnm
  subst hl hD hcy hnw
  have hRf : F.R.frames = 0 := by rw [hR]
  have hRc : F.R.cells = 0 := by rw [hR]
  have hRs : F.R.slots = 0 := by rw [hR]
  have hRl : F.R.locals = 0 := by rw [hR]
  have ct50 : Cond.constantLong RX1 50 (-1) ∈ wsX1_upTo := by decide +kernel
  refine g_ldc2 (v := -1) Z dX1_upTo_0 ct50 ?_
  refine g_bipush (v := 63) Z dX1_upTo_3 (by decide) ?_
  refine g_iload_n Z dX1_upTo_5 rfl ?_
  refine g_bipush (v := 63) Z dX1_upTo_6 (by decide) ?_
  refine g_iand Z dX1_upTo_8 ?_
  rw [pk_andN (n := t) (by omega) 6 (by decide)]
  refine g_isub Z dX1_upTo_9 ?_
  rw [show (63 : Int32) - nI (t % 2 ^ 6) = nI (63 - t % 64) from pk_sub (a := 63) (by omega)]
  refine g_lushr Z dX1_upTo_10 ?_
  exact g_lret Z dX1_upTo_11 (by omega) (by omega) (⟨rfl, rfl⟩)

set_option maxRecDepth 100000 in
set_option maxHeartbeats 2000000 in
/-- static -/
theorem f_X1_mix (l : Launch) (D : va_G) (cy : Nat → ClassId) (nw : Nat) (S : PS) (x : Int32) (hx : x = 0 ∨ x = 1 ∨ x = 2 ∨ x = 3) (a b : Int64) : kL l yX1_mix wsX1_mix 0 0 D cy nw [.int x, .long a, .long b] S (fun r T => S = T ∧ r = mxW x a b) 0 0 := by
  refine enterL (cc := cX1_mix) (nL := 5) (ret := (some .long)) (by decide +kernel) rfl (Nat.le_of_ble_eq_true rfl) ?_
  intro F Z hl hR hD hcy hnw hnm
  subst hl hD hcy hnw
  have hRf : F.R.frames = 0 := by rw [hR]
  have hRc : F.R.cells = 0 := by rw [hR]
  have hRs : F.R.slots = 0 := by rw [hR]
  have hRl : F.R.locals = 0 := by rw [hR]
  have ct50 : Cond.constantLong RX1 50 (-1) ∈ wsX1_mix := by decide +kernel
  refine g_iload_n Z dX1_mix_0 rfl ?_
  rcases hx with rfl | rfl | rfl | rfl
  · refine g_tableIn Z 28 dX1_mix_1 (by decide) (by decide) (off := 27) (by decide) (by decide) ?_
    refine g_lload_n Z dX1_mix_28 rfl ?_
    refine g_lload_n Z dX1_mix_29 rfl ?_
    refine g_land Z dX1_mix_30 ?_
    exact g_lret Z dX1_mix_31 (by omega) (by omega) (⟨rfl, rfl⟩)
  · refine g_tableIn Z 32 dX1_mix_1 (by decide) (by decide) (off := 31) (by decide) (by decide) ?_
    refine g_lload_n Z dX1_mix_32 rfl ?_
    refine g_lload_n Z dX1_mix_33 rfl ?_
    refine g_lor Z dX1_mix_34 ?_
    exact g_lret Z dX1_mix_35 (by omega) (by omega) (⟨rfl, rfl⟩)
  · refine g_tableIn Z 36 dX1_mix_1 (by decide) (by decide) (off := 35) (by decide) (by decide) ?_
    refine g_lload_n Z dX1_mix_36 rfl ?_
    refine g_lload_n Z dX1_mix_37 rfl ?_
    refine g_lxor Z dX1_mix_38 ?_
    exact g_lret Z dX1_mix_39 (by omega) (by omega) (⟨rfl, rfl⟩)
  · refine g_tableOut Z 40 dX1_mix_1 (Or.inr (by decide)) (by decide) ?_
    refine g_lload_n Z dX1_mix_40 rfl ?_
    refine g_lload_n Z dX1_mix_41 rfl ?_
    refine g_ldc2 (v := -1) Z dX1_mix_42 ct50 ?_
    refine g_lxor Z dX1_mix_45 ?_
    refine g_land Z dX1_mix_46 ?_
    exact g_lret Z dX1_mix_47 (by omega) (by omega) (⟨rfl, rfl⟩)

set_option maxRecDepth 100000 in
set_option maxHeartbeats 2000000 in
/-- two containers' lows held beside each other -/
theorem f_X1_hasNoLowBut (l : Launch) (D : va_G) (cy : Nat → ClassId) (nw : Nat) (S : PS) (c d w v : Nat) (hc : Cq S c w) (hd : Cq S d v) : kI l yX1_hasNoLowBut wsX1_hasNoLowBut 0 0 D cy nw [.ref c, .ref d] S (fun r T => S = T ∧ ((r = 1 ∧ ∀ j, j < 1024 → S.rj w j &&& (S.rj v j ^^^ -1) = 0) ∨ (r = 0 ∧ ∃ j, j < 1024 ∧ ¬ S.rj w j &&& (S.rj v j ^^^ -1) = 0))) 0 0 := by
  refine enterI (cc := cX1_hasNoLowBut) (nL := 3) (ret := (some .boolean)) (by decide +kernel) rfl (Nat.le_of_ble_eq_true rfl) ?_
  intro F Z hl hR hD hcy hnw hnm
  subst hl hD hcy hnw
  have hRf : F.R.frames = 0 := by rw [hR]
  have hRc : F.R.cells = 0 := by rw [hR]
  have hRs : F.R.slots = 0 := by rw [hR]
  have hRl : F.R.locals = 0 := by rw [hR]
  have in1 : ∀ w ∈ u_ws RX1 TX1 4, w ∈ wsX1_hasNoLowBut := by decide +kernel
  have lk13 : Cond.fieldLink RX1 13 (TX1 3).1 (TX1 3).2.1 (TX1 3).2.2.1 ∈ wsX1_hasNoLowBut := by decide +kernel
  have ct50 : Cond.constantLong RX1 50 (-1) ∈ wsX1_hasNoLowBut := by decide +kernel
  obtain ⟨hcL, hcK, hww, hwL, hwK, hwl⟩ := id hc
  obtain ⟨hdL, hdK, hvv, hvL, hvK, hvl⟩ := id hd
  have loop : ∀ (n : Nat) (i : Nat), 1024 - i < n → (i ≤ 1024 ∧ ∀ j, j < i → S.rj w j &&& (S.rj v j ^^^ -1) = 0) → G F 3 S 0 0 (QI F (fun r T => S = T ∧ ((r = 1 ∧ ∀ j, j < 1024 → S.rj w j &&& (S.rj v j ^^^ -1) = 0) ∨ (r = 0 ∧ ∃ j, j < 1024 ∧ ¬ S.rj w j &&& (S.rj v j ^^^ -1) = 0))) 0 0) 2 [(0, .ref c), (1, .ref d), (2, .int (nI i))] [] := by
    intro n
    induction n with
    | zero => intros; omega
    | succ n ih =>
      intro i hn ⟨hi, hj⟩
      refine g_iload_n Z dX1_hasNoLowBut_2 rfl ?_
      refine g_sipush (v := 1024) Z dX1_hasNoLowBut_3 (by decide) ?_
      refine g_icmp_ge Z 39 dX1_hasNoLowBut_6 (by decide) (fun h6 => ?_) (fun h6 => ?_)
      · have he : i = 1024 := by have := ge_t (N := 1024) (by omega) (by decide) h6; omega
        subst he
        refine g_iconst (v := 1) Z dX1_hasNoLowBut_39 (by decide) ?_
        exact g_zret Z dX1_hasNoLowBut_40 (by rfl) (by omega) (by omega) (⟨rfl, Or.inl ⟨rfl, hj⟩⟩)
      · have hlt : i < 1024 := ge_f (by omega) (by decide) h6
        refine g_aload_n Z dX1_hasNoLowBut_9 rfl ?_
        refine g_getr Z 1 3 rfl (by decide) in1 lk13 dX1_hasNoLowBut_10 (by assumption) (by assumption) (by assumption) ?_
        refine g_iload_n Z dX1_hasNoLowBut_13 rfl ?_
        refine g_lald Z dX1_hasNoLowBut_14 (by assumption) (by assumption) (by exact vin_of hwl hlt (by decide)) ?_
        rw [nI_clamp (by omega)]
        refine g_aload_n Z dX1_hasNoLowBut_15 rfl ?_
        refine g_getr Z 1 3 rfl (by decide) in1 lk13 dX1_hasNoLowBut_16 (by assumption) (by assumption) (by assumption) ?_
        refine g_iload_n Z dX1_hasNoLowBut_19 rfl ?_
        refine g_lald Z dX1_hasNoLowBut_20 (by assumption) (by assumption) (by exact vin_of hvl hlt (by decide)) ?_
        rw [nI_clamp (by omega)]
        refine g_ldc2 (v := -1) Z dX1_hasNoLowBut_21 ct50 ?_
        refine g_lxor Z dX1_hasNoLowBut_24 ?_
        refine g_land Z dX1_hasNoLowBut_25 ?_
        refine g_lconst (v := 0) Z dX1_hasNoLowBut_26 (by decide) ?_
        refine g_lcmp Z dX1_hasNoLowBut_27 ?_
        refine g_if_eq Z 33 dX1_hasNoLowBut_28 (by decide) (fun h28 => ?_) (fun h28 => ?_)
        · refine g_iinc (c := 1) Z dX1_hasNoLowBut_33 rfl (by decide) (by decide) ?_
          rw [nI_1]
          refine g_goto Z 2 dX1_hasNoLowBut_36 (by decide) ?_
          exact g_lv (by (repeat (first | exact trivial | refine And.intro rfl ?_)); done) (ih (i + 1) (by omega) ⟨by omega, fun j h => by
            by_cases e : j = i
            · subst e; exact lc_eq.mp h28
            · exact hj j (by omega)⟩)
        · refine g_iconst (v := 0) Z dX1_hasNoLowBut_31 (by decide) ?_
          exact g_zret Z dX1_hasNoLowBut_32 (by rfl) (by omega) (by omega) (⟨rfl, Or.inr ⟨rfl, i, hlt, fun h => h28 (lc_eq.mpr h)⟩⟩)
  refine g_iconst (v := 0) Z dX1_hasNoLowBut_0 (by decide) ?_
  refine g_istore_n Z dX1_hasNoLowBut_1 (by decide) ?_
  exact g_lv (by (repeat (first | exact trivial | refine And.intro rfl ?_)); done) (loop 1025 0 (by omega) ⟨by omega, fun j h => by omega⟩)

set_option maxRecDepth 100000 in
set_option maxHeartbeats 2000000 in
/-- whether two containers have the same lows -/
theorem f_X1_hasLowsOf (l : Launch) (D : va_G) (cy : Nat → ClassId) (nw : Nat) (S : PS) (c d w v : Nat) (hc : Cq S c w) (hd : Cq S d v) : kI l yX1_hasLowsOf wsX1_hasLowsOf 1 22 D cy nw [.ref c, .ref d] S (fun r T => S = T ∧ ((r = 1 ∧ (S.fi c 2 = S.fi d 2 ∧ ∀ j, j < 1024 → S.rj w j &&& (S.rj v j ^^^ -1) = 0)) ∨ (r = 0 ∧ ¬ (S.fi c 2 = S.fi d 2 ∧ ∀ j, j < 1024 → S.rj w j &&& (S.rj v j ^^^ -1) = 0)))) 0 0 := by
  refine enterI (cc := cX1_hasLowsOf) (nL := 2) (ret := (some .boolean)) (by decide +kernel) rfl (Nat.le_of_ble_eq_true rfl) ?_
  intro F Z hl hR hD hcy hnw hnm
  subst hl hD hcy hnw
  have hRf : F.R.frames = 1 := by rw [hR]
  have hRc : F.R.cells = 0 := by rw [hR]
  have hRs : F.R.slots = 0 := by rw [hR]
  have hRl : F.R.locals = 22 := by rw [hR]
  have in1 : ∀ w ∈ u_ws RX1 TX1 4, w ∈ wsX1_hasLowsOf := by decide +kernel
  have lk34 : Cond.fieldLink RX1 34 (TX1 2).1 (TX1 2).2.1 (TX1 2).2.2.1 ∈ wsX1_hasLowsOf := by decide +kernel
  obtain ⟨hcL, hcK, hww, hwL, hwK, hwl⟩ := id hc
  obtain ⟨hdL, hdK, hvv, hvL, hvK, hvl⟩ := id hd
  refine g_aload_n Z dX1_hasLowsOf_0 rfl ?_
  refine g_geti Z 1 2 rfl (by decide) in1 lk34 dX1_hasLowsOf_1 (by assumption) (by assumption) ?_
  refine g_aload_n Z dX1_hasLowsOf_4 rfl ?_
  refine g_geti Z 1 2 rfl (by decide) in1 lk34 dX1_hasLowsOf_5 (by assumption) (by assumption) ?_
  refine g_icmp_ne Z 23 dX1_hasLowsOf_8 (by decide) (fun h8 => ?_) (fun h8 => ?_)
  · refine g_iconst (v := 0) Z dX1_hasLowsOf_23 (by decide) ?_
    exact g_zret Z dX1_hasLowsOf_24 (by rfl) (by omega) (by omega) (⟨rfl, by first | exact Or.inl ⟨rfl, h8, hal⟩ | exact Or.inr ⟨rfl, fun h => hne (h.2 j hj)⟩ | exact Or.inr ⟨rfl, fun h => h8 h.1⟩⟩)
  · refine g_aload_n Z dX1_hasLowsOf_11 rfl ?_
    refine g_aload_n Z dX1_hasLowsOf_12 rfl ?_
    refine g_cvI Z (f_X1_hasNoLowBut F.l F.D F.cy F.nw S c d w v hc hd) 1 gX1_hasLowsOf_X1_hasNoLowBut rfl (by decide +kernel) (by rw [hRf, hRl]; decide) (by assumption) (κ := 1) (by assumption) rfl (by decide) rfl rfl (Nat.le_of_ble_eq_true rfl) dX1_hasLowsOf_13 (by rw [hRc, hRs]; omega) (fun r T hp => ?_)
    obtain ⟨rfl, hr⟩ := hp
    refine g_if_eq Z 23 dX1_hasLowsOf_16 (by decide) (fun h16 => ?_) (fun h16 => ?_)
    · rcases hr with ⟨rfl, -⟩ | ⟨-, j, hj, hne⟩
      · exact absurd h16 (by decide)
      refine g_iconst (v := 0) Z dX1_hasLowsOf_23 (by decide) ?_
      exact g_zret Z dX1_hasLowsOf_24 (by rfl) (by omega) (by omega) (⟨rfl, by first | exact Or.inl ⟨rfl, h8, hal⟩ | exact Or.inr ⟨rfl, fun h => hne (h.2 j hj)⟩ | exact Or.inr ⟨rfl, fun h => h8 h.1⟩⟩)
    · rcases hr with ⟨-, hal⟩ | ⟨rfl, -⟩
      rotate_left
      · exact absurd rfl h16
      refine g_iconst (v := 1) Z dX1_hasLowsOf_19 (by decide) ?_
      refine g_goto Z 24 dX1_hasLowsOf_20 (by decide) ?_
      exact g_zret Z dX1_hasLowsOf_24 (by rfl) (by omega) (by omega) (⟨rfl, by first | exact Or.inl ⟨rfl, h8, hal⟩ | exact Or.inr ⟨rfl, fun h => hne (h.2 j hj)⟩ | exact Or.inr ⟨rfl, fun h => h8 h.1⟩⟩)

set_option maxRecDepth 100000 in
set_option maxHeartbeats 2000000 in
/-- lows from one to another come, go or turn -/
theorem f_X1_changeLows (l : Launch) (D : va_G) (cy : Nat → ClassId) (nw : Nat) (S : PS) (c w : Nat) (hc : Cq S c w) (hv : S.fi c 2 = nI (tot (S.rj w))) (f t : Nat) (hf : f < 65536) (ht : t < 65536) (hft : f ≤ t) (h : Int32) : kI l yX1_changeLows wsX1_changeLows 1 21 D cy nw [.ref c, .int (nI f), .int (nI t), .int h] S (fun r T => T = (CS S c w (S.fi c 0) (S.fi c 1) (nI (tot (rg h f t (S.rj w)))) (rg h f t (S.rj w))) ∧ Fl r (S.rj w) (rg h f t (S.rj w))) 0 0 := by
  refine enterI (cc := cX1_changeLows) (nL := 14) (ret := (some .boolean)) (by decide +kernel) rfl (Nat.le_of_ble_eq_true rfl) ?_
  intro F Z hl hR hD hcy hnw hnm
  subst hl hD hcy hnw
  have hRf : F.R.frames = 1 := by rw [hR]
  have hRc : F.R.cells = 0 := by rw [hR]
  have hRs : F.R.slots = 0 := by rw [hR]
  have hRl : F.R.locals = 21 := by rw [hR]
  have in1 : ∀ w ∈ u_ws RX1 TX1 4, w ∈ wsX1_changeLows := by decide +kernel
  have lk13 : Cond.fieldLink RX1 13 (TX1 3).1 (TX1 3).2.1 (TX1 3).2.2.1 ∈ wsX1_changeLows := by decide +kernel
  have lk34 : Cond.fieldLink RX1 34 (TX1 2).1 (TX1 2).2.1 (TX1 2).2.2.1 ∈ wsX1_changeLows := by decide +kernel
  have ct50 : Cond.constantLong RX1 50 (-1) ∈ wsX1_changeLows := by decide +kernel
  obtain ⟨hcL, hcK, hww, hwL, hwK, hwl⟩ := id hc
  have loop : ∀ (n : Nat) (i : Nat) (ch : Int32), 1025 - i < n → (f / 64 ≤ i ∧ i ≤ t / 64 + 1 ∧ Fl ch (S.rj w) (rgW h f t (S.rj w) i)) → G F 14 (CS S c w (S.fi c 0) (S.fi c 1) (nI (tot (rgW h f t (S.rj w) i))) (rgW h f t (S.rj w) i)) 0 0 (QI F (fun r T => T = (CS S c w (S.fi c 0) (S.fi c 1) (nI (tot (rg h f t (S.rj w)))) (rg h f t (S.rj w))) ∧ Fl r (S.rj w) (rg h f t (S.rj w))) 0 0) 19 [(0, .ref c), (1, .int (nI f)), (2, .int (nI t)), (3, .int h), (4, .int ch), (5, .int (nI (f / 64))), (6, .int (nI (t / 64))), (7, .int (nI i))] [] := by
    intro n
    induction n with
    | zero => intros; omega
    | succ n ih =>
      intro i ch hn ⟨hfi, hi, hch⟩
      refine g_iload Z dX1_changeLows_19 rfl ?_
      refine g_iload Z dX1_changeLows_21 rfl ?_
      refine g_icmp_gt Z 160 dX1_changeLows_23 (by decide) (fun h23 => ?_) (fun h23 => ?_)
      · have he : i = t / 64 + 1 := by have := lt_t (by omega) (by omega) h23; omega
        subst he
        refine g_iload Z dX1_changeLows_160 rfl ?_
        exact g_zret Z dX1_changeLows_162 (nar01 hch.v) (by omega) (by omega) (⟨rfl, hch⟩)
      · have hle : i ≤ t / 64 := gt_f (by omega) (by omega) h23
        have hlt : i < 1024 := by omega
        have hcl : (nI i).toNatClampNeg = i := nI_clamp (by omega)
        have hat : rgW h f t (S.rj w) i i = S.rj w i := rg_at _ _ _ _ _
        have j105 : ∀ v8 : Int64, G F 14 (CS S c w (S.fi c 0) (S.fi c 1) (nI (tot (rgW h f t (S.rj w) i))) (rgW h f t (S.rj w) i)) 0 0 (QI F (fun r T => T = (CS S c w (S.fi c 0) (S.fi c 1) (nI (tot (rg h f t (S.rj w)))) (rg h f t (S.rj w))) ∧ Fl r (S.rj w) (rg h f t (S.rj w))) 0 0) 105 [(0, .ref c), (1, .int (nI f)), (2, .int (nI t)), (3, .int h), (4, .int ch), (5, .int (nI (f / 64))), (6, .int (nI (t / 64))), (7, .int (nI i)), (8, .long v8), (10, .long (S.rj w i))] [.long (apH h (S.rj w i) (mk f t i))] := by
          intro v8
          have hR : vp_updL (rgW h f t (S.rj w) i) i (apH h (S.rj w i) (mk f t i)) = rgW h f t (S.rj w) (i + 1) := rg_s _ _ _ _ _ hfi
          refine g_lstore Z dX1_changeLows_105 (by decide) ?_
          refine g_aload_n Z dX1_changeLows_107 rfl ?_
          refine g_getr Z 1 3 rfl (by decide) in1 lk13 dX1_changeLows_108 (by assumption) (by assumption) (by assumption) ?_
          refine g_iload Z dX1_changeLows_111 rfl ?_
          refine g_lload Z dX1_changeLows_113 rfl ?_
          refine g_last Z dX1_changeLows_115 (by assumption) (by assumption) (by exact vin_of hwl (by omega) (by decide)) ?_
          rw [CS_gR, hcl, hR, CS_R]
          refine g_aload_n Z dX1_changeLows_116 rfl ?_
          refine g_dup Z dX1_changeLows_117 rfl ?_
          refine g_geti Z 1 2 rfl (by decide) in1 lk34 dX1_changeLows_118 (by assumption) (by assumption) ?_
          rw [CS_g2]
          refine g_lload Z dX1_changeLows_121 rfl ?_
          refine g_csI Z (c_J13_bitCount_95d88 F.l F.D F.cy F.nw _ _) 1 gX1_changeLows_J13_bitCount_95d88 rfl (by decide +kernel) (by rw [hRf, hRl]; decide) rfl rfl (Nat.le_of_ble_eq_true rfl) dX1_changeLows_123 (by rw [hRc, hRs]; omega) (fun r T hp => ?_)
          obtain ⟨rfl, rfl⟩ := hp
          refine g_lload Z dX1_changeLows_126 rfl ?_
          refine g_csI Z (c_J13_bitCount_95d88 F.l F.D F.cy F.nw _ _) 1 gX1_changeLows_J13_bitCount_95d88 rfl (by decide +kernel) (by rw [hRf, hRl]; decide) rfl rfl (Nat.le_of_ble_eq_true rfl) dX1_changeLows_128 (by rw [hRc, hRs]; omega) (fun r T hp => ?_)
          obtain ⟨rfl, rfl⟩ := hp
          refine g_isub Z dX1_changeLows_131 ?_
          refine g_iadd Z dX1_changeLows_132 ?_
          rw [show nI (tot (rgW h f t (S.rj w) i)) + (bcF (apH h (S.rj w i) (mk f t i)) - bcF (S.rj w i)) = nI (tot (rgW h f t (S.rj w) (i + 1))) by rw [← hR]; have := tot_tel (rgW h f t (S.rj w) i) hlt (apH h (S.rj w i) (mk f t i)); rw [hat] at this; exact this]
          refine g_puti Z 1 2 rfl (by decide) tyX1 tyX1_ok nmX1 rfl in1 lk34 dX1_changeLows_133 rfl rfl (by assumption) (by assumption) ?_
          rw [CS_v]
          refine g_iload Z dX1_changeLows_136 rfl ?_
          refine g_lload Z dX1_changeLows_138 rfl ?_
          refine g_lload Z dX1_changeLows_140 rfl ?_
          refine g_lcmp Z dX1_changeLows_142 ?_
          refine g_if_eq Z 150 dX1_changeLows_143 (by decide) (fun h143 => ?_) (fun h143 => ?_)
          · have hq := Fl.s (q := 0) (x := apH h (S.rj w i) (mk f t i)) hlt hat hch (Or.inl ⟨rfl, by rw [hat]; exact lc_eq.mp h143⟩)
            rw [hR] at hq
            refine g_iconst (v := 0) Z dX1_changeLows_150 (by decide) ?_
            refine g_ior Z dX1_changeLows_151 ?_
            refine g_istore Z dX1_changeLows_152 (by decide) ?_
            refine g_iinc (c := 1) Z dX1_changeLows_154 rfl (by decide) (by decide) ?_
            rw [nI_1]
            refine g_goto Z 19 dX1_changeLows_157 (by decide) ?_
            exact g_lv (by (repeat (first | exact trivial | refine And.intro rfl ?_)); done) (ih (i + 1) _ (by omega) ⟨by omega, by omega, hq⟩)
          · have hq := Fl.s (q := 1) (x := apH h (S.rj w i) (mk f t i)) hlt hat hch (Or.inr ⟨rfl, by rw [hat]; exact fun e => h143 (lc_eq.mpr e)⟩)
            rw [hR] at hq
            refine g_iconst (v := 1) Z dX1_changeLows_146 (by decide) ?_
            refine g_goto Z 151 dX1_changeLows_147 (by decide) ?_
            refine g_ior Z dX1_changeLows_151 ?_
            refine g_istore Z dX1_changeLows_152 (by decide) ?_
            refine g_iinc (c := 1) Z dX1_changeLows_154 rfl (by decide) (by decide) ?_
            rw [nI_1]
            refine g_goto Z 19 dX1_changeLows_157 (by decide) ?_
            exact g_lv (by (repeat (first | exact trivial | refine And.intro rfl ?_)); done) (ih (i + 1) _ (by omega) ⟨by omega, by omega, hq⟩)
        have j62 : G F 14 (CS S c w (S.fi c 0) (S.fi c 1) (nI (tot (rgW h f t (S.rj w) i))) (rgW h f t (S.rj w) i)) 0 0 (QI F (fun r T => T = (CS S c w (S.fi c 0) (S.fi c 1) (nI (tot (rg h f t (S.rj w)))) (rg h f t (S.rj w))) ∧ Fl r (S.rj w) (rg h f t (S.rj w))) 0 0) 62 [(0, .ref c), (1, .int (nI f)), (2, .int (nI t)), (3, .int h), (4, .int ch), (5, .int (nI (f / 64))), (6, .int (nI (t / 64))), (7, .int (nI i)), (8, .long (mk f t i))] [] := by
          refine g_aload_n Z dX1_changeLows_62 rfl ?_
          refine g_getr Z 1 3 rfl (by decide) in1 lk13 dX1_changeLows_63 (by assumption) (by assumption) (by assumption) ?_
          refine g_iload Z dX1_changeLows_66 rfl ?_
          refine g_lald Z dX1_changeLows_68 (by assumption) (by assumption) (by exact vin_of hwl (by omega) (by decide)) ?_
          rw [CS_gR, hcl, hat]
          refine g_lstore Z dX1_changeLows_69 (by decide) ?_
          refine g_iload_n Z dX1_changeLows_71 rfl ?_
          refine g_if_ne Z 83 dX1_changeLows_72 (by decide) (fun h72 => ?_) (fun h72 => ?_)
          · have ea : apH h (S.rj w i) (mk f t i) = S.rj w i &&& (mk f t i ^^^ -1) ∨ apH h (S.rj w i) (mk f t i) = S.rj w i ^^^ mk f t i := by
              unfold apH; rw [if_neg h72]
              by_cases h1 : h = 1
              · rw [if_pos h1]; exact Or.inl rfl
              · rw [if_neg h1]; exact Or.inr rfl
            clear ea
            refine g_iload_n Z dX1_changeLows_83 rfl ?_
            refine g_iconst (v := 1) Z dX1_changeLows_84 (by decide) ?_
            refine g_icmp_ne Z 100 dX1_changeLows_85 (by decide) (fun h85 => ?_) (fun h85 => ?_)
            · have ea : apH h (S.rj w i) (mk f t i) = S.rj w i ^^^ mk f t i := (if_neg h72).trans (if_neg h85)
              refine g_lload Z dX1_changeLows_100 rfl ?_
              refine g_lload Z dX1_changeLows_102 rfl ?_
              refine g_lxor Z dX1_changeLows_104 ?_
              rw [← ea]; exact g_lv (by (repeat (first | exact trivial | refine And.intro rfl ?_)); done) (j105 _)
            · have ea : apH h (S.rj w i) (mk f t i) = S.rj w i &&& (mk f t i ^^^ -1) := (if_neg h72).trans (if_pos h85)
              refine g_lload Z dX1_changeLows_88 rfl ?_
              refine g_lload Z dX1_changeLows_90 rfl ?_
              refine g_ldc2 (v := -1) Z dX1_changeLows_92 ct50 ?_
              refine g_lxor Z dX1_changeLows_95 ?_
              refine g_land Z dX1_changeLows_96 ?_
              refine g_goto Z 105 dX1_changeLows_97 (by decide) ?_
              rw [← ea]; exact g_lv (by (repeat (first | exact trivial | refine And.intro rfl ?_)); done) (j105 _)
          · have ea : apH h (S.rj w i) (mk f t i) = S.rj w i ||| mk f t i := if_pos h72
            refine g_lload Z dX1_changeLows_75 rfl ?_
            refine g_lload Z dX1_changeLows_77 rfl ?_
            refine g_lor Z dX1_changeLows_79 ?_
            refine g_goto Z 105 dX1_changeLows_80 (by decide) ?_
            rw [← ea]; exact g_lv (by (repeat (first | exact trivial | refine And.intro rfl ?_)); done) (j105 _)
        have j44 : G F 14 (CS S c w (S.fi c 0) (S.fi c 1) (nI (tot (rgW h f t (S.rj w) i))) (rgW h f t (S.rj w) i)) 0 0 (QI F (fun r T => T = (CS S c w (S.fi c 0) (S.fi c 1) (nI (tot (rg h f t (S.rj w)))) (rg h f t (S.rj w))) ∧ Fl r (S.rj w) (rg h f t (S.rj w))) 0 0) 44 [(0, .ref c), (1, .int (nI f)), (2, .int (nI t)), (3, .int h), (4, .int ch), (5, .int (nI (f / 64))), (6, .int (nI (t / 64))), (7, .int (nI i))] [.long (mkA f i)] := by
          refine g_lstore Z dX1_changeLows_44 (by decide) ?_
          refine g_iload Z dX1_changeLows_46 rfl ?_
          refine g_iload Z dX1_changeLows_48 rfl ?_
          refine g_icmp_ne Z 62 dX1_changeLows_50 (by decide) (fun h50 => ?_) (fun h50 => ?_)
          · have em : mk f t i = mkA f i := if_neg (fun e => h50 (by rw [e]))
            rw [← em]; exact g_lv (by (repeat (first | exact trivial | refine And.intro rfl ?_)); done) j62
          · have em : mk f t i = mkA f i &&& upT t := if_pos ((nI_eq (by omega) (by omega)).mp h50)
            refine g_lload Z dX1_changeLows_53 rfl ?_
            refine g_iload_n Z dX1_changeLows_55 rfl ?_
            refine g_csL Z (f_X1_upTo F.l F.D F.cy F.nw _ t ht) 1 gX1_changeLows_X1_upTo rfl (by decide +kernel) (by rw [hRf, hRl]; decide) rfl rfl (Nat.le_of_ble_eq_true rfl) dX1_changeLows_56 (by rw [hRc, hRs]; omega) (fun r T hp => ?_)
            obtain ⟨rfl, rfl⟩ := hp
            refine g_land Z dX1_changeLows_59 ?_
            refine g_lstore Z dX1_changeLows_60 (by decide) ?_
            rw [← em]; exact g_lv (by (repeat (first | exact trivial | refine And.intro rfl ?_)); done) j62
        refine g_iload Z dX1_changeLows_26 rfl ?_
        refine g_iload Z dX1_changeLows_28 rfl ?_
        refine g_icmp_ne Z 41 dX1_changeLows_30 (by decide) (fun h30 => ?_) (fun h30 => ?_)
        · have em : mkA f i = -1 := if_neg (fun e => h30 (by rw [e]))
          refine g_ldc2 (v := -1) Z dX1_changeLows_41 ct50 ?_
          rw [← em]; exact g_lv (by (repeat (first | exact trivial | refine And.intro rfl ?_)); done) j44
        · have em : mkA f i = (-1 : Int64) <<< ((nI f).toInt64 &&& 63) := if_pos ((nI_eq (by omega) (by omega)).mp h30)
          refine g_ldc2 (v := -1) Z dX1_changeLows_33 ct50 ?_
          refine g_iload_n Z dX1_changeLows_36 rfl ?_
          refine g_lshl Z dX1_changeLows_37 ?_
          refine g_goto Z 44 dX1_changeLows_38 (by decide) ?_
          rw [← em]; exact g_lv (by (repeat (first | exact trivial | refine And.intro rfl ?_)); done) j44
  refine g_iconst (v := 0) Z dX1_changeLows_0 (by decide) ?_
  refine g_istore Z dX1_changeLows_1 (by decide) ?_
  refine g_iload_n Z dX1_changeLows_3 rfl ?_
  refine g_bipush (v := 6) Z dX1_changeLows_4 (by decide) ?_
  refine g_ishr Z dX1_changeLows_6 ?_
  rw [shr6 (by omega)]
  refine g_istore Z dX1_changeLows_7 (by decide) ?_
  refine g_iload_n Z dX1_changeLows_9 rfl ?_
  refine g_bipush (v := 6) Z dX1_changeLows_10 (by decide) ?_
  refine g_ishr Z dX1_changeLows_12 ?_
  rw [shr6 (by omega)]
  refine g_istore Z dX1_changeLows_13 (by decide) ?_
  refine g_iload Z dX1_changeLows_15 rfl ?_
  refine g_istore Z dX1_changeLows_17 (by decide) ?_
  have h0 := loop 1026 (f / 64) 0 (by omega) ⟨by omega, by omega, Or.inl ⟨rfl, fun j hj => by rw [rg_0]⟩⟩
  rw [rg_0, ← hv, ← CS_id] at h0
  exact g_lv (by (repeat (first | exact trivial | refine And.intro rfl ?_)); done) h0
