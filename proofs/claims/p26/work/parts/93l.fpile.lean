/-- the pile's own cells -/
def PlQ (S : PS) (pl la d : Nat) (so O : Nat → Nat) : Prop := pl ∈ S.L ∧ S.K pl = 3 ∧ S.fr pl 0 = some la ∧ la ∈ S.L ∧ S.K la = 11 ∧ S.ln la = 8 ∧ (∀ i, i < 8 → S.rr la i = some (so (9 + i))) ∧ S.fi pl 1 = nI d ∧ O pl = 17 ∧ O la = 17
def SaQ (S : PS) (sa : Nat) (so O : Nat → Nat) : Prop := sa ∈ S.L ∧ S.K sa = 11 ∧ S.ln sa = 8 ∧ (∀ i, i < 8 → S.rr sa i = some (so i)) ∧ O sa = 17
/-- only sets, what is theirs, and one cell more may have changed -/
def GP (S T : PS) (so O : Nat → Nat) (p : Nat) : Prop := Kp (fun a => O a < 17 ∨ (∃ i, i < 17 ∧ a = so i) ∨ a = p) S T
theorem GE.gp {S T : PS} {so O : Nat → Nat} {p : Nat} (h : GE S T so O) : GP S T so O p := h.mono (fun a _ q => q.imp id Or.inl)
theorem GP.rf {S : PS} {so O : Nat → Nat} {p : Nat} : GP S S so O p := Kp.rf
theorem GP.tr {S T U : PS} {so O O2 : Nat → Nat} {p : Nat} (hO : ∀ a ∈ S.L, O2 a = O a) (h : GP S T so O p) (k : GP T U so O2 p) : GP S U so O p :=
  ⟨fun a ha => k.1 a (h.1 a ha), fun a ha hn => (h.2 a ha hn).tr (k.2 a (h.1 a ha) (fun q => hn (q.imp (fun e => by rw [← hO a ha]; exact e) id)))⟩
theorem GP.keep {S T : PS} {so O : Nat → Nat} {a p : Nat} (h : GP S T so O p) (ha : a ∈ S.L) (hO : O a = 17) (hn : ∀ i, i < 17 → a ≠ so i) (hp : a ≠ p) : a ∈ T.L ∧ Ag S T a := ⟨h.1 a ha, h.2 a ha (fun q => by
  rcases q with e | ⟨i, hi, e⟩ | e
  · omega
  · exact hn i hi e
  · exact hp e)⟩
theorem SaQ.keep {S T : PS} {nw sa p : Nat} {so O O2 : Nat → Nat} {V : Nat → Sv} (hg : GV S nw so O V) (hO : ∀ a ∈ S.L, O2 a = O a) (h : GP S T so O p) (hp : sa ≠ p) (k : SaQ S sa so O) : SaQ T sa so O2 := by
  obtain ⟨k1, k2, k3, k4, k5⟩ := k
  obtain ⟨a1, a2⟩ := h.keep k1 k5 (hg.kne (by rw [k2]; decide)) hp
  exact ⟨a1, a2.1.trans k2, a2.2.2.2.1.trans k3, fun i hi => by rw [a2.2.2.2.2.2.2]; exact k4 i hi, (hO sa k1).trans k5⟩
theorem PlQ.keep {S T : PS} {nw pl la d : Nat} {so O O2 : Nat → Nat} {V : Nat → Sv} (hg : GV S nw so O V) (hO : ∀ a ∈ S.L, O2 a = O a) (h : GE S T so O) (k : PlQ S pl la d so O) : PlQ T pl la d so O2 := by
  obtain ⟨k1, k2, k3, k4, k5, k6, k7, k8, k9, k10⟩ := k
  obtain ⟨a1, a2⟩ := h.keep k1 k9 (hg.kne (by rw [k2]; decide))
  obtain ⟨b1, b2⟩ := h.keep k4 k10 (hg.kne (by rw [k5]; decide))
  exact ⟨a1, a2.1.trans k2, by rw [a2.2.2.1]; exact k3, b1, b2.1.trans k5, b2.2.2.2.1.trans k6, fun i hi => by rw [b2.2.2.2.2.2.2]; exact k7 i hi, by rw [a2.2.1]; exact k8, (hO pl k1).trans k9, (hO la k4).trans k10⟩
/-- a cell that is none of the sets' is written -/
theorem GV.frame {S T : PS} {nw : Nat} {so O : Nat → Nat} {V : Nat → Sv} {p : Nat} (hn : nw ∉ T.L) (hk : Kp (fun a => a = p) S T) (hp : O p = 17) (hpk : S.K p ≠ 2) (h : GV S nw so O V) : GV T nw so O V := by
  have hne := h.kne hpk
  obtain ⟨be, it, C, g1, g2, g3⟩ := h
  refine ⟨be, it, C, fun i hi => ?_, g2, g3⟩
  obtain ⟨k1, k2, k3⟩ := g1 i hi
  exact ⟨SV.keep hk.1 (fun _ _ => rfl) (hk.2 _ k1.1 (fun e => hne i hi e.symm)) (fun a ha e => hk.2 a ha (fun q => by rw [q, hp] at e; omega)) hn k1, k2, k3⟩
theorem PlQ.dep {S : PS} {nw pl la d : Nat} {so O : Nat → Nat} {V : Nat → Sv} (hn : nw ∉ S.L) (hg : GV S nw so O V) (k : PlQ S pl la d so O) (d2 : Nat) : PlQ (S.setI pl 1 (nI d2)) pl la d2 so O ∧ GV (S.setI pl 1 (nI d2)) nw so O V ∧ GP S (S.setI pl 1 (nI d2)) so O pl := by
  obtain ⟨k1, k2, k3, k4, k5, k6, k7, k8, k9, k10⟩ := k
  have hk : Kp (fun a => a = pl) S (S.setI pl 1 (nI d2)) := ⟨fun _ h => h, fun a _ hne => ⟨rfl, va_up_ne _ _ hne, rfl, rfl, rfl, rfl, rfl⟩⟩
  exact ⟨⟨k1, k2, k3, k4, k5, k6, k7, up2_self _ _ _ _, k9, k10⟩, hg.frame (p := pl) hn hk k9 (by rw [k2]; decide), hk.mono (fun a _ h => Or.inr (Or.inr h))⟩
theorem mg_le {x : Int32} {A B W : Sv} : ∀ n i j V, mgR x A B n i j V = some W → W.1 ≤ 6
  | 0, i, j, V, h => by
    unfold mgR at h
    by_cases e : 6 < V.1
    · rw [if_pos e] at h; cases h
    · rw [if_neg e] at h; cases h; omega
  | n + 1, i, j, V, h => by
    unfold mgR at h
    by_cases e : 6 < V.1
    · rw [if_pos e] at h; cases h
    · rw [if_neg e] at h
      by_cases e2 : kyA A i = 65536 ∧ kyA B j = 65536
      · rw [if_pos e2] at h; cases h; omega
      · rw [if_neg e2] at h
        by_cases e3 : kyA A i < kyA B j
        · rw [if_pos e3] at h; exact mg_le n _ _ _ h
        · rw [if_neg e3] at h
          by_cases e4 : kyA B j < kyA A i
          · rw [if_pos e4] at h; exact mg_le n _ _ _ h
          · rw [if_neg e4] at h; exact mg_le n _ _ _ h

set_option maxRecDepth 100000 in
set_option maxHeartbeats 2000000 in
/-- the two upper sets become one -/
theorem f_X3_joinUpperTwo (l : Launch) (D : va_G) (cy : Nat → ClassId) (nw : Nat) (S : PS) (so O : Nat → Nat) (V : Nat → Sv) (hg : GV S nw so O V) (pl la d : Nat) (hp0 : PlQ S pl la d so O) (hd2 : 2 ≤ d) (hd8 : d ≤ 8) (hA6 : (V (9 + (d - 2))).1 ≤ 6) (hB6 : (V (9 + (d - 1))).1 ≤ 6) (x : Int32) (hx : x = 0 ∨ x = 1 ∨ x = 2 ∨ x = 3) : kI l yX3_joinUpperTwo wsX3_joinUpperTwo 4 109 D cy nw [.ref pl, .int x, .ref (so 8)] S (fun r T => ∃ O2 V2, (∀ a ∈ S.L, O2 a = O a) ∧ GV T nw so O2 V2 ∧ (∀ i, i < 17 → i ≠ 8 → i ≠ 9 + (d - 2) → V2 i = V i) ∧ GP S T so O pl ∧ ((r = 0 ∧ mgR x (V (9 + (d - 2))) (V (9 + (d - 1))) 13 0 0 eS = none ∧ PlQ T pl la d so O2) ∨ (r = 1 ∧ mgR x (V (9 + (d - 2))) (V (9 + (d - 1))) 13 0 0 eS = some (V2 (9 + (d - 2))) ∧ PlQ T pl la (d - 1) so O2))) 12 12288 := by
  refine enterI (cc := cX3_joinUpperTwo) (nL := 3) (ret := (some .boolean)) (by decide +kernel) rfl (Nat.le_of_ble_eq_true rfl) ?_
  intro F Z hl hR hD hcy hnw hnm
  subst hl hD hcy hnw
  have hRf : F.R.frames = 4 := by rw [hR]
  have hRc : F.R.cells = 12 := by rw [hR]
  have hRs : F.R.slots = 12288 := by rw [hR]
  have hRl : F.R.locals = 109 := by rw [hR]
  have in3 : ∀ w ∈ u_ws RX3 TX3 2, w ∈ wsX3_joinUpperTwo := by decide +kernel
  have lk11 : Cond.fieldLink RX3 11 (TX3 0).1 (TX3 0).2.1 (TX3 0).2.2.1 ∈ wsX3_joinUpperTwo := by decide +kernel
  have lk26 : Cond.fieldLink RX3 26 (TX3 1).1 (TX3 1).2.1 (TX3 1).2.2.1 ∈ wsX3_joinUpperTwo := by decide +kernel
  obtain ⟨hpL, hpK, hpl, hlL, hlK, hll, hls, hpd, hpo, hlo⟩ := id hp0
  obtain ⟨be, it, C, hgx⟩ := id hg
  have hsp := (hgx.1 8 (by omega)).1
  have hsL := hsp.1
  have hsK := hsp.2.1
  have hva := (hgx.1 (9 + (d - 2)) (by omega)).1
  have hvb := (hgx.1 (9 + (d - 1)) (by omega)).1
  obtain ⟨n1, n2, n3, n4⟩ := hgx.ne (i := 8) (j := 9 + (d - 2)) (by omega) (by omega) (by omega)
  obtain ⟨l1, l2, l3, l4⟩ := hgx.ne (i := 8) (j := 9 + (d - 1)) (by omega) (by omega) (by omega)
  have ha := hls (d - 2) (by omega)
  have hb := hls (d - 1) (by omega)
  have hc2 : (nI (d - 2)).toNatClampNeg = d - 2 := nI_clamp (by omega)
  have hc1 : (nI (d - 1)).toNatClampNeg = d - 1 := nI_clamp (by omega)
  refine g_aload_n Z dX3_joinUpperTwo_0 rfl ?_
  refine g_geti Z 3 1 rfl (by decide) in3 lk26 dX3_joinUpperTwo_1 (by assumption) (by assumption) ?_
  rw [hpd]
  refine g_iconst (v := 2) Z dX3_joinUpperTwo_4 (by decide) ?_
  refine g_icmp_lt Z 38 dX3_joinUpperTwo_5 (by decide) (fun h5 => absurd h5 (nI_nlt (a := d) (b := 2) hd2 (by omega))) (fun h5 => ?_)
  refine g_aload_n Z dX3_joinUpperTwo_8 rfl ?_
  refine g_iload_n Z dX3_joinUpperTwo_9 rfl ?_
  refine g_aload_n Z dX3_joinUpperTwo_10 rfl ?_
  refine g_getr Z 3 0 rfl (by decide) in3 lk11 dX3_joinUpperTwo_11 (by assumption) (by assumption) (by assumption) ?_
  refine g_aload_n Z dX3_joinUpperTwo_14 rfl ?_
  refine g_geti Z 3 1 rfl (by decide) in3 lk26 dX3_joinUpperTwo_15 (by assumption) (by assumption) ?_
  rw [hpd]
  refine g_iconst (v := 2) Z dX3_joinUpperTwo_18 (by decide) ?_
  refine g_isub Z dX3_joinUpperTwo_19 ?_
  rw [show nI d - 2 = nI (d - 2) from pk_sub (a := d) (b := 2) (by omega)]
  refine g_aald11 Z dX3_joinUpperTwo_20 (by assumption) (by assumption) (by exact vin_of hll (by omega) (by decide)) (by rw [hc2]; exact ha) ?_
  refine g_aload_n Z dX3_joinUpperTwo_21 rfl ?_
  refine g_getr Z 3 0 rfl (by decide) in3 lk11 dX3_joinUpperTwo_22 (by assumption) (by assumption) (by assumption) ?_
  refine g_aload_n Z dX3_joinUpperTwo_25 rfl ?_
  refine g_geti Z 3 1 rfl (by decide) in3 lk26 dX3_joinUpperTwo_26 (by assumption) (by assumption) ?_
  rw [hpd]
  refine g_iconst (v := 1) Z dX3_joinUpperTwo_29 (by decide) ?_
  refine g_isub Z dX3_joinUpperTwo_30 ?_
  rw [show nI d - 1 = nI (d - 1) from pk_sub (a := d) (b := 1) (by omega)]
  refine g_aald11 Z dX3_joinUpperTwo_31 (by assumption) (by assumption) (by exact vin_of hll (by omega) (by decide)) (by rw [hc1]; exact hb) ?_
  refine g_cvI Z (f_X2_becomeJoin F.l F.D F.cy F.nw S O (be 8) (so 8) (it 8) (C 8) (V 8) hsp (so (9 + (d - 2))) (so (9 + (d - 1))) (be (9 + (d - 2))) (be (9 + (d - 1))) (it (9 + (d - 2))) (it (9 + (d - 1))) (C (9 + (d - 2))) (C (9 + (d - 1))) (V (9 + (d - 2))) (V (9 + (d - 1))) hva hvb hA6 hB6 n1 n2 n3 n4 l1 l2 l3 l4 x hx) 3 gX3_joinUpperTwo_X2_becomeJoin rfl (by decide +kernel) (by rw [hRf, hRl]; decide) (by assumption) (κ := 2) (by assumption) rfl (by decide) rfl rfl (Nat.le_of_ble_eq_true rfl) dX3_joinUpperTwo_32 (by rw [hRc, hRs]; omega) (fun r T1 hp => ?_)
  obtain ⟨W, haf, hr⟩ := hp
  refine g_nw Z (fun hnT => ?_)
  obtain ⟨O2, hO2, hg1, hge⟩ := hgx.after (i := 8) (by omega) hnT haf
  have hp1 := hp0.keep hg hO2 hge
  refine g_if_ne Z 40 dX3_joinUpperTwo_35 (by decide) (fun h35 => ?_) (fun h35 => ?_)
  · have hms : mgR x (V (9 + (d - 2))) (V (9 + (d - 1))) 13 0 0 eS = some W := by
      rcases hr with ⟨-, e⟩ | ⟨e, -⟩
      · exact e
      · exact absurd e h35
    obtain ⟨hpL1, hpK1, hpl1, hlL1, hlK1, hll1, hls1, hpd1, -, -⟩ := id hp1
    obtain ⟨hp2, hg2, hgp2⟩ := hp1.dep hnT hg1 (d - 1)
    obtain ⟨hpL2, hpK2, hpl2, hlL2, hlK2, hll2, hls2, hpd2, -, -⟩ := id hp2
    obtain ⟨be2, it2, C2, hgx2⟩ := id hg2
    have hsa2 := (hgx2.1 (9 + (d - 2)) (by omega)).1
    have hss2 := (hgx2.1 8 (by omega)).1
    have hne : so (9 + (d - 2)) ≠ so 8 := fun e => by have := hgx2.2.1 _ _ (by omega) (by omega) e; omega
    have hnT2 : F.nw ∉ (T1.setI pl 1 (nI (d - 1))).L := hnT
    refine g_aload_n Z dX3_joinUpperTwo_40 rfl ?_
    refine g_dup Z dX3_joinUpperTwo_41 rfl ?_
    refine g_geti Z 3 1 rfl (by decide) in3 lk26 dX3_joinUpperTwo_42 (by assumption) (by assumption) ?_
    rw [hpd1]
    refine g_iconst (v := 1) Z dX3_joinUpperTwo_45 (by decide) ?_
    refine g_isub Z dX3_joinUpperTwo_46 ?_
    rw [show nI d - 1 = nI (d - 1) from pk_sub (a := d) (b := 1) (by omega)]
    refine g_puti Z 3 1 rfl (by decide) tyX3 tyX3_ok nmX3 rfl in3 lk26 dX3_joinUpperTwo_47 rfl rfl (by assumption) (by assumption) ?_
    refine g_aload_n Z dX3_joinUpperTwo_50 rfl ?_
    refine g_getr Z 3 0 rfl (by decide) in3 lk11 dX3_joinUpperTwo_51 (by assumption) (by assumption) (by assumption) ?_
    refine g_aload_n Z dX3_joinUpperTwo_54 rfl ?_
    refine g_geti Z 3 1 rfl (by decide) in3 lk26 dX3_joinUpperTwo_55 (by assumption) (by assumption) ?_
    rw [hpd2]
    refine g_iconst (v := 1) Z dX3_joinUpperTwo_58 (by decide) ?_
    refine g_isub Z dX3_joinUpperTwo_59 ?_
    rw [show nI (d - 1) - 1 = nI (d - 2) from (pk_sub (a := d - 1) (b := 1) (by omega)).trans (congrArg nI (by omega))]
    refine g_aald11 Z dX3_joinUpperTwo_60 (by assumption) (by assumption) (by exact vin_of hll2 (by omega) (by decide)) (by rw [hc2]; exact hls2 (d - 2) (by omega)) ?_
    refine g_aload_n Z dX3_joinUpperTwo_61 rfl ?_
    refine g_cvV Z (f_X2_exchange F.l F.D F.cy F.nw _ O2 (so (9 + (d - 2))) (so 8) _ _ _ _ _ _ _ _ hne hsa2 hss2) 1 gX3_joinUpperTwo_X2_exchange rfl (by decide +kernel) (by rw [hRf, hRl]; decide) (by exact hsa2.1) (κ := 2) (by exact hsa2.2.1) rfl (by decide) rfl rfl (Nat.le_of_ble_eq_true rfl) dX3_joinUpperTwo_62 (by rw [hRc, hRs]; omega) (fun T3 hp => ?_)
    obtain ⟨x1, x2, x3⟩ := hp
    refine g_nw Z (fun hnT3 => ?_)
    obtain ⟨hg3, hge3⟩ := hgx2.xch (i := 9 + (d - 2)) (j := 8) (by omega) (by omega) (by omega) hnT3 x1 x2 x3
    have hp3 := hp2.keep hg2 (fun _ _ => rfl) hge3
    refine g_iconst (v := 1) Z dX3_joinUpperTwo_65 (by decide) ?_
    exact g_zret Z dX3_joinUpperTwo_66 (by rfl) (by omega) (by omega) (⟨O2, _, hO2, hg3, fun i hi h8 h9 => (swp_o _ h9 h8).trans (va_up_ne _ _ h8), GP.tr hO2 hge.gp (GP.tr (fun _ _ => rfl) hgp2 hge3.gp), Or.inr ⟨rfl, hms.trans (congrArg some (by rw [swp_i _ (show 9 + (d - 2) ≠ 8 by omega), va_up_self])), hp3⟩⟩)
  · have hmn : mgR x (V (9 + (d - 2))) (V (9 + (d - 1))) 13 0 0 eS = none := by
      rcases hr with ⟨e, -⟩ | ⟨-, e⟩
      · rw [e] at h35; exact absurd h35 (by decide)
      · exact e
    refine g_iconst (v := 0) Z dX3_joinUpperTwo_38 (by decide) ?_
    exact g_zret Z dX3_joinUpperTwo_39 (by rfl) (by omega) (by omega) (⟨O2, _, hO2, hg1, fun i hi h8 _ => va_up_ne _ _ h8, hge.gp, Or.inl ⟨rfl, hmn, hp1⟩⟩)

/-- a formula over sets: what the pile holds in the end -/
noncomputable def evF (V : Nat → Sv) (y : Int64) : Nat → Nat → Nat → (Nat → Sv) → Option (Nat → Sv)
  | 0, _, _, L => some L
  | n + 1, k, d, L => if 16 ≤ sg y k ∧ sg y k ≤ 19 then (mgR (nI (sg y k - 16)) (L (d - 2)) (L (d - 1)) 13 0 0 eS).bind (fun W => evF V y n (k + 1) (d - 1) (va_up L (d - 2) W)) else if sg y k = 20 then evF V y n (k + 1) (d + 1) (va_up L d aV) else if sg y k < 8 then evF V y n (k + 1) (d + 1) (va_up L d (V (sg y k))) else evF V y n (k + 1) d L
theorem ev_j {V : Nat → Sv} {y : Int64} {n k d : Nat} {L : Nat → Sv} (h : 16 ≤ sg y k ∧ sg y k ≤ 19) : evF V y (n + 1) k d L = (mgR (nI (sg y k - 16)) (L (d - 2)) (L (d - 1)) 13 0 0 eS).bind (fun W => evF V y n (k + 1) (d - 1) (va_up L (d - 2) W)) := if_pos h
theorem ev_a {V : Nat → Sv} {y : Int64} {n k d : Nat} {L : Nat → Sv} (h : sg y k = 20) : evF V y (n + 1) k d L = evF V y n (k + 1) (d + 1) (va_up L d aV) := (if_neg (by omega)).trans (if_pos h)
theorem ev_s {V : Nat → Sv} {y : Int64} {n k d : Nat} {L : Nat → Sv} (h : sg y k < 8) : evF V y (n + 1) k d L = evF V y n (k + 1) (d + 1) (va_up L d (V (sg y k))) := (if_neg (by omega)).trans ((if_neg (by omega)).trans (if_pos h))
theorem ev_n {V : Nat → Sv} {y : Int64} {n k d : Nat} {L : Nat → Sv} (h : sg y k = 255) : evF V y (n + 1) k d L = evF V y n (k + 1) d L := (if_neg (by omega)).trans ((if_neg (by omega)).trans (if_neg (by omega)))
theorem hts_pre {y : Int64} {n v : Nat} (h : hts y n = some v) : ∀ j, j ≤ n → ∃ u, hts y j = some u := by
  intro j hj
  cases e : hts y j with
  | some u => exact ⟨u, rfl⟩
  | none => rw [hts_none e hj] at h; cases h
theorem hts_8 {y : Int64} : ∀ n v, hts y n = some v → v ≤ 8
  | 0, v, h => by cases h; omega
  | n + 1, v, h => by
    obtain ⟨u, hu⟩ := hts_pre h n (by omega)
    have h8 := hts_8 n u hu
    rw [hts_s hu] at h
    unfold stp at h
    by_cases e1 : sg y n < 8 ∨ sg y n = 20
    · rw [if_pos e1] at h
      by_cases e2 : u = 8
      · rw [if_pos e2] at h; cases h
      · rw [if_neg e2] at h; cases h; omega
    · rw [if_neg e1] at h
      by_cases e3 : 16 ≤ sg y n ∧ sg y n ≤ 19 ∧ 2 ≤ u
      · rw [if_pos e3] at h; cases h; omega
      · rw [if_neg e3] at h
        by_cases e4 : sg y n = 255
        · rw [if_pos e4] at h; cases h; exact h8
        · rw [if_neg e4] at h; cases h
/-- how a step goes in a sound formula -/
theorem stp_c {h g v : Nat} (e : stp h g = some v) : ((g < 8 ∨ g = 20) ∧ h ≠ 8 ∧ v = h + 1) ∨ ((16 ≤ g ∧ g ≤ 19) ∧ 2 ≤ h ∧ v = h - 1) ∨ (g = 255 ∧ v = h) := by
  unfold stp at e
  by_cases e1 : g < 8 ∨ g = 20
  · rw [if_pos e1] at e
    by_cases e2 : h = 8
    · rw [if_pos e2] at e; cases e
    · rw [if_neg e2] at e; cases e; exact Or.inl ⟨e1, e2, rfl⟩
  · rw [if_neg e1] at e
    by_cases e3 : 16 ≤ g ∧ g ≤ 19 ∧ 2 ≤ h
    · rw [if_pos e3] at e; cases e; exact Or.inr (Or.inl ⟨⟨e3.1, e3.2.1⟩, e3.2.2, rfl⟩)
    · rw [if_neg e3] at e
      by_cases e4 : g = 255
      · rw [if_pos e4] at e; cases e; exact Or.inr (Or.inr ⟨e4, rfl⟩)
      · rw [if_neg e4] at e; cases e

set_option maxRecDepth 100000 in
set_option maxHeartbeats 2000000 in
/-- a formula is worked out -/
theorem f_X3_evaluate (l : Launch) (D : va_G) (cy : Nat → ClassId) (nw : Nat) (S : PS) (so O : Nat → Nat) (V : Nat → Sv) (hg0 : GV S nw so O V) (pl la d0 : Nat) (hp0 : PlQ S pl la d0 so O) (x : Int64) (k : Nat) (hk : k ≤ 8) (hk1 : hts x k = some 1) (sa : Nat) (hsa0 : SaQ S sa so O) (hsap : sa ≠ pl) (hV6 : ∀ i, i < 8 → (V i).1 ≤ 6) : kI l yX3_evaluate wsX3_evaluate 5 131 D cy nw [.ref pl, .long x, .int (nI k), .ref sa, .ref (so 8)] S (fun r T => ∃ O2 V2 d2, (∀ a ∈ S.L, O2 a = O a) ∧ GV T nw so O2 V2 ∧ (∀ i, i < 8 → V2 i = V i) ∧ GP S T so O pl ∧ PlQ T pl la d2 so O2 ∧ ((r = 0 ∧ evF V x k 0 0 (fun _ => eS) = none) ∨ (r = 1 ∧ ∃ L, evF V x k 0 0 (fun _ => eS) = some L ∧ V2 9 = L 0))) (12 * k) (12288 * k) := by
  refine enterI (cc := cX3_evaluate) (nL := 8) (ret := (some .boolean)) (by decide +kernel) rfl (Nat.le_of_ble_eq_true rfl) ?_
  intro F Z hl hR hD hcy hnw hnm
  subst hl hD hcy hnw
  have hRf : F.R.frames = 5 := by rw [hR]
  have hRc : F.R.cells = (12 * k) := by rw [hR]
  have hRs : F.R.slots = (12288 * k) := by rw [hR]
  have hRl : F.R.locals = 131 := by rw [hR]
  have in3 : ∀ w ∈ u_ws RX3 TX3 2, w ∈ wsX3_evaluate := by decide +kernel
  have lk11 : Cond.fieldLink RX3 11 (TX3 0).1 (TX3 0).2.1 (TX3 0).2.2.1 ∈ wsX3_evaluate := by decide +kernel
  have lk26 : Cond.fieldLink RX3 26 (TX3 1).1 (TX3 1).2.1 (TX3 1).2.2.1 ∈ wsX3_evaluate := by decide +kernel
  have loop : ∀ (m i d : Nat) (T : PS) (O2 : Nat → Nat) (V2 St : Nat → Sv), 9 - i < m → ((∀ a ∈ S.L, O2 a = O a) ∧ GV T F.nw so O2 V2 ∧ (∀ i, i < 8 → V2 i = V i) ∧ GP S T so O pl ∧ PlQ T pl la d so O2 ∧ i ≤ k ∧ hts x i = some d ∧ (∀ j, j < d → V2 (9 + j) = St j ∧ (St j).1 ≤ 6) ∧ evF V x (k - i) i d St = evF V x k 0 0 (fun _ => eS)) → G F 8 T (12 * i) (12288 * i) (QI F (fun r T => ∃ O2 V2 d2, (∀ a ∈ S.L, O2 a = O a) ∧ GV T F.nw so O2 V2 ∧ (∀ i, i < 8 → V2 i = V i) ∧ GP S T so O pl ∧ PlQ T pl la d2 so O2 ∧ ((r = 0 ∧ evF V x k 0 0 (fun _ => eS) = none) ∨ (r = 1 ∧ ∃ L, evF V x k 0 0 (fun _ => eS) = some L ∧ V2 9 = L 0))) (12 * k) (12288 * k)) 8 [(0, .ref pl), (1, .long x), (3, .int (nI k)), (4, .ref sa), (5, .ref (so 8)), (6, .int (nI i))] [] := by
    intro m
    induction m with
    | zero => intros; omega
    | succ m ih =>
      intro i d T O2 V2 St hm ⟨hO2, hg, hv8, hgp, hp1, hik, hhi, hst, hev⟩
      refine g_nw Z (fun hnT => ?_)
      have hsq := SaQ.keep hg0 hO2 hgp hsap hsa0
      obtain ⟨hsaL, hsaK, hsal, hsar, hsao⟩ := id hsq
      obtain ⟨hpL, hpK, hpl, hlL, hlK, hll, hls, hpd, hpo, hlo⟩ := id hp1
      obtain ⟨be, it, C, hgx⟩ := id hg
      have hsg := sg_lt x i
      have hd8 := hts_8 _ _ hhi
      have j124 : ∀ (d2 : Nat) (T2 : PS) (O3 : Nat → Nat) (V3 St3 : Nat → Sv), i < k → (∀ a ∈ S.L, O3 a = O a) → GV T2 F.nw so O3 V3 → (∀ i, i < 8 → V3 i = V i) → GP S T2 so O pl → PlQ T2 pl la d2 so O3 → hts x (i + 1) = some d2 → (∀ j, j < d2 → V3 (9 + j) = St3 j ∧ (St3 j).1 ≤ 6) → evF V x (k - (i + 1)) (i + 1) d2 St3 = evF V x k 0 0 (fun _ => eS) → G F 8 T2 (12 * i + 12) (12288 * i + 12288) (QI F (fun r T => ∃ O2 V2 d2, (∀ a ∈ S.L, O2 a = O a) ∧ GV T F.nw so O2 V2 ∧ (∀ i, i < 8 → V2 i = V i) ∧ GP S T so O pl ∧ PlQ T pl la d2 so O2 ∧ ((r = 0 ∧ evF V x k 0 0 (fun _ => eS) = none) ∨ (r = 1 ∧ ∃ L, evF V x k 0 0 (fun _ => eS) = some L ∧ V2 9 = L 0))) (12 * k) (12288 * k)) 124 [(0, .ref pl), (1, .long x), (3, .int (nI k)), (4, .ref sa), (5, .ref (so 8)), (6, .int (nI i))] [] := by
        intro d2 T2 O3 V3 St3 hlt q1 q2 q3 q4 q5 q6 q7 q8
        refine g_iinc (c := 1) Z dX3_evaluate_124 rfl (by decide) (by decide) ?_
        rw [nI_1]
        refine g_goto Z 8 dX3_evaluate_127 (by decide) ?_
        exact g_widen (by omega) (by omega) (g_lv (by (repeat (first | exact trivial | refine And.intro rfl ?_)); done) (ih (i + 1) d2 T2 O3 V3 St3 (by omega) ⟨q1, q2, q3, q4, q5, by omega, q6, q7, q8⟩))
      refine g_iload Z dX3_evaluate_8 rfl ?_
      refine g_iload_n Z dX3_evaluate_10 rfl ?_
      refine g_icmp_ge Z 130 dX3_evaluate_11 (by decide) (fun h11 => ?_) (fun h11 => ?_)
      · have hie : i = k := by have := ge_t (by omega) (by omega) h11; omega
        subst hie
        have hd1 : d = 1 := Option.some.inj (hhi.symm.trans hk1)
        rw [show i - i = 0 by omega] at hev
        have hs0 := (hst 0 (by omega)).1
        refine g_iconst (v := 1) Z dX3_evaluate_130 (by decide) ?_
        exact g_zret Z dX3_evaluate_131 (by rfl) (by omega) (by omega) (⟨O2, V2, d, hO2, hg, hv8, hgp, hp1, Or.inr ⟨rfl, St, hev.symm, hs0⟩⟩)
      · have hlt : i < k := ge_f (by omega) (by omega) h11
        obtain ⟨v, hv⟩ := hts_pre hk1 (i + 1) (by omega)
        have hstp := stp_c ((hts_s hhi).symm.trans hv)
        have hfu : k - i = (k - (i + 1)) + 1 := by omega
        refine g_lload_n Z dX3_evaluate_14 rfl ?_
        refine g_iload Z dX3_evaluate_15 rfl ?_
        refine g_csI Z (c_X3_signAt F.l F.D F.cy F.nw _ x i) 2 gX3_evaluate_X3_signAt rfl (by decide +kernel) (by rw [hRf, hRl]; decide) rfl rfl (Nat.le_of_ble_eq_true rfl) dX3_evaluate_17 (by rw [hRc, hRs]; omega) (fun r T1 hp => ?_)
        obtain ⟨rfl, rfl⟩ := hp
        refine g_istore Z dX3_evaluate_20 (by decide) ?_
        refine g_iload Z dX3_evaluate_22 rfl ?_
        refine g_csI Z (c_X3_isJoin F.l F.D F.cy F.nw _ (sg x i) hsg) 1 gX3_evaluate_X3_isJoin rfl (by decide +kernel) (by rw [hRf, hRl]; decide) rfl rfl (Nat.le_of_ble_eq_true rfl) dX3_evaluate_24 (by rw [hRc, hRs]; omega) (fun r T1 hp => ?_)
        obtain ⟨rfl, hji⟩ := hp
        refine g_if_eq Z 46 dX3_evaluate_27 (by decide) (fun h27 => ?_) (fun h27 => ?_)
        · have hnj : ¬ (16 ≤ sg x i ∧ sg x i ≤ 19) := by
            rcases hji with ⟨-, e⟩ | ⟨e, -⟩
            · exact e
            · rw [e] at h27; exact absurd h27 (by decide)
          refine g_aload_n Z dX3_evaluate_46 rfl ?_
          refine g_geti Z 3 1 rfl (by decide) in3 lk26 dX3_evaluate_47 (by assumption) (by assumption) ?_
          rw [hpd]
          refine g_bipush (v := 8) Z dX3_evaluate_50 (by decide) ?_
          refine g_icmp_ge Z 84 dX3_evaluate_52 (by decide) (fun h52 => ?_) (fun h52 => ?_)
          · have hd : d = 8 := by have := ge_t (i := d) (N := 8) (by omega) (by decide) h52; omega
            refine g_aload_n Z dX3_evaluate_84 rfl ?_
            refine g_geti Z 3 1 rfl (by decide) in3 lk26 dX3_evaluate_85 (by assumption) (by assumption) ?_
            rw [hpd]
            refine g_bipush (v := 8) Z dX3_evaluate_88 (by decide) ?_
            refine g_icmp_ge Z 124 dX3_evaluate_90 (by decide) (fun h90 => ?_) (fun h90 => ?_)
            · have hd' : d = 8 := by have := ge_t (i := d) (N := 8) (by omega) (by decide) h90; omega
              have h255 : sg x i = 255 ∧ v = d := by omega
              obtain ⟨h255, hv1⟩ := h255
              subst hv1
              rw [hfu, ev_n h255] at hev
              exact g_widen (by omega) (by omega) (g_lv (by (repeat (first | exact trivial | refine And.intro rfl ?_)); done) (j124 v T O2 V2 St hlt hO2 hg hv8 hgp hp1 hv hst hev))
            · have hd' : d < 8 := ge_f (by omega) (by decide) h90
              refine g_iload Z dX3_evaluate_93 rfl ?_
              refine g_bipush (v := 8) Z dX3_evaluate_95 (by decide) ?_
              refine g_icmp_ge Z 124 dX3_evaluate_97 (by decide) (fun h97 => ?_) (fun h97 => ?_)
              · have hg8 : 8 ≤ sg x i := ge_t (i := sg x i) (N := 8) (by omega) (by decide) h97
                have h255 : sg x i = 255 ∧ v = d := by omega
                obtain ⟨h255, hv1⟩ := h255
                subst hv1
                rw [hfu, ev_n h255] at hev
                exact g_widen (by omega) (by omega) (g_lv (by (repeat (first | exact trivial | refine And.intro rfl ?_)); done) (j124 v T O2 V2 St hlt hO2 hg hv8 hgp hp1 hv hst hev))
              · have hg8 : sg x i < 8 := ge_f (by omega) (by decide) h97
                have hv1 : v = d + 1 := by omega
                subst hv1
                rw [hfu, ev_s hg8] at hev
                have hc8 : (nI d).toNatClampNeg = d := nI_clamp (by omega)
                have ha := hls d (by omega)
                obtain ⟨hp2, hg2, hgp2⟩ := hp1.dep hnT hg (d + 1)
                obtain ⟨be2, it2, C2, hgx2⟩ := id hg2
                have hsv := (hgx2.1 (9 + d) (by omega)).1
                have hsvL := hsv.1
                have hsvK := hsv.2.1
                have hcg : (nI (sg x i)).toNatClampNeg = sg x i := nI_clamp (by omega)
                have hso := (hgx2.1 (sg x i) (by omega)).1
                obtain ⟨n1, n2, n3, n4⟩ := hgx2.ne (i := 9 + d) (j := sg x i) (by omega) (by omega) (by omega)
                refine g_aload_n Z dX3_evaluate_100 rfl ?_
                refine g_getr Z 3 0 rfl (by decide) in3 lk11 dX3_evaluate_101 (by assumption) (by assumption) (by assumption) ?_
                refine g_aload_n Z dX3_evaluate_104 rfl ?_
                refine g_dup Z dX3_evaluate_105 rfl ?_
                refine g_geti Z 3 1 rfl (by decide) in3 lk26 dX3_evaluate_106 (by assumption) (by assumption) ?_
                rw [hpd]
                refine g_dup_x1 Z dX3_evaluate_109 rfl rfl ?_
                refine g_iconst (v := 1) Z dX3_evaluate_110 (by decide) ?_
                refine g_iadd Z dX3_evaluate_111 ?_
                rw [nI_1]
                refine g_puti Z 3 1 rfl (by decide) tyX3 tyX3_ok nmX3 rfl in3 lk26 dX3_evaluate_112 rfl rfl (by assumption) (by assumption) ?_
                refine g_aald11 Z dX3_evaluate_115 (by assumption) (by assumption) (by exact vin_of hll (by omega) (by decide)) (by rw [hc8]; exact ha) ?_
                refine g_aload Z dX3_evaluate_116 rfl ?_
                refine g_iload Z dX3_evaluate_118 rfl ?_
                refine g_aald11 Z dX3_evaluate_120 (by assumption) (by assumption) (by exact vin_of hsal (by omega) (by decide)) (by rw [hcg]; exact hsar _ (by omega)) ?_
                refine g_cvV Z (f_X2_copyFrom F.l F.D F.cy F.nw _ O2 (be2 (9 + d)) (so (9 + d)) (it2 (9 + d)) (C2 (9 + d)) (V2 (9 + d)) hsv (so (sg x i)) (be2 (sg x i)) (it2 (sg x i)) (C2 (sg x i)) (V2 (sg x i)) hso n1 n2 n3 n4) 1 gX3_evaluate_X2_copyFrom rfl (by decide +kernel) (by rw [hRf, hRl]; decide) (by assumption) (κ := 2) (by assumption) rfl (by decide) rfl rfl (Nat.le_of_ble_eq_true rfl) dX3_evaluate_121 (by rw [hRc, hRs]; omega) (fun T2 hp => ?_)
                refine g_nw Z (fun hnU => ?_)
                obtain ⟨O3, hO3, hg3, hge3⟩ := hgx2.after (i := 9 + d) (by omega) hnU hp
                have hp3 := hp2.keep hg2 hO3 hge3
                have hgp3 : GP S T2 so O pl := GP.tr hO2 hgp (GP.tr (fun _ _ => rfl) hgp2 hge3.gp)
                have hO3' : ∀ a ∈ S.L, O3 a = O a := fun a ha => (hO3 a (hgp.1 a ha)).trans (hO2 a ha)
                have hnx : (∀ q, q < 8 → va_up V2 (9 + d) (V2 (sg x i)) q = V q) ∧ ∀ j, j < d + 1 → va_up V2 (9 + d) (V2 (sg x i)) (9 + j) = va_up St d (V (sg x i)) j ∧ (va_up St d (V (sg x i)) j).1 ≤ 6 := by
                  refine ⟨fun q hq => (va_up_ne _ _ (by omega)).trans (hv8 q hq), fun j hj => ?_⟩
                  by_cases e : j = d
                  · subst e; rw [va_up_self, va_up_self]; exact ⟨hv8 _ hg8, hV6 _ hg8⟩
                  · rw [va_up_ne _ _ e, va_up_ne _ _ (by omega)]; exact hst j (by omega)
                exact g_widen (by omega) (by omega) (g_lv (by (repeat (first | exact trivial | refine And.intro rfl ?_)); done) (j124 (d + 1) T2 O3 _ _ hlt hO3' hg3 hnx.1 hgp3 hp3 hv hnx.2 hev))
          · have hd : d < 8 := ge_f (by omega) (by decide) h52
            refine g_iload Z dX3_evaluate_55 rfl ?_
            refine g_bipush (v := 20) Z dX3_evaluate_57 (by decide) ?_
            refine g_icmp_ne Z 84 dX3_evaluate_59 (by decide) (fun h59 => ?_) (fun h59 => ?_)
            · have hn20 : ¬ sg x i = 20 := fun e => h59 (congrArg nI e)
              refine g_aload_n Z dX3_evaluate_84 rfl ?_
              refine g_geti Z 3 1 rfl (by decide) in3 lk26 dX3_evaluate_85 (by assumption) (by assumption) ?_
              rw [hpd]
              refine g_bipush (v := 8) Z dX3_evaluate_88 (by decide) ?_
              refine g_icmp_ge Z 124 dX3_evaluate_90 (by decide) (fun h90 => ?_) (fun h90 => ?_)
              · have hd' : d = 8 := by have := ge_t (i := d) (N := 8) (by omega) (by decide) h90; omega
                have h255 : sg x i = 255 ∧ v = d := by omega
                obtain ⟨h255, hv1⟩ := h255
                subst hv1
                rw [hfu, ev_n h255] at hev
                exact g_widen (by omega) (by omega) (g_lv (by (repeat (first | exact trivial | refine And.intro rfl ?_)); done) (j124 v T O2 V2 St hlt hO2 hg hv8 hgp hp1 hv hst hev))
              · have hd' : d < 8 := ge_f (by omega) (by decide) h90
                refine g_iload Z dX3_evaluate_93 rfl ?_
                refine g_bipush (v := 8) Z dX3_evaluate_95 (by decide) ?_
                refine g_icmp_ge Z 124 dX3_evaluate_97 (by decide) (fun h97 => ?_) (fun h97 => ?_)
                · have hg8 : 8 ≤ sg x i := ge_t (i := sg x i) (N := 8) (by omega) (by decide) h97
                  have h255 : sg x i = 255 ∧ v = d := by omega
                  obtain ⟨h255, hv1⟩ := h255
                  subst hv1
                  rw [hfu, ev_n h255] at hev
                  exact g_widen (by omega) (by omega) (g_lv (by (repeat (first | exact trivial | refine And.intro rfl ?_)); done) (j124 v T O2 V2 St hlt hO2 hg hv8 hgp hp1 hv hst hev))
                · have hg8 : sg x i < 8 := ge_f (by omega) (by decide) h97
                  have hv1 : v = d + 1 := by omega
                  subst hv1
                  rw [hfu, ev_s hg8] at hev
                  have hc8 : (nI d).toNatClampNeg = d := nI_clamp (by omega)
                  have ha := hls d (by omega)
                  obtain ⟨hp2, hg2, hgp2⟩ := hp1.dep hnT hg (d + 1)
                  obtain ⟨be2, it2, C2, hgx2⟩ := id hg2
                  have hsv := (hgx2.1 (9 + d) (by omega)).1
                  have hsvL := hsv.1
                  have hsvK := hsv.2.1
                  have hcg : (nI (sg x i)).toNatClampNeg = sg x i := nI_clamp (by omega)
                  have hso := (hgx2.1 (sg x i) (by omega)).1
                  obtain ⟨n1, n2, n3, n4⟩ := hgx2.ne (i := 9 + d) (j := sg x i) (by omega) (by omega) (by omega)
                  refine g_aload_n Z dX3_evaluate_100 rfl ?_
                  refine g_getr Z 3 0 rfl (by decide) in3 lk11 dX3_evaluate_101 (by assumption) (by assumption) (by assumption) ?_
                  refine g_aload_n Z dX3_evaluate_104 rfl ?_
                  refine g_dup Z dX3_evaluate_105 rfl ?_
                  refine g_geti Z 3 1 rfl (by decide) in3 lk26 dX3_evaluate_106 (by assumption) (by assumption) ?_
                  rw [hpd]
                  refine g_dup_x1 Z dX3_evaluate_109 rfl rfl ?_
                  refine g_iconst (v := 1) Z dX3_evaluate_110 (by decide) ?_
                  refine g_iadd Z dX3_evaluate_111 ?_
                  rw [nI_1]
                  refine g_puti Z 3 1 rfl (by decide) tyX3 tyX3_ok nmX3 rfl in3 lk26 dX3_evaluate_112 rfl rfl (by assumption) (by assumption) ?_
                  refine g_aald11 Z dX3_evaluate_115 (by assumption) (by assumption) (by exact vin_of hll (by omega) (by decide)) (by rw [hc8]; exact ha) ?_
                  refine g_aload Z dX3_evaluate_116 rfl ?_
                  refine g_iload Z dX3_evaluate_118 rfl ?_
                  refine g_aald11 Z dX3_evaluate_120 (by assumption) (by assumption) (by exact vin_of hsal (by omega) (by decide)) (by rw [hcg]; exact hsar _ (by omega)) ?_
                  refine g_cvV Z (f_X2_copyFrom F.l F.D F.cy F.nw _ O2 (be2 (9 + d)) (so (9 + d)) (it2 (9 + d)) (C2 (9 + d)) (V2 (9 + d)) hsv (so (sg x i)) (be2 (sg x i)) (it2 (sg x i)) (C2 (sg x i)) (V2 (sg x i)) hso n1 n2 n3 n4) 1 gX3_evaluate_X2_copyFrom rfl (by decide +kernel) (by rw [hRf, hRl]; decide) (by assumption) (κ := 2) (by assumption) rfl (by decide) rfl rfl (Nat.le_of_ble_eq_true rfl) dX3_evaluate_121 (by rw [hRc, hRs]; omega) (fun T2 hp => ?_)
                  refine g_nw Z (fun hnU => ?_)
                  obtain ⟨O3, hO3, hg3, hge3⟩ := hgx2.after (i := 9 + d) (by omega) hnU hp
                  have hp3 := hp2.keep hg2 hO3 hge3
                  have hgp3 : GP S T2 so O pl := GP.tr hO2 hgp (GP.tr (fun _ _ => rfl) hgp2 hge3.gp)
                  have hO3' : ∀ a ∈ S.L, O3 a = O a := fun a ha => (hO3 a (hgp.1 a ha)).trans (hO2 a ha)
                  have hnx : (∀ q, q < 8 → va_up V2 (9 + d) (V2 (sg x i)) q = V q) ∧ ∀ j, j < d + 1 → va_up V2 (9 + d) (V2 (sg x i)) (9 + j) = va_up St d (V (sg x i)) j ∧ (va_up St d (V (sg x i)) j).1 ≤ 6 := by
                    refine ⟨fun q hq => (va_up_ne _ _ (by omega)).trans (hv8 q hq), fun j hj => ?_⟩
                    by_cases e : j = d
                    · subst e; rw [va_up_self, va_up_self]; exact ⟨hv8 _ hg8, hV6 _ hg8⟩
                    · rw [va_up_ne _ _ e, va_up_ne _ _ (by omega)]; exact hst j (by omega)
                  exact g_widen (by omega) (by omega) (g_lv (by (repeat (first | exact trivial | refine And.intro rfl ?_)); done) (j124 (d + 1) T2 O3 _ _ hlt hO3' hg3 hnx.1 hgp3 hp3 hv hnx.2 hev))
            · have h20 : sg x i = 20 := (nI_eq (b := 20) (by omega) (by decide)).mp h59
              have hv1 : v = d + 1 := by omega
              subst hv1
              rw [hfu, ev_a h20] at hev
              have hc8 : (nI d).toNatClampNeg = d := nI_clamp (by omega)
              have ha := hls d (by omega)
              obtain ⟨hp2, hg2, hgp2⟩ := hp1.dep hnT hg (d + 1)
              obtain ⟨be2, it2, C2, hgx2⟩ := id hg2
              have hsv := (hgx2.1 (9 + d) (by omega)).1
              have hsvL := hsv.1
              have hsvK := hsv.2.1
              refine g_aload_n Z dX3_evaluate_62 rfl ?_
              refine g_getr Z 3 0 rfl (by decide) in3 lk11 dX3_evaluate_63 (by assumption) (by assumption) (by assumption) ?_
              refine g_aload_n Z dX3_evaluate_66 rfl ?_
              refine g_dup Z dX3_evaluate_67 rfl ?_
              refine g_geti Z 3 1 rfl (by decide) in3 lk26 dX3_evaluate_68 (by assumption) (by assumption) ?_
              rw [hpd]
              refine g_dup_x1 Z dX3_evaluate_71 rfl rfl ?_
              refine g_iconst (v := 1) Z dX3_evaluate_72 (by decide) ?_
              refine g_iadd Z dX3_evaluate_73 ?_
              rw [nI_1]
              refine g_puti Z 3 1 rfl (by decide) tyX3 tyX3_ok nmX3 rfl in3 lk26 dX3_evaluate_74 rfl rfl (by assumption) (by assumption) ?_
              refine g_aald11 Z dX3_evaluate_77 (by assumption) (by assumption) (by exact vin_of hll (by omega) (by decide)) (by rw [hc8]; exact ha) ?_
              refine g_cvV Z (f_X2_becomeAll F.l F.D F.cy F.nw _ O2 (be2 (9 + d)) (so (9 + d)) (it2 (9 + d)) (C2 (9 + d)) (V2 (9 + d)) hsv) 0 gX3_evaluate_X2_becomeAll rfl (by decide +kernel) (by rw [hRf, hRl]; decide) (by assumption) (κ := 2) (by assumption) rfl (by decide) rfl rfl (Nat.le_of_ble_eq_true rfl) dX3_evaluate_78 (by rw [hRc, hRs]; omega) (fun T2 hp => ?_)
              refine g_nw Z (fun hnU => ?_)
              obtain ⟨O3, hO3, hg3, hge3⟩ := hgx2.after (i := 9 + d) (by omega) hnU hp
              have hp3 := hp2.keep hg2 hO3 hge3
              have hgp3 : GP S T2 so O pl := GP.tr hO2 hgp (GP.tr (fun _ _ => rfl) hgp2 hge3.gp)
              have hO3' : ∀ a ∈ S.L, O3 a = O a := fun a ha => (hO3 a (hgp.1 a ha)).trans (hO2 a ha)
              have hnx : (∀ q, q < 8 → va_up V2 (9 + d) aV q = V q) ∧ ∀ j, j < d + 1 → va_up V2 (9 + d) aV (9 + j) = va_up St d aV j ∧ (va_up St d aV j).1 ≤ 6 := by
                refine ⟨fun q hq => (va_up_ne _ _ (by omega)).trans (hv8 q hq), fun j hj => ?_⟩
                by_cases e : j = d
                · subst e; rw [va_up_self, va_up_self]; exact ⟨rfl, by decide⟩
                · rw [va_up_ne _ _ e, va_up_ne _ _ (by omega)]; exact hst j (by omega)
              refine g_goto Z 124 dX3_evaluate_81 (by decide) ?_
              exact g_widen (by omega) (by omega) (g_lv (by (repeat (first | exact trivial | refine And.intro rfl ?_)); done) (j124 (d + 1) T2 O3 _ _ hlt hO3' hg3 hnx.1 hgp3 hp3 hv hnx.2 hev))
        · have hj : 16 ≤ sg x i ∧ sg x i ≤ 19 := by
            rcases hji with ⟨e, -⟩ | ⟨-, e⟩
            · exact absurd e h27
            · exact e
          obtain ⟨hd2, hv1⟩ : 2 ≤ d ∧ v = d - 1 := by omega
          obtain ⟨u1, w1⟩ := hst (d - 2) (by omega)
          obtain ⟨u2, w2⟩ := hst (d - 1) (by omega)
          have hspL := (hgx.1 8 (by omega)).1.1
          have hspK := (hgx.1 8 (by omega)).1.2.1
          rw [hfu, ev_j hj] at hev
          have hx4 : nI (sg x i - 16) = 0 ∨ nI (sg x i - 16) = 1 ∨ nI (sg x i - 16) = 2 ∨ nI (sg x i - 16) = 3 := by
            rcases (show sg x i = 16 ∨ sg x i = 17 ∨ sg x i = 18 ∨ sg x i = 19 by omega) with e | e | e | e <;> rw [e]
            · exact Or.inl rfl
            · exact Or.inr (Or.inl rfl)
            · exact Or.inr (Or.inr (Or.inl rfl))
            · exact Or.inr (Or.inr (Or.inr rfl))
          refine g_aload_n Z dX3_evaluate_30 rfl ?_
          refine g_iload Z dX3_evaluate_31 rfl ?_
          refine g_bipush (v := 16) Z dX3_evaluate_33 (by decide) ?_
          refine g_isub Z dX3_evaluate_35 ?_
          rw [show nI (sg x i) - 16 = nI (sg x i - 16) from pk_sub (a := sg x i) (b := 16) (by omega)]
          refine g_aload Z dX3_evaluate_36 rfl ?_
          refine g_cvI Z (f_X3_joinUpperTwo F.l F.D F.cy F.nw T so O2 V2 hg pl la d hp1 hd2 hd8 (by rw [u1]; exact w1) (by rw [u2]; exact w2) (nI (sg x i - 16)) hx4) 2 gX3_evaluate_X3_joinUpperTwo rfl (by decide +kernel) (by rw [hRf, hRl]; decide) (by assumption) (κ := 3) (by assumption) rfl (by decide) rfl rfl (Nat.le_of_ble_eq_true rfl) dX3_evaluate_38 (by rw [hRc, hRs]; omega) (fun r T1 hp => ?_)
          obtain ⟨O3, V3, hO3, hg3, hV3, hgp3, hr⟩ := hp
          rw [u1, u2] at hr
          have hO3' : ∀ a ∈ S.L, O3 a = O a := fun a ha => (hO3 a (hgp.1 a ha)).trans (hO2 a ha)
          have hgp3' : GP S T1 so O pl := GP.tr hO2 hgp hgp3
          have hv83 : ∀ q, q < 8 → V3 q = V q := fun q hq => (hV3 q (by omega) (by omega) (by omega)).trans (hv8 q hq)
          refine g_if_ne Z 124 dX3_evaluate_41 (by decide) (fun h41 => ?_) (fun h41 => ?_)
          · obtain ⟨hms, hpn⟩ : mgR (nI (sg x i - 16)) (St (d - 2)) (St (d - 1)) 13 0 0 eS = some (V3 (9 + (d - 2))) ∧ PlQ T1 pl la (d - 1) so O3 := by
              rcases hr with ⟨e, -⟩ | ⟨-, e⟩
              · exact absurd e h41
              · exact e
            rw [hms] at hev
            subst hv1
            have hst3 : ∀ j, j < d - 1 → V3 (9 + j) = va_up St (d - 2) (V3 (9 + (d - 2))) j ∧ (va_up St (d - 2) (V3 (9 + (d - 2))) j).1 ≤ 6 := by
              intro j hj
              by_cases e : j = d - 2
              · subst e; rw [va_up_self]; exact ⟨rfl, mg_le _ _ _ _ hms⟩
              · rw [va_up_ne _ _ e]
                obtain ⟨z1, z2⟩ := hst j (by omega)
                exact ⟨(hV3 (9 + j) (by omega) (by omega) (by omega)).trans z1, z2⟩
            exact g_widen (by omega) (by omega) (g_lv (by (repeat (first | exact trivial | refine And.intro rfl ?_)); done) (j124 (d - 1) T1 O3 V3 _ hlt hO3' hg3 hv83 hgp3' hpn hv hst3 hev))
          · obtain ⟨hmn, hpn⟩ : mgR (nI (sg x i - 16)) (St (d - 2)) (St (d - 1)) 13 0 0 eS = none ∧ PlQ T1 pl la d so O3 := by
              rcases hr with ⟨-, e⟩ | ⟨e, -⟩
              · exact e
              · rw [e] at h41; exact absurd h41 (by decide)
            rw [hmn] at hev
            refine g_iconst (v := 0) Z dX3_evaluate_44 (by decide) ?_
            exact g_zret Z dX3_evaluate_45 (by rfl) (by omega) (by omega) (⟨O3, V3, d, hO3', hg3, hv83, hgp3', hpn, Or.inl ⟨rfl, hev.symm⟩⟩)
  refine g_nw Z (fun hnw => ?_)
  obtain ⟨hpL, hpK, -, -, -, -⟩ := id hp0
  obtain ⟨hp1, hg1, hgp1⟩ := hp0.dep hnw hg0 0
  refine g_aload_n Z dX3_evaluate_0 rfl ?_
  refine g_iconst (v := 0) Z dX3_evaluate_1 (by decide) ?_
  refine g_puti Z 3 1 rfl (by decide) tyX3 tyX3_ok nmX3 rfl in3 lk26 dX3_evaluate_2 rfl rfl (by assumption) (by assumption) ?_
  refine g_iconst (v := 0) Z dX3_evaluate_5 (by decide) ?_
  refine g_istore Z dX3_evaluate_6 (by decide) ?_
  exact g_lv (by (repeat (first | exact trivial | refine And.intro rfl ?_)); done) (loop 10 0 0 _ O V (fun _ => eS) (by omega) ⟨fun _ _ => rfl, hg1, fun _ _ => rfl, hgp1, hp1, by omega, rfl, fun j hj => absurd hj (Nat.not_lt_zero _), rfl⟩)
