/-! SETS -/
def SetAt (S : PS) (nw s it u : Nat) : Prop := s ∈ S.L ∧ S.K s = 2 ∧ S.fr s 0 = some it ∧ it ∈ S.L ∧ S.K it = 10 ∧ S.ln it = 7 ∧ S.fi s 1 = nI u ∧ u ≤ 7 ∧ (∀ i, i < 7 → ∃ c, S.rr it i = some c ∧ Cw S nw c) ∧ ∀ i, i < u → ∃ c, S.rr it i = some c ∧ Cr S c
def SetOK (S : PS) (nw s : Nat) : Prop := ∃ it u, SetAt S nw s it u
/-- containers stand as they stood -/
theorem cr_same {S T : PS} {c : Nat} (h1 : T.L = S.L) (h2 : T.K = S.K) (h3 : T.ln = S.ln) (h4 : S.K c = 1 → T.fr c 3 = S.fr c 3 ∧ T.fi c 0 = S.fi c 0) (h : Cr S c) : Cr T c := by
  obtain ⟨k1, k2, ⟨j, k3, k4⟩, w, k5, k6, k7, k8⟩ := h
  obtain ⟨e1, e2⟩ := h4 k2
  exact ⟨by rw [h1]; exact k1, by rw [h2]; exact k2, ⟨j, k3, by rw [e2]; exact k4⟩, w, by rw [e1]; exact k5, by rw [h1]; exact k6, by rw [h2]; exact k7, by rw [h3]; exact k8⟩
theorem cw_same {S T : PS} {nw c : Nat} (h1 : T.L = S.L) (h2 : T.K = S.K) (h3 : T.ln = S.ln) (h4 : S.K c = 1 → T.fr c 3 = S.fr c 3 ∧ T.fi c 0 = S.fi c 0) (h : Cw S nw c) : Cw T nw c := by
  obtain ⟨k1, k2, ⟨j, k3, k4⟩, k5⟩ := h
  obtain ⟨e1, e2⟩ := h4 k2
  refine ⟨by rw [h1]; exact k1, by rw [h2]; exact k2, ⟨j, k3, by rw [e2]; exact k4⟩, ?_⟩
  rcases k5 with k5 | ⟨w, k5, k6, k7, k8⟩
  · exact Or.inl (by rw [e1]; exact k5)
  · exact Or.inr ⟨w, by rw [e1]; exact k5, by rw [h1]; exact k6, by rw [h2]; exact k7, by rw [h3]; exact k8⟩
theorem SetAt.ex {nw s it u : Nat} {S T : PS} (hE : Ex nw S T) (h : SetAt S nw s it u) : SetAt T nw s it u := by
  obtain ⟨h1, h2, h3, h4, h5, h6, h7, h8, h9, h10⟩ := h
  obtain ⟨a1, a2, -, a4, -⟩ := hE.1 s h1
  obtain ⟨b1, b2, b3, -, b5⟩ := hE.1 it h4
  obtain ⟨a5, a6⟩ := a4 (by rw [h2]; decide)
  obtain ⟨-, b6⟩ := b5 (by rw [h5]; decide)
  refine ⟨a1, a2.trans h2, by rw [a6]; exact h3, b1, b2.trans h5, b3.trans h6, by rw [a5]; exact h7, h8, fun i hi => ?_, fun i hi => ?_⟩
  · obtain ⟨c, c1, c2⟩ := h9 i hi
    exact ⟨c, by rw [b6]; exact c1, hE.2.1 c c2⟩
  · obtain ⟨c, c1, c2⟩ := h10 i hi
    exact ⟨c, by rw [b6]; exact c1, hE.2.2 c c2⟩
/-- only containers' insides, sets' fields and rows of containers have changed; every set is as good as it was -/
def Es (nw : Nat) (S T : PS) : Prop := (∀ a ∈ S.L, a ∈ T.L ∧ T.K a = S.K a ∧ T.ln a = S.ln a ∧ (S.K a ≠ 1 → S.K a ≠ 2 → T.fi a = S.fi a ∧ T.fr a = S.fr a) ∧ (S.K a ≠ 9 → T.ri a = S.ri a) ∧ (S.K a ≠ 9 → S.K a ≠ 10 → T.rr a = S.rr a)) ∧ (∀ c, Cw S nw c → Cw T nw c) ∧ (∀ c, Cr S c → Cr T c) ∧ ∀ s, SetOK S nw s → SetOK T nw s
theorem Ex.es {nw : Nat} {S T : PS} (h : Ex nw S T) : Es nw S T := by
  refine ⟨fun a ha => ?_, h.2.1, h.2.2, fun s ⟨it, u, hs⟩ => ⟨it, u, hs.ex h⟩⟩
  obtain ⟨a1, a2, a3, a4, a5⟩ := h.1 a ha
  exact ⟨a1, a2, a3, fun h1 _ => a4 h1, fun h1 => (a5 h1).1, fun h1 _ => (a5 h1).2⟩
theorem Es.rf {nw : Nat} {S : PS} : Es nw S S := Ex.rf.es
theorem Es.tr {nw : Nat} {S T U : PS} (h1 : Es nw S T) (h2 : Es nw T U) : Es nw S U := by
  refine ⟨fun a ha => ?_, fun c h => h2.2.1 c (h1.2.1 c h), fun c h => h2.2.2.1 c (h1.2.2.1 c h), fun s h => h2.2.2.2 s (h1.2.2.2 s h)⟩
  obtain ⟨a1, a2, a3, a4, a5, a6⟩ := h1.1 a ha
  obtain ⟨b1, b2, b3, b4, b5, b6⟩ := h2.1 a a1
  rw [a2] at b4 b5 b6 b2
  refine ⟨b1, b2, b3.trans a3, fun p q => ⟨(b4 p q).1.trans (a4 p q).1, (b4 p q).2.trans (a4 p q).2⟩, fun p => (b5 p).trans (a5 p), fun p q => (b6 p q).trans (a6 p q)⟩
/-- a step that touches sets' own fields and rows of containers alone: what is owed is that the sets are good behind it -/
theorem Es.step {nw : Nat} {S T : PS} (h1 : T.L = S.L) (h2 : T.K = S.K) (h3 : T.ln = S.ln) (h4 : ∀ a, S.K a ≠ 2 → T.fr a = S.fr a ∧ T.fi a = S.fi a) (h5 : T.ri = S.ri) (h6 : ∀ a, S.K a ≠ 10 → T.rr a = S.rr a) (hs : ∀ s, SetOK S nw s → SetOK T nw s) : Es nw S T := by
  have hc : ∀ c, S.K c = 1 → T.fr c 3 = S.fr c 3 ∧ T.fi c 0 = S.fi c 0 := fun c h => by
    obtain ⟨e1, e2⟩ := h4 c (by rw [h]; decide)
    rw [e1, e2]; exact ⟨rfl, rfl⟩
  exact ⟨fun a ha => ⟨by rw [h1]; exact ha, by rw [h2], by rw [h3], fun _ q => ⟨(h4 a q).2, (h4 a q).1⟩, fun _ => by rw [h5], fun _ q => h6 a q⟩, fun c => cw_same h1 h2 h3 (hc c), fun c => cr_same h1 h2 h3 (hc c), hs⟩
theorem ne_k {k : Nat} (h : k < 65536) : ¬ nI 65536 = nI k := fun e => by have := (nI_eq (by decide) (by omega)).mp e; omega
theorem SetAt.cw {S : PS} {nw s it u : Nat} (h : SetAt S nw s it u) {i : Nat} (hi : i < 7) : ∃ c, S.rr it i = some c ∧ Cw S nw c := h.2.2.2.2.2.2.2.2.1 i hi
theorem SetAt.cr {S : PS} {nw s it u : Nat} (h : SetAt S nw s it u) {i : Nat} (hi : i < u) : ∃ c, S.rr it i = some c ∧ Cr S c := h.2.2.2.2.2.2.2.2.2 i hi

set_option maxRecDepth 100000 in
set_option maxHeartbeats 2000000 in
/-- the key at a place; beyond them 65536 -/
theorem c_X2_keyAt (l : Launch) (D : va_G) (cy : Nat → ClassId) (nw : Nat) (S : PS) (s it u : Nat) (hs : SetAt S nw s it u) (j : Nat) (hj : j < 2 ^ 31) : kI l yX2_keyAt wsX2_keyAt 0 0 D cy nw [.ref s, .int (nI j)] S (fun r T => S = T ∧ ((j < u ∧ ∃ k : Nat, k < 65536 ∧ r = nI k) ∨ (u ≤ j ∧ r = nI 65536))) 0 0 := by
  refine enterI (cc := cX2_keyAt) (nL := 2) (ret := (some .int)) (by decide +kernel) rfl (Nat.le_of_ble_eq_true rfl) ?_
  intro F Z hl hR hD hcy hnw hnm
  subst hl hD hcy hnw
  have hRf : F.R.frames = 0 := by rw [hR]
  have hRc : F.R.cells = 0 := by rw [hR]
  have hRs : F.R.slots = 0 := by rw [hR]
  have hRl : F.R.locals = 0 := by rw [hR]
  have in1 : ∀ w ∈ u_ws RX1 TX1 4, w ∈ wsX2_keyAt := by decide +kernel
  have in2 : ∀ w ∈ u_ws RX2 TX2 2, w ∈ wsX2_keyAt := by decide +kernel
  have lk11 : Cond.fieldLink RX2 11 (TX2 0).1 (TX2 0).2.1 (TX2 0).2.2.1 ∈ wsX2_keyAt := by decide +kernel
  have lk18 : Cond.fieldLink RX2 18 (TX2 1).1 (TX2 1).2.1 (TX2 1).2.2.1 ∈ wsX2_keyAt := by decide +kernel
  have lk26 : Cond.fieldLink RX2 26 (TX1 0).1 (TX1 0).2.1 (TX1 0).2.2.1 ∈ wsX2_keyAt := by decide +kernel
  have ct29 : Cond.constant RX2 29 (65536) ∈ wsX2_keyAt := by decide +kernel
  obtain ⟨hsL, hsK, hsit, hitL, hitK, hitl, hsu, hu7, hsw, hsr⟩ := id hs
  refine g_iload_n Z dX2_keyAt_0 rfl ?_
  refine g_aload_n Z dX2_keyAt_1 rfl ?_
  refine g_geti Z 2 1 rfl (by decide) in2 lk18 dX2_keyAt_2 (by assumption) (by assumption) ?_
  rw [hsu]
  refine g_icmp_ge Z 20 dX2_keyAt_5 (by decide) (fun h5 => ?_) (fun h5 => ?_)
  · refine g_ldc (v := 65536) Z dX2_keyAt_20 ct29 ?_
    exact g_iret Z dX2_keyAt_22 (by omega) (by omega) (by first | exact ⟨rfl, Or.inl ⟨hlt, k, hk, rfl⟩⟩ | exact ⟨rfl, Or.inr ⟨ge_t (by omega) (by omega) h5, rfl⟩⟩)
  · have hlt : j < u := ge_f (by omega) (by omega) h5
    obtain ⟨c, hc, hcr⟩ := hs.cr hlt
    obtain ⟨hcL, hcK, ⟨k, hk, ek⟩, -⟩ := id hcr
    have hcl : (nI j).toNatClampNeg = j := nI_clamp (by omega)
    refine g_aload_n Z dX2_keyAt_8 rfl ?_
    refine g_getr Z 2 0 rfl (by decide) in2 lk11 dX2_keyAt_9 (by assumption) (by assumption) (by assumption) ?_
    refine g_iload_n Z dX2_keyAt_12 rfl ?_
    refine g_aald10 Z dX2_keyAt_13 (by assumption) (by assumption) (by exact vin_of hitl (by omega) (by decide)) (by rw [hcl]; exact hc) ?_
    refine g_geti Z 1 0 rfl (by decide) in1 lk26 dX2_keyAt_14 (by assumption) (by assumption) ?_
    rw [ek]
    refine g_goto Z 22 dX2_keyAt_17 (by decide) ?_
    exact g_iret Z dX2_keyAt_22 (by omega) (by omega) (by first | exact ⟨rfl, Or.inl ⟨hlt, k, hk, rfl⟩⟩ | exact ⟨rfl, Or.inr ⟨ge_t (by omega) (by omega) h5, rfl⟩⟩)

set_option maxRecDepth 100000 in
set_option maxHeartbeats 2000000 in
/-- where a key is or would come in -/
theorem c_X2_indexOf (l : Launch) (D : va_G) (cy : Nat → ClassId) (nw : Nat) (S : PS) (s it u : Nat) (hs : SetAt S nw s it u) (x : Int32) : kI l yX2_indexOf wsX2_indexOf 0 0 D cy nw [.ref s, .int x] S (fun r T => S = T ∧ ∃ j : Nat, j ≤ u ∧ r = nI j) 0 0 := by
  refine enterI (cc := cX2_indexOf) (nL := 3) (ret := (some .int)) (by decide +kernel) rfl (Nat.le_of_ble_eq_true rfl) ?_
  intro F Z hl hR hD hcy hnw hnm
  subst hl hD hcy hnw
  have hRf : F.R.frames = 0 := by rw [hR]
  have hRc : F.R.cells = 0 := by rw [hR]
  have hRs : F.R.slots = 0 := by rw [hR]
  have hRl : F.R.locals = 0 := by rw [hR]
  have in1 : ∀ w ∈ u_ws RX1 TX1 4, w ∈ wsX2_indexOf := by decide +kernel
  have in2 : ∀ w ∈ u_ws RX2 TX2 2, w ∈ wsX2_indexOf := by decide +kernel
  have lk11 : Cond.fieldLink RX2 11 (TX2 0).1 (TX2 0).2.1 (TX2 0).2.2.1 ∈ wsX2_indexOf := by decide +kernel
  have lk18 : Cond.fieldLink RX2 18 (TX2 1).1 (TX2 1).2.1 (TX2 1).2.2.1 ∈ wsX2_indexOf := by decide +kernel
  have lk26 : Cond.fieldLink RX2 26 (TX1 0).1 (TX1 0).2.1 (TX1 0).2.2.1 ∈ wsX2_indexOf := by decide +kernel
  obtain ⟨hsL, hsK, hsit, hitL, hitK, hitl, hsu, hu7, hsw, hsr⟩ := id hs
  have loop : ∀ (n : Nat) (j : Nat), 8 - j < n → j ≤ u → G F 3 S 0 0 (QI F (fun r T => S = T ∧ ∃ j : Nat, j ≤ u ∧ r = nI j) 0 0) 2 [(0, .ref s), (1, .int x), (2, .int (nI j))] [] := by
    intro n
    induction n with
    | zero => intros; omega
    | succ n ih =>
      intro j hn hj
      refine g_iload_n Z dX2_indexOf_2 rfl ?_
      refine g_aload_n Z dX2_indexOf_3 rfl ?_
      refine g_geti Z 2 1 rfl (by decide) in2 lk18 dX2_indexOf_4 (by assumption) (by assumption) ?_
      rw [hsu]
      refine g_icmp_ge Z 29 dX2_indexOf_7 (by decide) (fun h7 => ?_) (fun h7 => ?_)
      · refine g_iload_n Z dX2_indexOf_29 rfl ?_
        exact g_iret Z dX2_indexOf_30 (by omega) (by omega) (⟨rfl, j, hj, rfl⟩)
      · have hlt : j < u := ge_f (by omega) (by omega) h7
        obtain ⟨c, hc, hcr⟩ := hs.cr hlt
        obtain ⟨hcL, hcK, -, -⟩ := id hcr
        have hcl : (nI j).toNatClampNeg = j := nI_clamp (by omega)
        refine g_aload_n Z dX2_indexOf_10 rfl ?_
        refine g_getr Z 2 0 rfl (by decide) in2 lk11 dX2_indexOf_11 (by assumption) (by assumption) (by assumption) ?_
        refine g_iload_n Z dX2_indexOf_14 rfl ?_
        refine g_aald10 Z dX2_indexOf_15 (by assumption) (by assumption) (by exact vin_of hitl (by omega) (by decide)) (by rw [hcl]; exact hc) ?_
        refine g_geti Z 1 0 rfl (by decide) in1 lk26 dX2_indexOf_16 (by assumption) (by assumption) ?_
        refine g_iload_n Z dX2_indexOf_19 rfl ?_
        refine g_icmp_ge Z 29 dX2_indexOf_20 (by decide) (fun h20 => ?_) (fun h20 => ?_)
        · refine g_iload_n Z dX2_indexOf_29 rfl ?_
          exact g_iret Z dX2_indexOf_30 (by omega) (by omega) (⟨rfl, j, hj, rfl⟩)
        · refine g_iinc (c := 1) Z dX2_indexOf_23 rfl (by decide) (by decide) ?_
          rw [nI_1]
          refine g_goto Z 2 dX2_indexOf_26 (by decide) ?_
          exact g_lv (by (repeat (first | exact trivial | refine And.intro rfl ?_)); done) (ih (j + 1) (by omega) (by omega))
  refine g_iconst (v := 0) Z dX2_indexOf_0 (by decide) ?_
  refine g_istore_n Z dX2_indexOf_1 (by decide) ?_
  exact g_lv (by (repeat (first | exact trivial | refine And.intro rfl ?_)); done) (loop 9 0 (by omega) (by omega))

set_option maxRecDepth 100000 in
set_option maxHeartbeats 2000000 in
/-- the container of a key -/
theorem c_X2_find (l : Launch) (D : va_G) (cy : Nat → ClassId) (nw : Nat) (S : PS) (s it u : Nat) (hs : SetAt S nw s it u) (k : Nat) (hk : k < 65536) : kR l yX2_find wsX2_find 1 22 D cy nw [.ref s, .int (nI k)] S (fun r T => S = T ∧ (r = none ∨ ∃ c, r = some c ∧ Cr S c)) 0 0 := by
  refine enterR (cc := cX2_find) (nL := 3) (ret := (some (.object "RoaringIndex$Container"))) (by decide +kernel) rfl (Nat.le_of_ble_eq_true rfl) ?_
  intro F Z hl hR hD hcy hnw hnm
  subst hl hD hcy hnw
  have hRf : F.R.frames = 1 := by rw [hR]
  have hRc : F.R.cells = 0 := by rw [hR]
  have hRs : F.R.slots = 0 := by rw [hR]
  have hRl : F.R.locals = 22 := by rw [hR]
  have in2 : ∀ w ∈ u_ws RX2 TX2 2, w ∈ wsX2_find := by decide +kernel
  have lk11 : Cond.fieldLink RX2 11 (TX2 0).1 (TX2 0).2.1 (TX2 0).2.2.1 ∈ wsX2_find := by decide +kernel
  obtain ⟨hsL, hsK, hsit, hitL, hitK, hitl, hsu, hu7, hsw, hsr⟩ := id hs
  refine g_aload_n Z dX2_find_0 rfl ?_
  refine g_iload_n Z dX2_find_1 rfl ?_
  refine g_cvI Z (c_X2_indexOf F.l F.D F.cy F.nw _ s it u hs _) 1 gX2_find_X2_indexOf rfl (by decide +kernel) (by rw [hRf, hRl]; decide) (by assumption) (κ := 2) (by assumption) rfl (by decide) rfl rfl (Nat.le_of_ble_eq_true rfl) dX2_find_2 (by rw [hRc, hRs]; omega) (fun r T hp => ?_)
  obtain ⟨rfl, j, hj, rfl⟩ := hp
  refine g_istore_n Z dX2_find_5 (by decide) ?_
  refine g_aload_n Z dX2_find_6 rfl ?_
  refine g_iload_n Z dX2_find_7 rfl ?_
  refine g_cvI Z (c_X2_keyAt F.l F.D F.cy F.nw _ s it u hs j (by omega)) 1 gX2_find_X2_keyAt rfl (by decide +kernel) (by rw [hRf, hRl]; decide) (by assumption) (κ := 2) (by assumption) rfl (by decide) rfl rfl (Nat.le_of_ble_eq_true rfl) dX2_find_8 (by rw [hRc, hRs]; omega) (fun r T hp => ?_)
  obtain ⟨rfl, hp2⟩ := hp
  refine g_iload_n Z dX2_find_11 rfl ?_
  refine g_icmp_ne Z 24 dX2_find_12 (by decide) (fun h12 => ?_) (fun h12 => ?_)
  · refine g_null Z dX2_find_24 ?_
    exact g_aretN Z rfl (Or.inl ⟨_, rfl⟩) dX2_find_25 (by omega) (by omega) ⟨rfl, Or.inl rfl⟩
  · have hju : j < u := by
      rcases hp2 with ⟨h, -⟩ | ⟨-, e⟩
      · exact h
      · rw [e] at h12; exact absurd h12 (ne_k hk)
    obtain ⟨c, hc, hcr⟩ := hs.cr hju
    have hcl : (nI j).toNatClampNeg = j := nI_clamp (by omega)
    refine g_aload_n Z dX2_find_15 rfl ?_
    refine g_getr Z 2 0 rfl (by decide) in2 lk11 dX2_find_16 (by assumption) (by assumption) (by assumption) ?_
    refine g_iload_n Z dX2_find_19 rfl ?_
    refine g_aald10 Z dX2_find_20 (by assumption) (by assumption) (by exact vin_of hitl (by omega) (by decide)) (by rw [hcl]; exact hc) ?_
    refine g_goto Z 25 dX2_find_21 (by decide) ?_
    exact g_aret Z rfl (Or.inl ⟨_, rfl⟩) dX2_find_25 (by omega) (by omega) (⟨rfl, Or.inr ⟨c, rfl, hcr⟩⟩)
