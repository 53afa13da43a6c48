set_option maxRecDepth 100000 in
set_option maxHeartbeats 2000000 in
/-- the key at a place; beyond them 65536 -/
theorem f_X2_keyAt (l : Launch) (D : va_G) (cy : Nat → ClassId) (nw : Nat) (S : PS) (O : Nat → Nat) (b s it : Nat) (C : Nat → Nat) (V : Sv) (hv : SV S nw O b s it C V) (j : Nat) (hj : j < 2 ^ 31) : kI l yX2_keyAt wsX2_keyAt 0 0 D cy nw [.ref s, .int (nI j)] S (fun r T => S = T ∧ ((j < V.1 ∧ r = nI (V.2 j).1) ∨ (V.1 ≤ j ∧ r = nI 65536))) 0 0 := by
  refine enterI (cc := cX2_keyAt) (nL := 2) (ret := (some .int)) (by decide +kernel) rfl (Nat.le_of_ble_eq_true rfl) ?_
  intro F Z hl hR hD hcy hnw hnm
  subst hl hD hcy hnw
  have hRf : F.R.frames = 0 := by rw [hR]
  have hRc : F.R.cells = 0 := by rw [hR]
  have hRs : F.R.slots = 0 := by rw [hR]
  have hRl : F.R.locals = 0 := by rw [hR]
  have in1 : ∀ w ∈ u_ws RX1 TX1 4, w ∈ wsX2_keyAt := by decide +kernel
  have in2 : ∀ w ∈ u_ws RX2 TX2 2, w ∈ wsX2_keyAt := by decide +kernel
  have lk11 : Cond.fieldLink RX2 11 (TX2 0).1 (TX2 0).2.1 (TX2 0).2.2.1 ∈ wsX2_keyAt := by decide +kernel
  have lk18 : Cond.fieldLink RX2 18 (TX2 1).1 (TX2 1).2.1 (TX2 1).2.2.1 ∈ wsX2_keyAt := by decide +kernel
  have lk26 : Cond.fieldLink RX2 26 (TX1 0).1 (TX1 0).2.1 (TX1 0).2.2.1 ∈ wsX2_keyAt := by decide +kernel
  have ct29 : Cond.constant RX2 29 (65536) ∈ wsX2_keyAt := by decide +kernel
  have hs := hv.at
  obtain ⟨hsL, hsK, hsit, hitL, hitK, hitl, hsu, hu7, hsw, hsr⟩ := id hs
  refine g_iload_n Z dX2_keyAt_0 rfl ?_
  refine g_aload_n Z dX2_keyAt_1 rfl ?_
  refine g_geti Z 2 1 rfl (by decide) in2 lk18 dX2_keyAt_2 (by assumption) (by assumption) ?_
  rw [hsu]
  refine g_icmp_ge Z 20 dX2_keyAt_5 (by decide) (fun h5 => ?_) (fun h5 => ?_)
  · refine g_ldc (v := 65536) Z dX2_keyAt_20 ct29 ?_
    exact g_iret Z dX2_keyAt_22 (by omega) (by omega) (by first | exact ⟨rfl, Or.inl ⟨hlt, rfl⟩⟩ | exact ⟨rfl, Or.inr ⟨ge_t (by omega) (by omega) h5, rfl⟩⟩)
  · have hlt : j < V.1 := ge_f (by omega) (by omega) h5
    obtain ⟨w, hcq, ek, hk16, ed, et, ew⟩ := hv.cv (j := j) hlt
    obtain ⟨hcL, hcK, hww, hwL, hwK, hwl⟩ := id hcq
    have hcl : (nI j).toNatClampNeg = j := nI_clamp (by omega)
    refine g_aload_n Z dX2_keyAt_8 rfl ?_
    refine g_getr Z 2 0 rfl (by decide) in2 lk11 dX2_keyAt_9 (by assumption) (by assumption) (by assumption) ?_
    refine g_iload_n Z dX2_keyAt_12 rfl ?_
    refine g_aald10 Z dX2_keyAt_13 (by assumption) (by assumption) (by exact vin_of hitl (by omega) (by decide)) (by rw [hcl]; exact hv.rr (by omega)) ?_
    refine g_geti Z 1 0 rfl (by decide) in1 lk26 dX2_keyAt_14 (by assumption) (by assumption) ?_
    rw [ek]
    refine g_goto Z 22 dX2_keyAt_17 (by decide) ?_
    exact g_iret Z dX2_keyAt_22 (by omega) (by omega) (by first | exact ⟨rfl, Or.inl ⟨hlt, rfl⟩⟩ | exact ⟨rfl, Or.inr ⟨ge_t (by omega) (by omega) h5, rfl⟩⟩)

set_option maxRecDepth 100000 in
set_option maxHeartbeats 2000000 in
/-- where a key is or would come in -/
theorem f_X2_indexOf (l : Launch) (D : va_G) (cy : Nat → ClassId) (nw : Nat) (S : PS) (O : Nat → Nat) (b s it : Nat) (C : Nat → Nat) (V : Sv) (hv : SV S nw O b s it C V) (key : Nat) (hk : key < 65536) : kI l yX2_indexOf wsX2_indexOf 0 0 D cy nw [.ref s, .int (nI key)] S (fun r T => S = T ∧ ∃ j, IsIx V key j ∧ r = nI j) 0 0 := by
  refine enterI (cc := cX2_indexOf) (nL := 3) (ret := (some .int)) (by decide +kernel) rfl (Nat.le_of_ble_eq_true rfl) ?_
  intro F Z hl hR hD hcy hnw hnm
  subst hl hD hcy hnw
  have hRf : F.R.frames = 0 := by rw [hR]
  have hRc : F.R.cells = 0 := by rw [hR]
  have hRs : F.R.slots = 0 := by rw [hR]
  have hRl : F.R.locals = 0 := by rw [hR]
  have in1 : ∀ w ∈ u_ws RX1 TX1 4, w ∈ wsX2_indexOf := by decide +kernel
  have in2 : ∀ w ∈ u_ws RX2 TX2 2, w ∈ wsX2_indexOf := by decide +kernel
  have lk11 : Cond.fieldLink RX2 11 (TX2 0).1 (TX2 0).2.1 (TX2 0).2.2.1 ∈ wsX2_indexOf := by decide +kernel
  have lk18 : Cond.fieldLink RX2 18 (TX2 1).1 (TX2 1).2.1 (TX2 1).2.2.1 ∈ wsX2_indexOf := by decide +kernel
  have lk26 : Cond.fieldLink RX2 26 (TX1 0).1 (TX1 0).2.1 (TX1 0).2.2.1 ∈ wsX2_indexOf := by decide +kernel
  have hs := hv.at
  obtain ⟨hsL, hsK, hsit, hitL, hitK, hitl, hsu, hu7, hsw, hsr⟩ := id hs
  have loop : ∀ (n : Nat) (j : Nat), 8 - j < n → (j ≤ V.1 ∧ ∀ i, i < j → (V.2 i).1 < key) → G F 3 S 0 0 (QI F (fun r T => S = T ∧ ∃ j, IsIx V key j ∧ r = nI j) 0 0) 2 [(0, .ref s), (1, .int (nI key)), (2, .int (nI j))] [] := by
    intro n
    induction n with
    | zero => intros; omega
    | succ n ih =>
      intro j hn ⟨hj, hb⟩
      refine g_iload_n Z dX2_indexOf_2 rfl ?_
      refine g_aload_n Z dX2_indexOf_3 rfl ?_
      refine g_geti Z 2 1 rfl (by decide) in2 lk18 dX2_indexOf_4 (by assumption) (by assumption) ?_
      rw [hsu]
      refine g_icmp_ge Z 29 dX2_indexOf_7 (by decide) (fun h7 => ?_) (fun h7 => ?_)
      · have hje : V.1 ≤ j := ge_t (by omega) (by omega) h7
        have hix : IsIx V key j := ⟨hj, hb, fun h => by omega⟩
        refine g_iload_n Z dX2_indexOf_29 rfl ?_
        exact g_iret Z dX2_indexOf_30 (by omega) (by omega) (⟨rfl, j, hix, rfl⟩)
      · have hlt : j < V.1 := ge_f (by omega) (by omega) h7
        obtain ⟨w, hcq, ek, hk16, ed, et, ew⟩ := hv.cv (j := j) hlt
        obtain ⟨hcL, hcK, hww, hwL, hwK, hwl⟩ := id hcq
        have hcl : (nI j).toNatClampNeg = j := nI_clamp (by omega)
        refine g_aload_n Z dX2_indexOf_10 rfl ?_
        refine g_getr Z 2 0 rfl (by decide) in2 lk11 dX2_indexOf_11 (by assumption) (by assumption) (by assumption) ?_
        refine g_iload_n Z dX2_indexOf_14 rfl ?_
        refine g_aald10 Z dX2_indexOf_15 (by assumption) (by assumption) (by exact vin_of hitl (by omega) (by decide)) (by rw [hcl]; exact hv.rr (by omega)) ?_
        refine g_geti Z 1 0 rfl (by decide) in1 lk26 dX2_indexOf_16 (by assumption) (by assumption) ?_
        rw [ek]
        refine g_iload_n Z dX2_indexOf_19 rfl ?_
        refine g_icmp_ge Z 29 dX2_indexOf_20 (by decide) (fun h20 => ?_) (fun h20 => ?_)
        · have hix : IsIx V key j := ⟨hj, hb, fun _ => ge_t (by omega) (by omega) h20⟩
          refine g_iload_n Z dX2_indexOf_29 rfl ?_
          exact g_iret Z dX2_indexOf_30 (by omega) (by omega) (⟨rfl, j, hix, rfl⟩)
        · have hkl : (V.2 j).1 < key := ge_f (by omega) (by omega) h20
          refine g_iinc (c := 1) Z dX2_indexOf_23 rfl (by decide) (by decide) ?_
          rw [nI_1]
          refine g_goto Z 2 dX2_indexOf_26 (by decide) ?_
          exact g_lv (by (repeat (first | exact trivial | refine And.intro rfl ?_)); done) (ih (j + 1) (by omega) ⟨by omega, fun i hi => by
            by_cases e : i = j
            · subst e; exact hkl
            · exact hb i (by omega)⟩)
  refine g_iconst (v := 0) Z dX2_indexOf_0 (by decide) ?_
  refine g_istore_n Z dX2_indexOf_1 (by decide) ?_
  exact g_lv (by (repeat (first | exact trivial | refine And.intro rfl ?_)); done) (loop 9 0 (by omega) ⟨by omega, fun i hi => by omega⟩)

set_option maxRecDepth 100000 in
set_option maxHeartbeats 2000000 in
/-- the container of a key -/
theorem f_X2_find (l : Launch) (D : va_G) (cy : Nat → ClassId) (nw : Nat) (S : PS) (O : Nat → Nat) (b s it : Nat) (C : Nat → Nat) (V : Sv) (hv : SV S nw O b s it C V) (key : Nat) (hk : key < 65536) : kR l yX2_find wsX2_find 1 22 D cy nw [.ref s, .int (nI key)] S (fun r T => S = T ∧ ((∃ i, i < V.1 ∧ (V.2 i).1 = key ∧ r = some (C i)) ∨ (r = none ∧ ∃ i, IsIx V key i ∧ (i < V.1 → (V.2 i).1 ≠ key)))) 0 0 := by
  refine enterR (cc := cX2_find) (nL := 3) (ret := (some (.object "RoaringIndex$Container"))) (by decide +kernel) rfl (Nat.le_of_ble_eq_true rfl) ?_
  intro F Z hl hR hD hcy hnw hnm
  subst hl hD hcy hnw
  have hRf : F.R.frames = 1 := by rw [hR]
  have hRc : F.R.cells = 0 := by rw [hR]
  have hRs : F.R.slots = 0 := by rw [hR]
  have hRl : F.R.locals = 22 := by rw [hR]
  have in2 : ∀ w ∈ u_ws RX2 TX2 2, w ∈ wsX2_find := by decide +kernel
  have lk11 : Cond.fieldLink RX2 11 (TX2 0).1 (TX2 0).2.1 (TX2 0).2.2.1 ∈ wsX2_find := by decide +kernel
  have hs := hv.at
  obtain ⟨hsL, hsK, hsit, hitL, hitK, hitl, hsu, hu7, hsw, hsr⟩ := id hs
  refine g_aload_n Z dX2_find_0 rfl ?_
  refine g_iload_n Z dX2_find_1 rfl ?_
  refine g_cvI Z (f_X2_indexOf F.l F.D F.cy F.nw S O b s it C V hv key hk) 1 gX2_find_X2_indexOf rfl (by decide +kernel) (by rw [hRf, hRl]; decide) (by assumption) (κ := 2) (by assumption) rfl (by decide) rfl rfl (Nat.le_of_ble_eq_true rfl) dX2_find_2 (by rw [hRc, hRs]; omega) (fun r T hp => ?_)
  obtain ⟨rfl, j, hix, rfl⟩ := hp
  have hj := hix.1
  refine g_istore_n Z dX2_find_5 (by decide) ?_
  refine g_aload_n Z dX2_find_6 rfl ?_
  refine g_iload_n Z dX2_find_7 rfl ?_
  refine g_cvI Z (f_X2_keyAt F.l F.D F.cy F.nw S O b s it C V hv j (by omega)) 1 gX2_find_X2_keyAt rfl (by decide +kernel) (by rw [hRf, hRl]; decide) (by assumption) (κ := 2) (by assumption) rfl (by decide) rfl rfl (Nat.le_of_ble_eq_true rfl) dX2_find_8 (by rw [hRc, hRs]; omega) (fun r T hp => ?_)
  obtain ⟨rfl, hp2⟩ := hp
  refine g_iload_n Z dX2_find_11 rfl ?_
  refine g_icmp_ne Z 24 dX2_find_12 (by decide) (fun h12 => ?_) (fun h12 => ?_)
  · have hno : j < V.1 → (V.2 j).1 ≠ key := by
      intro hl he
      rcases hp2 with ⟨-, e⟩ | ⟨h, -⟩
      · exact h12 (by rw [e, he])
      · omega
    refine g_null Z dX2_find_24 ?_
    exact g_aretN Z rfl (Or.inl ⟨_, rfl⟩) dX2_find_25 (by omega) (by omega) ⟨rfl, Or.inr ⟨rfl, j, hix, hno⟩⟩
  · have hlt : j < V.1 ∧ (V.2 j).1 = key := by
      rcases hp2 with ⟨h, e⟩ | ⟨-, e⟩
      · rw [e] at h12; exact ⟨h, (nI_eq (by have := (hv.cv h).choose_spec.2.2.1; omega) (by omega)).mp h12⟩
      · rw [e] at h12; exact absurd h12 (ne_k hk)
    obtain ⟨hlt, hkey⟩ := hlt
    have hcl : (nI j).toNatClampNeg = j := nI_clamp (by omega)
    refine g_aload_n Z dX2_find_15 rfl ?_
    refine g_getr Z 2 0 rfl (by decide) in2 lk11 dX2_find_16 (by assumption) (by assumption) (by assumption) ?_
    refine g_iload_n Z dX2_find_19 rfl ?_
    refine g_aald10 Z dX2_find_20 (by assumption) (by assumption) (by exact vin_of hitl (by omega) (by decide)) (by rw [hcl]; exact hv.rr (by omega)) ?_
    refine g_goto Z 25 dX2_find_21 (by decide) ?_
    exact g_aret Z rfl (Or.inl ⟨_, rfl⟩) dX2_find_25 (by omega) (by omega) (⟨rfl, Or.inl ⟨j, hlt, hkey, rfl⟩⟩)

/-- a container comes in ahead of others -/
def pIn (j u : Nat) : Nat → Nat := fun k => if k < j then k else if k = j then u else if k ≤ u then k - 1 else k
theorem pIn_lt {j u : Nat} (hj : j ≤ u) (hu : u < 7) : ∀ i, i < 7 → pIn j u i < 7 := by
  intro i hi
  unfold pIn
  by_cases h1 : i < j
  · rw [if_pos h1]; omega
  · rw [if_neg h1]
    by_cases h2 : i = j
    · rw [if_pos h2]; omega
    · rw [if_neg h2]
      by_cases h3 : i ≤ u
      · rw [if_pos h3]; omega
      · rw [if_neg h3]; omega
theorem pIn_inj {j u : Nat} (hj : j ≤ u) : ∀ a b, a < 7 → b < 7 → pIn j u a = pIn j u b → a = b := by
  intro a b _ _ h
  unfold pIn at h
  split at h <;> split at h <;> (try split at h) <;> (try split at h) <;> (try split at h) <;> (try split at h) <;> omega
theorem pIn_row {S : PS} {it j u : Nat} (hj : j ≤ u) {c : Nat} (hc : S.rr it u = some c) (i : Nat) : va_up (shf (S.rr it) j u) j (some c) i = S.rr it (pIn j u i) := by
  unfold va_up shf pIn
  by_cases h1 : i = j
  · subst h1
    rw [if_pos rfl, if_neg (Nat.lt_irrefl _), if_pos rfl, hc]
  · rw [if_neg h1]
    by_cases h2 : i < j
    · rw [if_pos h2, if_neg (by omega)]
    · rw [if_neg h2, if_neg h1]
      by_cases h3 : i ≤ u
      · rw [if_pos h3, if_pos (by omega)]
      · rw [if_neg h3, if_neg (by omega)]
def zW : Nat → Int64 := fun _ => 0
theorem tot_zW : tot zW = 0 := (tot_ct zW).trans (ct_zero _ (fun k _ => by rw [cbz]; show wv 0 / _ % 2 = 0; rw [show wv 0 = 0 from rfl]; simp))
theorem fom_sv {S S1 : PS} {nw : Nat} {O : Nat → Nat} {b s it : Nat} {C : Nat → Nat} {V : Sv} (hv : SV S nw O b s it C V) {key j w : Nat} {R : Nat → Int64} (hu : V.1 < 6) (hj : j ≤ V.1) (hk : key < 65536)
    (hrm : Rm nw ((S.rowR it (va_up (shf (S.rr it) j V.1) j (some (C V.1)))).setI s 1 (nI (V.1 + 1))) (C V.1) S1 w) (hR : ∀ i, i < 1024 → R i = 0) (hnT : nw ∉ (CS S1 (C V.1) w (nI key) 0 0 R).L) :
    (∀ a ∈ S.L, va_up O w b a = O a) ∧ Kp (fun a => O a = b ∨ a = s) S (CS S1 (C V.1) w (nI key) 0 0 R) ∧ SV (CS S1 (C V.1) w (nI key) 0 0 R) nw (va_up O w b) b s it (fun i => C (pIn j V.1 i)) (V.ins j (key, 0, zW)) := by
  obtain ⟨h1, h2, h3, h4, h5, hB, h7⟩ := id hv
  have hrow := fun i (_ : i < 7) => pIn_row (S := S) (it := it) hj (hv.rr (j := V.1) (by omega)) i
  obtain ⟨hB2, hC2, hK2⟩ := hB.perm (s := s) (v := nI (V.1 + 1)) h2 (pIn j V.1) (pIn_lt hj (by omega)) (pIn_inj hj) hrow
  have ej : C V.1 = C (pIn j V.1 j) := by
    unfold pIn
    rw [if_neg (Nat.lt_irrefl _), if_pos rfl]
  have hrm2 : Rm nw ((S.rowR it (va_up (shf (S.rr it) j V.1) j (some (C V.1)))).setI s 1 (nI (V.1 + 1))) (C (pIn j V.1 j)) S1 w := by rw [← ej]; exact hrm
  obtain ⟨a1, a2, a3, a4, a5, a6, a7⟩ := hB2.chg (s := s) (i := j) (k := key) (d := 0) (v := 0) (R := R) h1 h2 (by omega) hrm2 hk (by rw [← ej]; exact hnT)
  rw [ej]
  refine ⟨a1, hK2.tr (a2.mono (fun a _ h => Or.inl h)), a6, a7.1.trans h2, by rw [a7.2.2.1]; exact h3, by rw [a7.2.1]; exact up2_self _ _ _ _, by show V.1 + 1 ≤ 7; omega, a3, fun i hi => ?_⟩
  have hi2 : i < V.1 + 1 := hi
  show Cv _ (C (pIn j V.1 i)) (if i < j then V.2 i else if i = j then (key, 0, zW) else V.2 (i - 1))
  by_cases e : i = j
  · subst e
    rw [if_neg (Nat.lt_irrefl _), if_pos rfl]
    exact ⟨w, a4, CS_g0, hk, CS_g1, by rw [CS_g2, tot_zW]; rfl, fun q hq => by rw [CS_gR]; exact hR q hq⟩
  · refine a5 i (by omega) e _ (hC2 _ (pIn_lt hj (by omega) i (by omega)) _ ?_)
    unfold pIn
    by_cases h : i < j
    · rw [if_pos h, if_pos h]; exact h7 i (by omega)
    · rw [if_neg h, if_neg e, if_pos (by omega), if_neg h, if_neg e]; exact h7 (i - 1) (by omega)

set_option maxRecDepth 100000 in
set_option maxHeartbeats 2000000 in
/-- the container of a key, made if there is none -/
theorem f_X2_findOrMake (l : Launch) (D : va_G) (cy : Nat → ClassId) (nw : Nat) (S : PS) (O : Nat → Nat) (b s it : Nat) (C : Nat → Nat) (V : Sv) (hv : SV S nw O b s it C V) (key : Nat) (hk : key < 65536) : kR l yX2_findOrMake wsX2_findOrMake 2 45 D cy nw [.ref s, .int (nI key)] S (fun r T => (r = none ∧ S = T ∧ 6 ≤ V.1 ∧ ∃ i, IsIx V key i ∧ (i < V.1 → (V.2 i).1 ≠ key)) ∨ (S = T ∧ ∃ i, i < V.1 ∧ (V.2 i).1 = key ∧ r = some (C i)) ∨ (V.1 < 6 ∧ ∃ i O2 C2, IsIx V key i ∧ (i < V.1 → (V.2 i).1 ≠ key) ∧ r = some (C2 i) ∧ (∀ a ∈ S.L, O2 a = O a) ∧ Kp (fun a => O a = b ∨ a = s) S T ∧ SV T nw O2 b s it C2 (V.ins i (key, 0, zW)))) 1 1024 := by
  refine enterR (cc := cX2_findOrMake) (nL := 5) (ret := (some (.object "RoaringIndex$Container"))) (by decide +kernel) rfl (Nat.le_of_ble_eq_true rfl) ?_
  intro F Z hl hR hD hcy hnw hnm
  subst hl hD hcy hnw
  have hRf : F.R.frames = 2 := by rw [hR]
  have hRc : F.R.cells = 1 := by rw [hR]
  have hRs : F.R.slots = 1024 := by rw [hR]
  have hRl : F.R.locals = 45 := by rw [hR]
  have in2 : ∀ w ∈ u_ws RX2 TX2 2, w ∈ wsX2_findOrMake := by decide +kernel
  have lk11 : Cond.fieldLink RX2 11 (TX2 0).1 (TX2 0).2.1 (TX2 0).2.2.1 ∈ wsX2_findOrMake := by decide +kernel
  have lk18 : Cond.fieldLink RX2 18 (TX2 1).1 (TX2 1).2.1 (TX2 1).2.2.1 ∈ wsX2_findOrMake := by decide +kernel
  have hs := hv.at
  obtain ⟨hsL, hsK, hsit, hitL, hitK, hitl, hsu, hu7, hsw, hsr⟩ := id hs
  refine g_aload_n Z dX2_findOrMake_0 rfl ?_
  refine g_iload_n Z dX2_findOrMake_1 rfl ?_
  refine g_cvI Z (f_X2_indexOf F.l F.D F.cy F.nw S O b s it C V hv key hk) 1 gX2_findOrMake_X2_indexOf rfl (by decide +kernel) (by rw [hRf, hRl]; decide) (by assumption) (κ := 2) (by assumption) rfl (by decide) rfl rfl (Nat.le_of_ble_eq_true rfl) dX2_findOrMake_2 (by rw [hRc, hRs]; omega) (fun r T hp => ?_)
  obtain ⟨rfl, j, hix, rfl⟩ := hp
  have hj := hix.1
  refine g_istore_n Z dX2_findOrMake_5 (by decide) ?_
  refine g_aload_n Z dX2_findOrMake_6 rfl ?_
  refine g_iload_n Z dX2_findOrMake_7 rfl ?_
  refine g_cvI Z (f_X2_keyAt F.l F.D F.cy F.nw S O b s it C V hv j (by omega)) 1 gX2_findOrMake_X2_keyAt rfl (by decide +kernel) (by rw [hRf, hRl]; decide) (by assumption) (κ := 2) (by assumption) rfl (by decide) rfl rfl (Nat.le_of_ble_eq_true rfl) dX2_findOrMake_8 (by rw [hRc, hRs]; omega) (fun r T hp => ?_)
  obtain ⟨rfl, hp2⟩ := hp
  refine g_iload_n Z dX2_findOrMake_11 rfl ?_
  refine g_icmp_ne Z 22 dX2_findOrMake_12 (by decide) (fun h12 => ?_) (fun h12 => ?_)
  · have hno : j < V.1 → (V.2 j).1 ≠ key := by
      intro hl he
      rcases hp2 with ⟨-, e⟩ | ⟨h, -⟩
      · exact h12 (by rw [e, he])
      · omega
    refine g_aload_n Z dX2_findOrMake_22 rfl ?_
    refine g_geti Z 2 1 rfl (by decide) in2 lk18 dX2_findOrMake_23 (by assumption) (by assumption) ?_
    rw [hsu]
    refine g_bipush (v := 6) Z dX2_findOrMake_26 (by decide) ?_
    refine g_icmp_lt Z 33 dX2_findOrMake_28 (by decide) (fun h28 => ?_) (fun h28 => ?_)
    · have hu6 : V.1 < 6 := lt_t (by omega) (by decide) h28
      have hc := hv.rr (j := V.1) (by omega)
      have hcw := hv.cw (j := V.1) (by omega)
      obtain ⟨hcL, hcK, -, -⟩ := id hcw
      have hclu : (nI V.1).toNatClampNeg = V.1 := nI_clamp (by omega)
      refine g_aload_n Z dX2_findOrMake_33 rfl ?_
      refine g_getr Z 2 0 rfl (by decide) in2 lk11 dX2_findOrMake_34 (by assumption) (by assumption) (by assumption) ?_
      refine g_aload_n Z dX2_findOrMake_37 rfl ?_
      refine g_geti Z 2 1 rfl (by decide) in2 lk18 dX2_findOrMake_38 (by assumption) (by assumption) ?_
      rw [hsu]
      refine g_aald10 Z dX2_findOrMake_41 (by assumption) (by assumption) (by exact vin_of hitl (by omega) (by decide)) (by rw [hclu]; exact hc) ?_
      refine g_astore_n Z dX2_findOrMake_42 (by decide) ?_
      refine g_aload_n Z dX2_findOrMake_43 rfl ?_
      refine g_geti Z 2 1 rfl (by decide) in2 lk18 dX2_findOrMake_44 (by assumption) (by assumption) ?_
      rw [hsu]
      refine g_istore Z dX2_findOrMake_47 (by decide) ?_
      have loop : ∀ (n k : Nat), k < n → (j ≤ k ∧ k ≤ V.1) → G F 5 (S.rowR it (shf (S.rr it) k V.1)) 0 0 (QR F (fun r T => (r = none ∧ S = T ∧ 6 ≤ V.1 ∧ ∃ i, IsIx V key i ∧ (i < V.1 → (V.2 i).1 ≠ key)) ∨ (S = T ∧ ∃ i, i < V.1 ∧ (V.2 i).1 = key ∧ r = some (C i)) ∨ (V.1 < 6 ∧ ∃ i O2 C2, IsIx V key i ∧ (i < V.1 → (V.2 i).1 ≠ key) ∧ r = some (C2 i) ∧ (∀ a ∈ S.L, O2 a = O a) ∧ Kp (fun a => O a = b ∨ a = s) S T ∧ SV T F.nw O2 b s it C2 (V.ins i (key, 0, zW)))) 1 1024) 49 [(0, .ref s), (1, .int (nI key)), (2, .int (nI j)), (3, .ref (C V.1)), (4, .int (nI k))] [] := by
        intro n
        induction n with
        | zero => intros; omega
        | succ n ih =>
          intro k hn ⟨hjk, hku⟩
          refine g_iload Z dX2_findOrMake_49 rfl ?_
          refine g_iload_n Z dX2_findOrMake_51 rfl ?_
          refine g_icmp_le Z 77 dX2_findOrMake_52 (by decide) (fun h52 => ?_) (fun h52 => ?_)
          · have hk2 : k = j := by have := le_t (by omega) (by omega) h52; omega
            subst hk2
            refine g_aload_n Z dX2_findOrMake_77 rfl ?_
            refine g_getr Z 2 0 rfl (by decide) in2 lk11 dX2_findOrMake_78 (by assumption) (by assumption) (by assumption) ?_
            refine g_iload_n Z dX2_findOrMake_81 rfl ?_
            refine g_aload_n Z dX2_findOrMake_82 rfl ?_
            refine g_aast10 Z dX2_findOrMake_83 (by assumption) (by assumption) (by exact vin_of hitl (by omega) (by decide)) (by assumption) (by assumption) ?_
            rw [show (nI k).toNatClampNeg = k from nI_clamp (by omega), rowR_step]
            refine g_aload_n Z dX2_findOrMake_84 rfl ?_
            refine g_dup Z dX2_findOrMake_85 rfl ?_
            refine g_geti Z 2 1 rfl (by decide) in2 lk18 dX2_findOrMake_86 (by assumption) (by assumption) ?_
            rw [show PS.fi (PS.rowR S it _) s 1 = nI V.1 from hsu]
            refine g_iconst (v := 1) Z dX2_findOrMake_89 (by decide) ?_
            refine g_iadd Z dX2_findOrMake_90 ?_
            rw [nI_1]
            refine g_puti Z 2 1 rfl (by decide) tyX2 tyX2_ok nmX2 rfl in2 lk18 dX2_findOrMake_91 rfl rfl (by assumption) (by assumption) ?_
            refine g_aload_n Z dX2_findOrMake_94 rfl ?_
            refine g_iload_n Z dX2_findOrMake_95 rfl ?_
            have hcw2 : Cw ((S.rowR it (va_up (shf (S.rr it) k V.1) k (some (C V.1)))).setI s 1 (nI (V.1 + 1))) F.nw (C V.1) := cw_same (S := S) rfl rfl rfl (fun _ => ⟨rfl, up2_ne _ _ (Or.inr (by decide))⟩) hcw
            refine g_cvV Z (f_X1_begin F.l F.D F.cy F.nw _ (C V.1) hcw2.1 hcw2.2.1 hcw2.ww (nI key)) 1 gX2_findOrMake_X1_begin rfl (by decide +kernel) (by rw [hRf, hRl]; decide) (by assumption) (κ := 1) (by assumption) rfl (by decide) rfl rfl (Nat.le_of_ble_eq_true rfl) dX2_findOrMake_96 (by rw [hRc, hRs]; omega) (fun T hp => ?_)
            obtain ⟨S1, w, R, hrm, hR0, rfl⟩ := hp
            refine g_nw Z (fun hnT => ?_)
            obtain ⟨b1, b2, b3⟩ := fom_sv hv hu6 hj hk hrm hR0 hnT
            refine g_aload_n Z dX2_findOrMake_99 rfl ?_
            exact g_aret Z rfl (Or.inl ⟨_, rfl⟩) dX2_findOrMake_100 (by omega) (by omega) (Or.inr (Or.inr ⟨hu6, k, _, _, hix, hno, by show some (C V.1) = some (C (pIn k V.1 k)); unfold pIn; rw [if_neg (Nat.lt_irrefl _), if_pos rfl], b1, b2, b3⟩))
          · have hk2 : j < k := le_f (by omega) (by omega) h52
            have hvr := hv.rr (j := k - 1) (by omega)
            have hvw := hv.cw (j := k - 1) (by omega)
            have hclk : (nI k).toNatClampNeg = k := nI_clamp (by omega)
            have hclk1 : (nI (k - 1)).toNatClampNeg = k - 1 := nI_clamp (by omega)
            refine g_aload_n Z dX2_findOrMake_55 rfl ?_
            refine g_getr Z 2 0 rfl (by decide) in2 lk11 dX2_findOrMake_56 (by assumption) (by assumption) (by assumption) ?_
            refine g_iload Z dX2_findOrMake_59 rfl ?_
            refine g_aload_n Z dX2_findOrMake_61 rfl ?_
            refine g_getr Z 2 0 rfl (by decide) in2 lk11 dX2_findOrMake_62 (by assumption) (by assumption) (by assumption) ?_
            refine g_iload Z dX2_findOrMake_65 rfl ?_
            refine g_iconst (v := 1) Z dX2_findOrMake_67 (by decide) ?_
            refine g_isub Z dX2_findOrMake_68 ?_
            rw [show nI k - 1 = nI (k - 1) from pk_sub (a := k) (b := 1) (by omega)]
            refine g_aald10 Z dX2_findOrMake_69 (by assumption) (by assumption) (by exact vin_of hitl (by omega) (by decide)) (by rw [hclk1]; show va_up S.rr it _ it _ = _; rw [va_up_self, shf_lo _ (by omega)]; exact hvr) ?_
            refine g_aast10 Z dX2_findOrMake_70 (by assumption) (by assumption) (by exact vin_of hitl (by omega) (by decide)) (by exact hvw.1) (by exact hvw.2.1) ?_
            rw [hclk, rowR_step, show some (C (k - 1)) = S.rr it (k - 1) from hvr.symm, shf_s _ (by omega) hku]
            refine g_iinc (c := (-1)) Z dX2_findOrMake_71 rfl (by decide) (by decide) ?_
            rw [sb_m1 (by omega)]
            refine g_goto Z 49 dX2_findOrMake_74 (by decide) ?_
            exact g_lv (by (repeat (first | exact trivial | refine And.intro rfl ?_)); done) (ih (k - 1) (by omega) ⟨by omega, by omega⟩)
      have h0 := loop (V.1 + 1) V.1 (by omega) ⟨hj, by omega⟩
      rw [shf_0, rowR_self] at h0
      exact g_lv (by (repeat (first | exact trivial | refine And.intro rfl ?_)); done) h0
    · have hu6 : 6 ≤ V.1 := lt_f (by omega) (by decide) h28
      refine g_null Z dX2_findOrMake_31 ?_
      exact g_aretN Z rfl (Or.inl ⟨_, rfl⟩) dX2_findOrMake_32 (by omega) (by omega) (Or.inl ⟨rfl, rfl, hu6, j, hix, hno⟩)
  · have hlt : j < V.1 ∧ (V.2 j).1 = key := by
      rcases hp2 with ⟨h, e⟩ | ⟨-, e⟩
      · rw [e] at h12; exact ⟨h, (nI_eq (by have := (hv.cv h).choose_spec.2.2.1; omega) (by omega)).mp h12⟩
      · rw [e] at h12; exact absurd h12 (ne_k hk)
    obtain ⟨hlt, hkey⟩ := hlt
    have hcl : (nI j).toNatClampNeg = j := nI_clamp (by omega)
    refine g_aload_n Z dX2_findOrMake_15 rfl ?_
    refine g_getr Z 2 0 rfl (by decide) in2 lk11 dX2_findOrMake_16 (by assumption) (by assumption) (by assumption) ?_
    refine g_iload_n Z dX2_findOrMake_19 rfl ?_
    refine g_aald10 Z dX2_findOrMake_20 (by assumption) (by assumption) (by exact vin_of hitl (by omega) (by decide)) (by rw [hcl]; exact hv.rr (by omega)) ?_
    exact g_aret Z rfl (Or.inl ⟨_, rfl⟩) dX2_findOrMake_21 (by omega) (by omega) (Or.inr (Or.inl ⟨rfl, j, hlt, hkey, rfl⟩))

/-- a container goes out -/
def pOut (j u : Nat) : Nat → Nat := fun k => if k < j then k else if k + 1 < u then k + 1 else if k + 1 = u then j else k
theorem pOut_lt {j u : Nat} (hj : j < u) (hu : u ≤ 7) : ∀ i, i < 7 → pOut j u i < 7 := by
  intro i hi
  unfold pOut
  by_cases h1 : i < j
  · rw [if_pos h1]; omega
  · rw [if_neg h1]
    by_cases h2 : i + 1 < u
    · rw [if_pos h2]; omega
    · rw [if_neg h2]
      by_cases h3 : i + 1 = u
      · rw [if_pos h3]; omega
      · rw [if_neg h3]; omega
theorem pOut_inj {j u : Nat} (hj : j < u) : ∀ a b, a < 7 → b < 7 → pOut j u a = pOut j u b → a = b := by
  intro a b _ _ h
  unfold pOut at h
  split at h <;> split at h <;> (try split at h) <;> (try split at h) <;> (try split at h) <;> (try split at h) <;> omega
theorem pOut_row {S : PS} {it j u : Nat} (hj : j < u) (i : Nat) : va_up (shd (S.rr it) j (u - 1)) (u - 1) (S.rr it j) i = S.rr it (pOut j u i) := by
  unfold va_up shd pOut
  by_cases h1 : i = u - 1
  · rw [if_pos h1]
    by_cases h2 : i < j
    · omega
    · rw [if_neg h2, if_neg (by omega), if_pos (by omega)]
  · rw [if_neg h1]
    by_cases h2 : i < j
    · rw [if_pos h2, if_neg (by omega)]
    · rw [if_neg h2]
      by_cases h3 : i + 1 < u
      · rw [if_pos h3, if_pos (by omega)]
      · rw [if_neg h3, if_neg (by omega), if_neg (by omega)]
theorem lo_sv {S : PS} {nw : Nat} {O : Nat → Nat} {b s it : Nat} {C : Nat → Nat} {V : Sv} (hv : SV S nw O b s it C V) {j : Nat} (hj : j < V.1) :
    Kp (fun a => O a = b ∨ a = s) S ((S.rowR it (va_up (shd (S.rr it) j (V.1 - 1)) (V.1 - 1) (S.rr it j))).setI s 1 (nI (V.1 - 1))) ∧ SV ((S.rowR it (va_up (shd (S.rr it) j (V.1 - 1)) (V.1 - 1) (S.rr it j))).setI s 1 (nI (V.1 - 1))) nw O b s it (fun i => C (pOut j V.1 i)) (V.del j) := by
  obtain ⟨h1, h2, h3, h4, h5, hB, h7⟩ := id hv
  obtain ⟨hB2, hC2, hK2⟩ := hB.perm (s := s) (v := nI (V.1 - 1)) h2 (pOut j V.1) (pOut_lt hj h5) (pOut_inj hj) (fun i _ => pOut_row (S := S) (it := it) hj i)
  refine ⟨hK2, h1, h2, h3, up2_self _ _ _ _, by show V.1 - 1 ≤ 7; omega, hB2, fun i hi => ?_⟩
  have hi2 : i < V.1 - 1 := hi
  show Cv _ (C (pOut j V.1 i)) (if i < j then V.2 i else V.2 (i + 1))
  refine hC2 _ (pOut_lt hj h5 i (by omega)) _ ?_
  unfold pOut
  by_cases h : i < j
  · rw [if_pos h, if_pos h]; exact h7 i (by omega)
  · rw [if_neg h, if_pos (by omega), if_neg h]; exact h7 (i + 1) (by omega)

set_option maxRecDepth 100000 in
set_option maxHeartbeats 2000000 in
/-- the container of a key goes out -/
theorem f_X2_leaveOut (l : Launch) (D : va_G) (cy : Nat → ClassId) (nw : Nat) (S : PS) (O : Nat → Nat) (b s it : Nat) (C : Nat → Nat) (V : Sv) (hv : SV S nw O b s it C V) (key i0 : Nat) (hk : key < 65536) (hsr0 : Srt V) (hi0 : i0 < V.1) (hk0 : (V.2 i0).1 = key) : kV l yX2_leaveOut wsX2_leaveOut 1 22 D cy nw [.ref s, .int (nI key)] S (fun T => ∃ C2, Kp (fun a => O a = b ∨ a = s) S T ∧ SV T nw O b s it C2 (V.del i0)) 0 0 := by
  refine enterV (cc := cX2_leaveOut) (nL := 5) (ret := none) (by decide +kernel) rfl (Nat.le_of_ble_eq_true rfl) ?_
  intro F Z hl hR hD hcy hnw hnm
  subst hl hD hcy hnw
  have hRf : F.R.frames = 1 := by rw [hR]
  have hRc : F.R.cells = 0 := by rw [hR]
  have hRs : F.R.slots = 0 := by rw [hR]
  have hRl : F.R.locals = 22 := by rw [hR]
  have in2 : ∀ w ∈ u_ws RX2 TX2 2, w ∈ wsX2_leaveOut := by decide +kernel
  have lk11 : Cond.fieldLink RX2 11 (TX2 0).1 (TX2 0).2.1 (TX2 0).2.2.1 ∈ wsX2_leaveOut := by decide +kernel
  have lk18 : Cond.fieldLink RX2 18 (TX2 1).1 (TX2 1).2.1 (TX2 1).2.2.1 ∈ wsX2_leaveOut := by decide +kernel
  have hs := hv.at
  obtain ⟨hsL, hsK, hsit, hitL, hitK, hitl, hsu, hu7, hsw, hsr⟩ := id hs
  refine g_aload_n Z dX2_leaveOut_0 rfl ?_
  refine g_iload_n Z dX2_leaveOut_1 rfl ?_
  refine g_cvI Z (f_X2_indexOf F.l F.D F.cy F.nw S O b s it C V hv key hk) 1 gX2_leaveOut_X2_indexOf rfl (by decide +kernel) (by rw [hRf, hRl]; decide) (by assumption) (κ := 2) (by assumption) rfl (by decide) rfl rfl (Nat.le_of_ble_eq_true rfl) dX2_leaveOut_2 (by rw [hRc, hRs]; omega) (fun r T hp => ?_)
  obtain ⟨rfl, j, hix, rfl⟩ := hp
  obtain rfl : j = i0 := hix.uniq hsr0 hi0 hk0
  refine g_istore_n Z dX2_leaveOut_5 (by decide) ?_
  refine g_aload_n Z dX2_leaveOut_6 rfl ?_
  refine g_iload_n Z dX2_leaveOut_7 rfl ?_
  refine g_cvI Z (f_X2_keyAt F.l F.D F.cy F.nw S O b s it C V hv j (by omega)) 1 gX2_leaveOut_X2_keyAt rfl (by decide +kernel) (by rw [hRf, hRl]; decide) (by assumption) (κ := 2) (by assumption) rfl (by decide) rfl rfl (Nat.le_of_ble_eq_true rfl) dX2_leaveOut_8 (by rw [hRc, hRs]; omega) (fun r T hp => ?_)
  obtain ⟨rfl, hp2⟩ := hp
  obtain ⟨-, rfl⟩ : j < V.1 ∧ r = nI (V.2 j).1 := by
    rcases hp2 with h | ⟨h, -⟩
    · exact h
    · omega
  refine g_iload_n Z dX2_leaveOut_11 rfl ?_
  refine g_icmp_eq Z 16 dX2_leaveOut_12 (by decide) (fun h12 => ?_) (fun h12 => absurd (by rw [hk0]) h12)
  have hcl : (nI j).toNatClampNeg = j := nI_clamp (by omega)
  obtain ⟨hcL, hcK, -, -⟩ := hv.cw (j := j) (by omega)
  refine g_aload_n Z dX2_leaveOut_16 rfl ?_
  refine g_getr Z 2 0 rfl (by decide) in2 lk11 dX2_leaveOut_17 (by assumption) (by assumption) (by assumption) ?_
  refine g_iload_n Z dX2_leaveOut_20 rfl ?_
  refine g_aald10 Z dX2_leaveOut_21 (by assumption) (by assumption) (by exact vin_of hitl (by omega) (by decide)) (by rw [hcl]; exact hv.rr (by omega)) ?_
  refine g_astore_n Z dX2_leaveOut_22 (by decide) ?_
  refine g_aload_n Z dX2_leaveOut_23 rfl ?_
  refine g_dup Z dX2_leaveOut_24 rfl ?_
  refine g_geti Z 2 1 rfl (by decide) in2 lk18 dX2_leaveOut_25 (by assumption) (by assumption) ?_
  rw [hsu]
  refine g_iconst (v := 1) Z dX2_leaveOut_28 (by decide) ?_
  refine g_isub Z dX2_leaveOut_29 ?_
  rw [show nI V.1 - 1 = nI (V.1 - 1) from pk_sub (a := V.1) (b := 1) (by omega)]
  refine g_puti Z 2 1 rfl (by decide) tyX2 tyX2_ok nmX2 rfl in2 lk18 dX2_leaveOut_30 rfl rfl (by assumption) (by assumption) ?_
  refine g_iload_n Z dX2_leaveOut_33 rfl ?_
  refine g_istore Z dX2_leaveOut_34 (by decide) ?_
  have loop : ∀ (n k : Nat), 7 - k < n → (j ≤ k ∧ k ≤ V.1 - 1) → G F 5 ((S.setI s 1 (nI (V.1 - 1))).rowR it (shd (S.rr it) j k)) 0 0 (QV F (fun T => ∃ C2, Kp (fun a => O a = b ∨ a = s) S T ∧ SV T F.nw O b s it C2 (V.del j)) 0 0) 36 [(0, .ref s), (1, .int (nI key)), (2, .int (nI j)), (3, .ref (C j)), (4, .int (nI k))] [] := by
    intro n
    induction n with
    | zero => intros; omega
    | succ n ih =>
      intro k hn ⟨hjk, hku⟩
      refine g_iload Z dX2_leaveOut_36 rfl ?_
      refine g_aload_n Z dX2_leaveOut_38 rfl ?_
      refine g_geti Z 2 1 rfl (by decide) in2 lk18 dX2_leaveOut_39 (by assumption) (by assumption) ?_
      rw [show PS.fi (PS.rowR (PS.setI S s 1 (nI (V.1 - 1))) it _) s 1 = nI (V.1 - 1) from up2_self _ _ _ _]
      refine g_icmp_ge Z 67 dX2_leaveOut_42 (by decide) (fun h42 => ?_) (fun h42 => ?_)
      · have hk2 : k = V.1 - 1 := by have := ge_t (by omega) (by omega) h42; omega
        subst hk2
        refine g_aload_n Z dX2_leaveOut_67 rfl ?_
        refine g_getr Z 2 0 rfl (by decide) in2 lk11 dX2_leaveOut_68 (by assumption) (by assumption) (by assumption) ?_
        refine g_aload_n Z dX2_leaveOut_71 rfl ?_
        refine g_geti Z 2 1 rfl (by decide) in2 lk18 dX2_leaveOut_72 (by assumption) (by assumption) ?_
        rw [show PS.fi (PS.rowR (PS.setI S s 1 (nI (V.1 - 1))) it _) s 1 = nI (V.1 - 1) from up2_self _ _ _ _]
        refine g_aload_n Z dX2_leaveOut_75 rfl ?_
        refine g_aast10 Z dX2_leaveOut_76 (by assumption) (by assumption) (by exact vin_of hitl (by omega) (by decide)) (by assumption) (by assumption) ?_
        rw [show (nI (V.1 - 1)).toNatClampNeg = V.1 - 1 from nI_clamp (by omega), rowR_step, show some (C j) = S.rr it j from (hv.rr (by omega)).symm]
        exact g_vret Z dX2_leaveOut_77 (by omega) (by omega) (⟨_, lo_sv hv hi0⟩)
      · have hk2 : k < V.1 - 1 := ge_f (by omega) (by omega) h42
        have hvr := hv.rr (j := k + 1) (by omega)
        have hvw := hv.cw (j := k + 1) (by omega)
        have hclk : (nI k).toNatClampNeg = k := nI_clamp (by omega)
        have hclk1 : (nI (k + 1)).toNatClampNeg = k + 1 := nI_clamp (by omega)
        refine g_aload_n Z dX2_leaveOut_45 rfl ?_
        refine g_getr Z 2 0 rfl (by decide) in2 lk11 dX2_leaveOut_46 (by assumption) (by assumption) (by assumption) ?_
        refine g_iload Z dX2_leaveOut_49 rfl ?_
        refine g_aload_n Z dX2_leaveOut_51 rfl ?_
        refine g_getr Z 2 0 rfl (by decide) in2 lk11 dX2_leaveOut_52 (by assumption) (by assumption) (by assumption) ?_
        refine g_iload Z dX2_leaveOut_55 rfl ?_
        refine g_iconst (v := 1) Z dX2_leaveOut_57 (by decide) ?_
        refine g_iadd Z dX2_leaveOut_58 ?_
        rw [nI_1]
        refine g_aald10 Z dX2_leaveOut_59 (by assumption) (by assumption) (by exact vin_of hitl (by omega) (by decide)) (by rw [hclk1]; show va_up S.rr it _ it _ = _; rw [va_up_self, shd_hi _ (by omega)]; exact hvr) ?_
        refine g_aast10 Z dX2_leaveOut_60 (by assumption) (by assumption) (by exact vin_of hitl (by omega) (by decide)) (by exact hvw.1) (by exact hvw.2.1) ?_
        rw [hclk, rowR_step, show some (C (k + 1)) = S.rr it (k + 1) from hvr.symm, shd_s _ hjk]
        refine g_iinc (c := 1) Z dX2_leaveOut_61 rfl (by decide) (by decide) ?_
        rw [nI_1]
        refine g_goto Z 36 dX2_leaveOut_64 (by decide) ?_
        exact g_lv (by (repeat (first | exact trivial | refine And.intro rfl ?_)); done) (ih (k + 1) (by omega) ⟨by omega, by omega⟩)
  have h0 := loop 8 j (by omega) ⟨Nat.le_refl j, by omega⟩
  rw [shd_0, show (S.setI s 1 (nI (V.1 - 1))).rowR it (S.rr it) = S.setI s 1 (nI (V.1 - 1)) from rowR_self (S.setI s 1 (nI (V.1 - 1))) it] at h0
  exact g_lv (by (repeat (first | exact trivial | refine And.intro rfl ?_)); done) h0
