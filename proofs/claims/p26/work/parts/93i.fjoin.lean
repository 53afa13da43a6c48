/-- a container of a bundle has a value -/
theorem Bn.give {S S1 : PS} {nw : Nat} {O : Nat → Nat} {b s it : Nat} {C : Nat → Nat} {i w : Nat} {a : Cn} {R : Nat → Int64} (hB : Bn S nw O b it C) (h1 : s ∈ S.L) (h2 : S.K s = 2) (hi : i < 7) (hrm : Rm nw S (C i) S1 w) (hk : a.1 < 65536) (hR : ∀ j, j < 1024 → R j = a.2.2 j) (hnT : nw ∉ (CS S1 (C i) w (nI a.1) a.2.1 (nI (tot a.2.2)) R).L) :
    ∃ O2, (∀ q ∈ S.L, O2 q = O q) ∧ Kp (fun q => O q = b) S (CS S1 (C i) w (nI a.1) a.2.1 (nI (tot a.2.2)) R) ∧ Bn (CS S1 (C i) w (nI a.1) a.2.1 (nI (tot a.2.2)) R) nw O2 b it C ∧ Cv (CS S1 (C i) w (nI a.1) a.2.1 (nI (tot a.2.2)) R) (C i) a ∧ (∀ j, j < 7 → j ≠ i → ∀ q, Cv S (C j) q → Cv (CS S1 (C i) w (nI a.1) a.2.1 (nI (tot a.2.2)) R) (C j) q) ∧ s ∈ (CS S1 (C i) w (nI a.1) a.2.1 (nI (tot a.2.2)) R).L ∧ Ag S (CS S1 (C i) w (nI a.1) a.2.1 (nI (tot a.2.2)) R) s := by
  obtain ⟨a1, a2, a3, a4, a5, a6⟩ := hB.chg (s := s) (i := i) (k := a.1) (d := a.2.1) (v := nI (tot a.2.2)) (R := R) h1 h2 hi hrm hk hnT
  exact ⟨_, a1, a2, a3, ⟨w, a4, CS_g0, hk, CS_g1, CS_g2, fun j hj => by rw [CS_gR]; exact hR j hj⟩, a5, a6⟩
/-- a set, its used told apart -/
def SP (S : PS) (nw : Nat) (O : Nat → Nat) (b s it : Nat) (C : Nat → Nat) (n j : Nat) (f : Nat → Cn) : Prop :=
  s ∈ S.L ∧ S.K s = 2 ∧ S.fr s 0 = some it ∧ S.fi s 1 = nI n ∧ Bn S nw O b it C ∧ ∀ i, i < j → Cv S (C i) (f i)
theorem SP.give {S S1 : PS} {nw : Nat} {O : Nat → Nat} {b s it : Nat} {C : Nat → Nat} {n i w : Nat} {f : Nat → Cn} {a : Cn} {R : Nat → Int64} (h : SP S nw O b s it C n i f) (hi : i < 7) (hrm : Rm nw S (C i) S1 w) (hk : a.1 < 65536) (hR : ∀ j, j < 1024 → R j = a.2.2 j) (hnT : nw ∉ (CS S1 (C i) w (nI a.1) a.2.1 (nI (tot a.2.2)) R).L) :
    ∃ O2, (∀ q ∈ S.L, O2 q = O q) ∧ Kp (fun q => O q = b) S (CS S1 (C i) w (nI a.1) a.2.1 (nI (tot a.2.2)) R) ∧ SP (CS S1 (C i) w (nI a.1) a.2.1 (nI (tot a.2.2)) R) nw O2 b s it C n (i + 1) (fun k => if k = i then a else f k) := by
  obtain ⟨h1, h2, h3, h4, hB, h7⟩ := h
  obtain ⟨O2, a1, a2, a3, a4, a5, a6, a7⟩ := hB.give h1 h2 hi hrm hk hR hnT
  refine ⟨O2, a1, a2, a6, a7.1.trans h2, by rw [a7.2.2.1]; exact h3, by rw [a7.2.1]; exact h4, a3, fun k hk2 => ?_⟩
  show Cv _ (C k) (if k = i then a else f k)
  by_cases e : k = i
  · subst e; rw [if_pos rfl]; exact a4
  · rw [if_neg e]; exact a5 k (by omega) e _ (h7 k (by omega))
/-- another set, whose cells are not of this one -/
theorem SV.other {S T : PS} {nw : Nat} {O O2 : Nat → Nat} {b b2 s o it : Nat} {C : Nat → Nat} {V : Sv} (hO : ∀ a ∈ S.L, O2 a = O a) (hk : Kp (fun a => O a = b ∨ a = s) S T) (hn : nw ∉ T.L) (hb : b2 ≠ b) (hs : O s ≠ b2) (ho : O o ≠ b) (hos : o ≠ s) (h : SV S nw O b2 o it C V) : SV T nw O2 b2 o it C V :=
  SV.keep hk.1 hO (hk.2 o h.1 (fun q => q.elim ho hos)) (fun a ha e => hk.2 a ha (fun q => q.elim (fun e2 => hb (e.symm.trans e2)) (fun e2 => hs (by rw [← e2]; exact e)))) hn h
theorem and_not0 {a b : Int64} (h : a &&& (b ^^^ -1) = 0) {k : Nat} (hk : k < 64) : wv a / 2 ^ k % 2 ≤ wv b / 2 ^ k % 2 := by
  have h1 := and_bit a (b ^^^ -1) k
  rw [h, not_bit b hk, show wv 0 = 0 from rfl, Nat.zero_div] at h1
  have b1 := Nat.mod_lt (wv a / 2 ^ k) (show 2 > 0 by decide)
  have b2 := Nat.mod_lt (wv b / 2 ^ k) (show 2 > 0 by decide)
  generalize wv a / 2 ^ k % 2 = x at *
  generalize wv b / 2 ^ k % 2 = y at *
  rcases (show x = 0 ∨ x = 1 by omega) with rfl | rfl
  · omega
  · rcases (show y = 0 ∨ y = 1 by omega) with rfl | rfl
    · simp at h1
    · omega
theorem ct_sub {f g : Nat → Int64} : ∀ n, (∀ l, l < n → cb f 0 l ≤ cb g 0 l) → ct f 0 n ≤ ct g 0 n ∧ (ct f 0 n = ct g 0 n → ∀ l, l < n → cb f 0 l = cb g 0 l)
  | 0, _ => ⟨Nat.le_refl _, fun _ l hl => absurd hl (Nat.not_lt_zero _)⟩
  | n + 1, h => by
    obtain ⟨h1, h2⟩ := ct_sub n (fun l hl => h l (by omega))
    have h3 := h n (by omega)
    have e1 : ct f 0 (n + 1) = ct f 0 n + cb f 0 n := rfl
    have e2 : ct g 0 (n + 1) = ct g 0 n + cb g 0 n := rfl
    refine ⟨by omega, fun e l hl => ?_⟩
    by_cases hl2 : l = n
    · subst hl2; omega
    · exact h2 (by omega) l (by omega)
/-- the same number, and none but of the other: the same -/
theorem like_iff {R W : Nat → Int64} : (tot R = tot W ∧ ∀ j, j < 1024 → R j &&& (W j ^^^ -1) = 0) ↔ ∀ j, j < 1024 → R j = W j := by
  constructor
  · intro ⟨h1, h2⟩
    rw [tot_ct, tot_ct] at h1
    have h3 : ∀ l, l < 65536 → cb R 0 l ≤ cb W 0 l := fun l hl => by
      rw [cbz, cbz]
      exact and_not0 (h2 (l / 64) (by omega)) (Nat.mod_lt _ (by decide))
    exact row_ext ((ct_sub 65536 h3).2 h1)
  · intro h
    refine ⟨tot_congr h, fun j hj => ?_⟩
    rw [h j hj]
    apply w_ext
    intro k hk
    rw [and_bit, not_bit _ hk, show wv 0 = 0 from rfl, Nat.zero_div]
    have := Nat.mod_lt (wv (W j) / 2 ^ k) (show 2 > 0 by decide)
    generalize wv (W j) / 2 ^ k % 2 = y at *
    rcases (show y = 0 ∨ y = 1 by omega) with rfl | rfl <;> rfl
/-! JOINING -/
def mxF (x : Int32) (a b : Cn) : Nat → Int64 := fun j => mxW x (a.2.2 j) (b.2.2 j)
noncomputable def mxC (x : Int32) (a b : Cn) : Cn := (a.1, @ite Int32 (∀ j, j < 1024 → mxF x a b j = a.2.2 j) (Classical.propDecidable _) a.2.1 (@ite Int32 (∀ j, j < 1024 → mxF x a b j = b.2.2 j) (Classical.propDecidable _) b.2.1 (plK (nI (tot (mxF x a b))))), mxF x a b)
def kyA (A : Sv) (i : Nat) : Nat := if i < A.1 then (A.2 i).1 else 65536
noncomputable def mgR (x : Int32) (A B : Sv) : Nat → Nat → Nat → Sv → Option Sv
  | 0, _, _, V => if 6 < V.1 then none else some V
  | n + 1, i, j, V => if 6 < V.1 then none else if kyA A i = 65536 ∧ kyA B j = 65536 then some V else if kyA A i < kyA B j then mgR x A B n (i + 1) j (if x = 0 then V else V.psh (A.2 i)) else if kyA B j < kyA A i then mgR x A B n i (j + 1) (if x = 1 ∨ x = 2 then V.psh (B.2 j) else V) else mgR x A B n (i + 1) (j + 1) (if 0 < tot (mxF x (A.2 i) (B.2 j)) then V.psh (mxC x (A.2 i) (B.2 j)) else V)
def eS : Sv := (0, fun _ => (0, 0, zW))
theorem mg_full {x : Int32} {A B : Sv} {n i j : Nat} {V : Sv} (h : 6 < V.1) : mgR x A B n i j V = none := by
  cases n <;> (unfold mgR; rw [if_pos h])
theorem mg_end {x : Int32} {A B : Sv} {n i j : Nat} {V : Sv} (h : ¬ 6 < V.1) (h1 : kyA A i = 65536) (h2 : kyA B j = 65536) : mgR x A B n i j V = some V := by
  cases n
  · unfold mgR; rw [if_neg h]
  · unfold mgR; rw [if_neg h, if_pos ⟨h1, h2⟩]
theorem mg_a {x : Int32} {A B : Sv} {n i j : Nat} {V : Sv} (h : ¬ 6 < V.1) (h1 : kyA A i < kyA B j) : mgR x A B (n + 1) i j V = mgR x A B n (i + 1) j (if x = 0 then V else V.psh (A.2 i)) := by
  show (if 6 < V.1 then none else if kyA A i = 65536 ∧ kyA B j = 65536 then some V else if kyA A i < kyA B j then mgR x A B n (i + 1) j (if x = 0 then V else V.psh (A.2 i)) else _) = _
  rw [if_neg h, if_neg (by omega), if_pos h1]
theorem mg_b {x : Int32} {A B : Sv} {n i j : Nat} {V : Sv} (h : ¬ 6 < V.1) (h1 : kyA B j < kyA A i) : mgR x A B (n + 1) i j V = mgR x A B n i (j + 1) (if x = 1 ∨ x = 2 then V.psh (B.2 j) else V) := by
  show (if 6 < V.1 then none else if kyA A i = 65536 ∧ kyA B j = 65536 then some V else if kyA A i < kyA B j then mgR x A B n (i + 1) j (if x = 0 then V else V.psh (A.2 i)) else if kyA B j < kyA A i then mgR x A B n i (j + 1) (if x = 1 ∨ x = 2 then V.psh (B.2 j) else V) else _) = _
  rw [if_neg h, if_neg (by omega), if_neg (by omega), if_pos h1]
theorem mg_c {x : Int32} {A B : Sv} {n i j : Nat} {V : Sv} (h : ¬ 6 < V.1) (h1 : kyA A i = kyA B j) (h2 : kyA A i ≠ 65536) : mgR x A B (n + 1) i j V = mgR x A B n (i + 1) (j + 1) (if 0 < tot (mxF x (A.2 i) (B.2 j)) then V.psh (mxC x (A.2 i) (B.2 j)) else V) := by
  show (if 6 < V.1 then none else if kyA A i = 65536 ∧ kyA B j = 65536 then some V else if kyA A i < kyA B j then mgR x A B n (i + 1) j (if x = 0 then V else V.psh (A.2 i)) else if kyA B j < kyA A i then mgR x A B n i (j + 1) (if x = 1 ∨ x = 2 then V.psh (B.2 j) else V) else mgR x A B n (i + 1) (j + 1) (if 0 < tot (mxF x (A.2 i) (B.2 j)) then V.psh (mxC x (A.2 i) (B.2 j)) else V)) = _
  rw [if_neg h, if_neg (by omega), if_neg (by omega), if_neg (by omega)]
theorem SP.sv {S : PS} {nw : Nat} {O : Nat → Nat} {b s it : Nat} {C : Nat → Nat} {n : Nat} {f : Nat → Cn} {V : Sv} (hn : n ≤ 7) (h : SP S nw O b s it C n n f) (e : V.1 = n) (he : ∀ i, i < n → V.2 i = f i) : SV S nw O b s it C V := by
  obtain ⟨h1, h2, h3, h4, hB, h7⟩ := h
  exact ⟨h1, h2, h3, by rw [e]; exact h4, by omega, hB, fun i hi => by rw [he i (by omega)]; exact h7 i (by omega)⟩
theorem SV.sp {S : PS} {nw : Nat} {O : Nat → Nat} {b s it : Nat} {C : Nat → Nat} {V : Sv} (h : SV S nw O b s it C V) : SP S nw O b s it C V.1 V.1 V.2 := ⟨h.1, h.2.1, h.2.2.1, h.2.2.2.1, h.2.2.2.2.2.1, h.2.2.2.2.2.2⟩
/-- a set's used is set -/
theorem SP.used {S : PS} {nw : Nat} {O : Nat → Nat} {b s it : Nat} {C : Nat → Nat} {n m j : Nat} {f : Nat → Cn} (h : SP S nw O b s it C n j f) (hj : j ≤ 7) : SP (S.setI s 1 (nI m)) nw O b s it C m j f ∧ Kp (fun a => a = s) S (S.setI s 1 (nI m)) := by
  obtain ⟨h1, h2, h3, h4, hB, h7⟩ := h
  have hA : ∀ a ∈ S.L, ¬ a = s → Ag S (S.setI s 1 (nI m)) a := fun a _ hn => ⟨rfl, va_up_ne _ _ hn, rfl, rfl, rfl, rfl, rfl⟩
  obtain ⟨hB1, hC1⟩ := Bn.keep2 (S := S) (T := S.setI s 1 (nI m)) rfl (fun a ha hk => hA a ha (fun e => hk (by rw [e]; exact h2))) hB
  exact ⟨⟨h1, h2, h3, up2_self _ _ _ _, hB1, fun i hi => hC1 i (by omega) _ (h7 i hi)⟩, fun _ h => h, hA⟩

set_option maxRecDepth 100000 in
set_option maxHeartbeats 2000000 in
/-- becomes what another set is -/
theorem f_X2_copyFrom (l : Launch) (D : va_G) (cy : Nat → ClassId) (nw : Nat) (S : PS) (O : Nat → Nat) (b s it : Nat) (C : Nat → Nat) (V : Sv) (hv : SV S nw O b s it C V) (o b2 io : Nat) (D2 : Nat → Nat) (W : Sv) (ho : SV S nw O b2 o io D2 W) (hbb : b2 ≠ b) (hsb : O s ≠ b2) (hob : O o ≠ b) (hos : o ≠ s) : kV l yX2_copyFrom wsX2_copyFrom 2 81 D cy nw [.ref s, .ref o] S (fun T => After S T nw O b s it W) 7 7168 := by
  refine enterV (cc := cX2_copyFrom) (nL := 3) (ret := none) (by decide +kernel) rfl (Nat.le_of_ble_eq_true rfl) ?_
  intro F Z hl hR hD hcy hnw hnm
  subst hl hD hcy hnw
  have hRf : F.R.frames = 2 := by rw [hR]
  have hRc : F.R.cells = 7 := by rw [hR]
  have hRs : F.R.slots = 7168 := by rw [hR]
  have hRl : F.R.locals = 81 := by rw [hR]
  have in2 : ∀ w ∈ u_ws RX2 TX2 2, w ∈ wsX2_copyFrom := by decide +kernel
  have lk11 : Cond.fieldLink RX2 11 (TX2 0).1 (TX2 0).2.1 (TX2 0).2.2.1 ∈ wsX2_copyFrom := by decide +kernel
  have lk18 : Cond.fieldLink RX2 18 (TX2 1).1 (TX2 1).2.1 (TX2 1).2.2.1 ∈ wsX2_copyFrom := by decide +kernel
  obtain ⟨hsL, hsK, hsit, hsu, hs7, hsB, hsC⟩ := id hv
  obtain ⟨hoL, hoK, hoit, hou, ho7, hoB, hoC⟩ := id ho
  have loop : ∀ (n : Nat) (j : Nat) (T : PS) (O2 : Nat → Nat) (f : Nat → Cn), 8 - j < n → ((∀ a ∈ S.L, O2 a = O a) ∧ Kp (fun a => O a = b ∨ a = s) S T ∧ SP T F.nw O2 b s it C W.1 j f ∧ (∀ i, i < j → f i = W.2 i) ∧ j ≤ W.1) → G F 3 T j (1024 * j) (QV F (fun T => After S T F.nw O b s it W) 7 7168) 10 [(0, .ref s), (1, .ref o), (2, .int (nI j))] [] := by
    intro n
    induction n with
    | zero => intros; omega
    | succ n ih =>
      intro j T O2 f hn ⟨hO2, hkp, hsp, hf, hj⟩
      refine g_nw Z (fun hnT => ?_)
      have hoT := SV.other hO2 hkp hnT hbb hsb hob hos ho
      obtain ⟨tsL, tsK, tsit, tsu, tsB, tsC⟩ := id hsp
      obtain ⟨toL, toK, toit, tou, to7, toB, toC⟩ := id hoT
      obtain ⟨q1, q2, q3, q4, q5, q6, q7⟩ := id tsB
      obtain ⟨p1, p2, p3, p4, p5, p6, p7⟩ := id toB
      refine g_iload_n Z dX2_copyFrom_10 rfl ?_
      refine g_aload_n Z dX2_copyFrom_11 rfl ?_
      refine g_geti Z 2 1 rfl (by decide) in2 lk18 dX2_copyFrom_12 (by assumption) (by assumption) ?_
      rw [tsu]
      refine g_icmp_ge Z 39 dX2_copyFrom_15 (by decide) (fun h15 => ?_) (fun h15 => ?_)
      · have hje : j = W.1 := by have := ge_t (by omega) (by omega) h15; omega
        subst hje
        exact g_vret Z dX2_copyFrom_39 (by omega) (by omega) (⟨O2, C, hO2, hkp, SP.sv ho7 hsp rfl (fun i hi => (hf i hi).symm)⟩)
      · have hlt : j < W.1 := ge_f (by omega) (by omega) h15
        obtain ⟨v, hdq, ek, hk16, ed, et, ew⟩ := hoT.cv hlt
        obtain ⟨hdL, hdK, hdv, hvL, -, -⟩ := id hdq
        obtain ⟨r1, r2, r3, r4⟩ := q5 j (by omega)
        obtain ⟨s1, s2, s3, s4⟩ := p5 j (by omega)
        obtain ⟨hcL, hcK, -, -⟩ := id r2
        have hcl : (nI j).toNatClampNeg = j := nI_clamp (by omega)
        have hdc : D2 j ≠ C j := fun e => hbb (by rw [← s3, e]; exact r3)
        have hne : ∀ w, T.fr (C j) 3 = some w → w ≠ v := fun w hw e => by
          subst e
          exact hbb ((s4 w hdv hvL).symm.trans (r4 w hw hvL))
        refine g_aload_n Z dX2_copyFrom_18 rfl ?_
        refine g_getr Z 2 0 rfl (by decide) in2 lk11 dX2_copyFrom_19 (by assumption) (by assumption) (by assumption) ?_
        refine g_iload_n Z dX2_copyFrom_22 rfl ?_
        refine g_aald10 Z dX2_copyFrom_23 (by assumption) (by assumption) (by exact vin_of q3 (by omega) (by decide)) (by rw [hcl]; exact r1) ?_
        refine g_aload_n Z dX2_copyFrom_24 rfl ?_
        refine g_getr Z 2 0 rfl (by decide) in2 lk11 dX2_copyFrom_25 (by assumption) (by assumption) (by assumption) ?_
        refine g_iload_n Z dX2_copyFrom_28 rfl ?_
        refine g_aald10 Z dX2_copyFrom_29 (by assumption) (by assumption) (by exact vin_of p3 (by omega) (by decide)) (by rw [hcl]; exact s1) ?_
        refine g_cvV Z (f_X1_copyLowsOf F.l F.D F.cy F.nw T (C j) (D2 j) v hcL hcK r2.ww hdq hdc hne) 1 gX2_copyFrom_X1_copyLowsOf rfl (by decide +kernel) (by rw [hRf, hRl]; decide) (by assumption) (κ := 1) (by assumption) rfl (by decide) rfl rfl (Nat.le_of_ble_eq_true rfl) dX2_copyFrom_30 (by rw [hRc, hRs]; omega) (fun U hp => ?_)
        obtain ⟨S1, w, R, hrm, hR, rfl⟩ := hp
        refine g_nw Z (fun hnU => ?_)
        rw [ek, ed, et] at hnU ⊢
        obtain ⟨O3, u1, u2, u3⟩ := hsp.give (a := W.2 j) (by omega) hrm hk16 (fun q hq => (hR q hq).trans (ew q hq)) hnU
        refine g_iinc (c := 1) Z dX2_copyFrom_33 rfl (by decide) (by decide) ?_
        rw [nI_1]
        refine g_goto Z 10 dX2_copyFrom_36 (by decide) ?_
        refine g_widen (Nat.le_refl _) (by omega) (g_lv (by (repeat (first | exact trivial | refine And.intro rfl ?_)); done) (ih (j + 1) _ O3 _ (by omega) ⟨fun a ha => (u1 a (hkp.1 a ha)).trans (hO2 a ha), hkp.tr2 hO2 (u2.mono (fun a _ h => Or.inl h)), u3, fun i hi => ?_, by omega⟩))
        by_cases e : i = j
        · subst e; exact if_pos rfl
        · exact (if_neg e).trans (hf i (by omega))
  obtain ⟨b1, b2k⟩ := (SP.used (m := W.1) (j := 0) ⟨hsL, hsK, hsit, hsu, hsB, fun i hi => absurd hi (Nat.not_lt_zero _)⟩ (by omega) : SP (S.setI s 1 (nI W.1)) F.nw O b s it C W.1 0 W.2 ∧ Kp (fun a => a = s) S (S.setI s 1 (nI W.1)))
  refine g_aload_n Z dX2_copyFrom_0 rfl ?_
  refine g_aload_n Z dX2_copyFrom_1 rfl ?_
  refine g_geti Z 2 1 rfl (by decide) in2 lk18 dX2_copyFrom_2 (by assumption) (by assumption) ?_
  rw [hou]
  refine g_puti Z 2 1 rfl (by decide) tyX2 tyX2_ok nmX2 rfl in2 lk18 dX2_copyFrom_5 rfl rfl (by assumption) (by assumption) ?_
  refine g_iconst (v := 0) Z dX2_copyFrom_8 (by decide) ?_
  refine g_istore_n Z dX2_copyFrom_9 (by decide) ?_
  exact g_lv (by (repeat (first | exact trivial | refine And.intro rfl ?_)); done) (loop 9 0 _ O W.2 (by omega) ⟨fun _ _ => rfl, b2k.mono (fun a _ h => Or.inr h), b1, fun i hi => absurd hi (Nat.not_lt_zero _), by omega⟩)
