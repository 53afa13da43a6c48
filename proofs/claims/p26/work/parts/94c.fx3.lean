/-! WHAT JOINS LEAVE IS SOUND -/
def VokP (V : Sv) (m : Nat) : Prop := Srt V ∧ ∀ i, i < V.1 → (V.2 i).1 < 65536 ∧ 0 < tot (V.2 i).2.2 ∧ ((V.2 i).2.1 = 0 ∨ (V.2 i).2.1 = 1 ∨ (V.2 i).2.1 = 2) ∧ (V.2 i).1 < m
theorem VokP.mono {V : Sv} {m k : Nat} (h : VokP V m) (hk : m ≤ k) : VokP V k := ⟨h.1, fun i hi => ⟨(h.2 i hi).1, (h.2 i hi).2.1, (h.2 i hi).2.2.1, Nat.lt_of_lt_of_le (h.2 i hi).2.2.2 hk⟩⟩
theorem VokP.psh {V : Sv} {m k : Nat} {a : Cn} (h : VokP V m) (ha : m ≤ a.1) (hk : a.1 < k) (h1 : a.1 < 65536) (h2 : 0 < tot a.2.2) (h3 : a.2.1 = 0 ∨ a.2.1 = 1 ∨ a.2.1 = 2) : VokP (V.psh a) k := by
  refine ⟨fun i j hij hj => ?_, fun i hi => ?_⟩
  · have hj2 : j < V.1 + 1 := hj
    show (if i = V.1 then a else V.2 i).1 < (if j = V.1 then a else V.2 j).1
    rw [if_neg (show ¬ i = V.1 by omega)]
    by_cases e : j = V.1
    · rw [if_pos e]
      have := (h.2 i (by omega)).2.2.2
      omega
    · rw [if_neg e]; exact h.1 i j hij (by omega)
  · have hi2 : i < V.1 + 1 := hi
    show (if i = V.1 then a else V.2 i).1 < 65536 ∧ 0 < tot (if i = V.1 then a else V.2 i).2.2 ∧ ((if i = V.1 then a else V.2 i).2.1 = 0 ∨ (if i = V.1 then a else V.2 i).2.1 = 1 ∨ (if i = V.1 then a else V.2 i).2.1 = 2) ∧ (if i = V.1 then a else V.2 i).1 < k
    by_cases e : i = V.1
    · rw [if_pos e]; exact ⟨h1, h2, h3, hk⟩
    · rw [if_neg e]
      obtain ⟨b1, b2, b3, b4⟩ := h.2 i (by omega)
      exact ⟨b1, b2, b3, by omega⟩
theorem kyA_in {A : Sv} {i : Nat} (h : kyA A i ≠ 65536) : i < A.1 ∧ kyA A i = (A.2 i).1 := by
  unfold kyA at h ⊢
  by_cases e : i < A.1
  · rw [if_pos e]; exact ⟨e, rfl⟩
  · rw [if_neg e] at h; exact absurd rfl h
theorem kyA_le {A : Sv} (hA : Vok A) (i : Nat) : kyA A i ≤ 65536 := by
  unfold kyA
  by_cases e : i < A.1
  · rw [if_pos e]; have := (hA.2.2 i e).1; omega
  · rw [if_neg e]; omega
theorem kyA_up {A : Sv} (hA : Vok A) {i : Nat} (h : i < A.1) : kyA A i < kyA A (i + 1) := by
  unfold kyA
  rw [if_pos h]
  by_cases e : i + 1 < A.1
  · rw [if_pos e]; exact hA.2.1 i (i + 1) (by omega) e
  · rw [if_neg e]; exact (hA.2.2 i h).1
theorem mxC_ok {x : Int32} {a b : Cn} (ha : a.2.1 = 0 ∨ a.2.1 = 1 ∨ a.2.1 = 2) (hb : b.2.1 = 0 ∨ b.2.1 = 1 ∨ b.2.1 = 2) : (mxC x a b).2.1 = 0 ∨ (mxC x a b).2.1 = 1 ∨ (mxC x a b).2.1 = 2 := by
  unfold mxC
  show (@ite Int32 _ (Classical.propDecidable _) a.2.1 _ = 0 ∨ _ ∨ _)
  by_cases e : ∀ j, j < 1024 → mxF x a b j = a.2.2 j
  · rw [if_pos e]; exact ha
  · rw [if_neg e]
    by_cases e2 : ∀ j, j < 1024 → mxF x a b j = b.2.2 j
    · rw [if_pos e2]; exact hb
    · rw [if_neg e2]; exact (plK_01 _).imp id Or.inl
theorem mg_ok {x : Int32} {A B W : Sv} (hA : Vok A) (hB : Vok B) : ∀ n i j V, VokP V (min (kyA A i) (kyA B j)) → mgR x A B n i j V = some W → Vok W
  | 0, i, j, V, hV, h => by
    have hl := mg_le _ _ _ _ h
    unfold mgR at h
    by_cases e : 6 < V.1
    · rw [if_pos e] at h; cases h
    · rw [if_neg e] at h; cases h
      exact ⟨hl, hV.1, fun i hi => ⟨(hV.2 i hi).1, (hV.2 i hi).2.1, (hV.2 i hi).2.2.1⟩⟩
  | n + 1, i, j, V, hV, h => by
    have hl := mg_le _ _ _ _ h
    have la := kyA_le hA i
    have lb := kyA_le hB j
    by_cases e : 6 < V.1
    · rw [mg_full e] at h; cases h
    · by_cases e2 : kyA A i = 65536 ∧ kyA B j = 65536
      · rw [mg_end e e2.1 e2.2] at h; cases h
        exact ⟨hl, hV.1, fun i hi => ⟨(hV.2 i hi).1, (hV.2 i hi).2.1, (hV.2 i hi).2.2.1⟩⟩
      · rcases Nat.lt_trichotomy (kyA A i) (kyA B j) with e3 | e3 | e3
        · rw [mg_a e e3] at h
          obtain ⟨a1, a2⟩ := kyA_in (A := A) (i := i) (by omega)
          have a3 := kyA_up hA a1
          obtain ⟨o1, o2, o3⟩ := hA.2.2 i a1
          refine mg_ok hA hB n _ _ _ ?_ h
          by_cases q : x = 0
          · rw [if_pos q]; exact hV.mono (by omega)
          · rw [if_neg q]; exact hV.psh (by omega) (by omega) o1 o2 o3
        · rw [mg_c e e3 (by omega)] at h
          obtain ⟨a1, a2⟩ := kyA_in (A := A) (i := i) (by omega)
          obtain ⟨b1, b2⟩ := kyA_in (A := B) (i := j) (by omega)
          have a3 := kyA_up hA a1
          have b3 := kyA_up hB b1
          obtain ⟨o1, o2, o3⟩ := hA.2.2 i a1
          obtain ⟨p1, p2, p3⟩ := hB.2.2 j b1
          refine mg_ok hA hB n _ _ _ ?_ h
          by_cases q : 0 < tot (mxF x (A.2 i) (B.2 j))
          · rw [if_pos q]; exact hV.psh (a := mxC x (A.2 i) (B.2 j)) (by show _ ≤ (A.2 i).1; omega) (by show (A.2 i).1 < _; omega) o1 q (mxC_ok o3 p3)
          · rw [if_neg q]; exact hV.mono (by omega)
        · rw [mg_b e e3] at h
          obtain ⟨b1, b2⟩ := kyA_in (A := B) (i := j) (by omega)
          have b3 := kyA_up hB b1
          obtain ⟨p1, p2, p3⟩ := hB.2.2 j b1
          refine mg_ok hA hB n _ _ _ ?_ h
          by_cases q : x = 1 ∨ x = 2
          · rw [if_pos q]; exact hV.psh (by omega) (by omega) p1 p2 p3
          · rw [if_neg q]; exact hV.mono (by omega)
theorem VokP.eS {m : Nat} : VokP eS m := ⟨fun i j _ hj => absurd hj (Nat.not_lt_zero _), fun i hi => absurd hi (Nat.not_lt_zero _)⟩
theorem mg_ok0 {x : Int32} {A B W : Sv} (hA : Vok A) (hB : Vok B) (h : mgR x A B 13 0 0 eS = some W) : Vok W := mg_ok hA hB 13 0 0 eS VokP.eS h
theorem Vok.aV : Vok aV := by
  refine ⟨by decide, fun i j hij hj => ?_, fun i hi => ⟨by show (0 : Nat) < 65536; decide, by show 0 < tot mW; rw [tot_mW]; decide, Or.inr (Or.inl rfl)⟩⟩
  have : j < 1 := hj
  omega
theorem ev_ok {V : Nat → Sv} {y : Int64} (hV : ∀ i, i < 8 → Vok (V i)) : ∀ n k d L L2, (∀ j, Vok (L j)) → evF V y n k d L = some L2 → ∀ j, Vok (L2 j)
  | 0, k, d, L, L2, hL, h => by cases h; exact hL
  | n + 1, k, d, L, L2, hL, h => by
    unfold evF at h
    by_cases e1 : 16 ≤ sg y k ∧ sg y k ≤ 19
    · rw [if_pos e1] at h
      obtain ⟨W, hW, h2⟩ := Option.bind_eq_some_iff.mp h
      refine ev_ok hV n _ _ _ _ (fun j => ?_) h2
      by_cases e : j = d - 2
      · subst e; rw [va_up_self]; exact mg_ok0 (hL _) (hL _) hW
      · rw [va_up_ne _ _ e]; exact hL j
    · rw [if_neg e1] at h
      by_cases e2 : sg y k = 20
      · rw [if_pos e2] at h
        refine ev_ok hV n _ _ _ _ (fun j => ?_) h
        by_cases e : j = d
        · subst e; rw [va_up_self]; exact Vok.aV
        · rw [va_up_ne _ _ e]; exact hL j
      · rw [if_neg e2] at h
        by_cases e3 : sg y k < 8
        · rw [if_pos e3] at h
          refine ev_ok hV n _ _ _ _ (fun j => ?_) h
          by_cases e : j = d
          · subst e; rw [va_up_self]; exact hV _ e3
          · rw [va_up_ne _ _ e]; exact hL j
        · rw [if_neg e3] at h; exact ev_ok hV n _ _ _ _ hL h
section FXS2
variable {S U : PS} {nw x sa pl la br h n u rd rk rt w fa : Nat} {so O O2 : Nat → Nat} {V V2 : Nat → Sv} {B : Nat → Nat}
theorem FO.gp {d2 : Nat} (hg : GV S nw so O V) (hO : ∀ a ∈ S.L, O2 a = O a) (hE : GP S U so O pl) (hp : PlQ U pl la d2 so O2) (k : FO S x sa pl la br h n u rd rk rt w fa so O B) : FO U x sa pl la br h n u rd rk rt w fa so O2 B := by
  have hc := k.cells
  obtain ⟨k1, k2, ⟨d, k3⟩, k4, k5⟩ := id k
  have ag : ∀ a, (a = x ∨ a = sa ∨ a = pl ∨ a = la ∨ a = br ∨ a = h ∨ a = rd ∨ a = rk ∨ a = rt) → S.K a ≠ 3 → Ag S U a := fun a ha h3 => (hE.keep (hc a ha).1 (hc a ha).2.1 (hg.kne (hc a ha).2.2) (fun e => h3 (by rw [e]; exact k3.2.1))).2
  exact ⟨k1.ag hE.1 hO (ag x (by simp) (by rw [k1.2.1]; decide)), k2.ag hE.1 hO (ag sa (by simp) (by rw [k2.2.1]; decide)), ⟨d2, hp⟩, k4.ag hE.1 hO (ag br (by simp) (by rw [k4.1.1.2.1]; decide)) (ag h (by simp) (by rw [k4.1.1.2.2.2.2.1]; decide)), k5.ag hE.1 hO (ag rd (by simp) (by rw [k5.1.2.1]; decide)) (ag rk (by simp) (by rw [k5.1.2.2.2.2.1]; decide)) (ag rt (by simp) (by rw [k5.1.2.2.2.2.2.2.2.2.1]; decide))⟩
/-- two sets change places -/
theorem FX.xch {be it : Nat → Nat} {C : Nat → Nat → Nat} (k : FX S nw x sa pl la br h n u rd rk rt w fa so O V B) (hgx : GX S nw O so be it C V) {i j : Nat} (hi : i < 8) (hj : j < 17) (h8 : 8 ≤ j) (hn : nw ∉ U.L) (h1 : SV U nw O (be j) (so i) (it j) (C j) (V j)) (h2 : SV U nw O (be i) (so j) (it i) (C i) (V i)) (h3 : Kp (fun q => q = so i ∨ q = so j) S U) (hV : Vok (V j)) : FX U nw x sa pl la br h n u rd rk rt w fa so O (swp V i j) B ∧ ∀ q, q < 8 → swp V i j q = va_up V i (V j) q := by
  obtain ⟨a1, a2⟩ := hgx.xch (i := i) (j := j) (by omega) hj (by omega) hn h1 h2 h3
  have e : ∀ q, q < 8 → swp V i j q = va_up V i (V j) q := by
    intro q hq
    by_cases e : q = i
    · subst e; rw [swp_i _ (by omega), va_up_self]
    · rw [swp_o _ e (by omega), va_up_ne _ _ e]
  refine ⟨k.ge (fun _ _ => rfl) a2 a1 (fun q hq => ?_), e⟩
  rw [e q hq]
  by_cases e2 : q = i
  · subst e2; rw [va_up_self]; exact hV
  · rw [va_up_ne _ _ e2]; exact k.2.2 q hq
end FXS2

theorem i0123 {e : Int32} (h1 : ¬ e < 0) (h2 : e ≤ 3) : e = 0 ∨ e = 1 ∨ e = 2 ∨ e = 3 := by
  obtain ⟨k, hk, rfl⟩ : ∃ k : Nat, k ≤ 3 ∧ e = nI k := nI_of2 (M := 3) (n := 3) (by decide) h1 h2
  rcases (show k = 0 ∨ k = 1 ∨ k = 2 ∨ k = 3 by omega) with rfl | rfl | rfl | rfl
  · exact Or.inl rfl
  · exact Or.inr (Or.inl rfl)
  · exact Or.inr (Or.inr (Or.inl rfl))
  · exact Or.inr (Or.inr (Or.inr rfl))
theorem up_8 {V : Nat → Sv} {W X : Sv} {j i : Nat} (hi : i < 8) : va_up (va_up V 8 X) j W i = va_up V j W i := by
  by_cases e : i = j
  · subst e; rw [va_up_self, va_up_self]
  · rw [va_up_ne _ _ e, va_up_ne _ _ e, va_up_ne _ _ (by omega)]

set_option maxRecDepth 100000 in
set_option maxHeartbeats 2000000 in
/-- two sets are joined -/
theorem f_X6_join_w (l : Launch) (D : va_G) (cy : Nat → ClassId) (nw : Nat) (S : PS) (x sa pl la br h n u rd rk rt w fa : Nat) (so O : Nat → Nat) (V : Nat → Sv) (B : Nat → Nat) (hx : FX S nw x sa pl la br h n u rd rk rt w fa so O V B) (jt ja jb : Nat) (hjt : jt < 8) (hja : ja < 8) (hjb : jb < 8) (c : Int32) (hc0 : ¬ c < 0) (hc3 : c ≤ 3) (hw1 : 1 ≤ w) : kI l yX6_join wsX6_join 4 109 D cy nw [.ref x, .int (nI jt), .int c, .int (nI ja), .int (nI jb)] S (fun r T => ∃ O2 V2, FX T nw x sa pl la br h n u rd rk rt (w - 1) fa so O2 V2 B ∧ ((∃ W, mgR c (V ja) (V jb) 13 0 0 eS = some W ∧ r = nI (sT W W.1) ∧ ∀ i, i < 8 → V2 i = va_up V jt W i) ∨ (mgR c (V ja) (V jb) 13 0 0 eS = none ∧ r = -3 ∧ ∀ i, i < 8 → V2 i = V i))) 12 12288 := by
  refine enterI (cc := cX6_join) (nL := 5) (ret := (some .int)) (by decide +kernel) rfl (Nat.le_of_ble_eq_true rfl) ?_
  intro F Z hl hR hD hcy hnw hnm
  subst hl hD hcy hnw
  have hRf : F.R.frames = 4 := by rw [hR]
  have hRc : F.R.cells = 12 := by rw [hR]
  have hRs : F.R.slots = 12288 := by rw [hR]
  have hRl : F.R.locals = 109 := by rw [hR]
  have in5 : ∀ w ∈ u_ws RX6 TX6 6, w ∈ wsX6_join := by decide +kernel
  have lk11 : Cond.fieldLink RX6 11 (TX6 0).1 (TX6 0).2.1 (TX6 0).2.2.1 ∈ wsX6_join := by decide +kernel
  have lk16 : Cond.fieldLink RX6 16 (TX6 1).1 (TX6 1).2.1 (TX6 1).2.2.1 ∈ wsX6_join := by decide +kernel
  obtain ⟨hFO, hGV, hVok⟩ := id hx
  obtain ⟨hFx, hSa, ⟨dp, hPl⟩, hFb, hFr⟩ := id hFO
  obtain ⟨hxL, hxK, hxO, hsa, hsp, hpl, hbr, hrd, hxw, hw3⟩ := id hFx
  obtain ⟨hsaL, hsaK, hsal, hsas, hsaO⟩ := id hSa
  obtain ⟨be, it, C, hgx⟩ := id hGV
  have hct : (nI jt).toNatClampNeg = jt := nI_clamp (by omega)
  have hca : (nI ja).toNatClampNeg = ja := nI_clamp (by omega)
  have hcb : (nI jb).toNatClampNeg = jb := nI_clamp (by omega)
  refine g_iload_n Z dX6_join_0 rfl ?_
  refine g_csI Z (c_X6_isNoSet F.l F.D F.cy F.nw _ _) 1 gX6_join_X6_isNoSet rfl (by decide +kernel) (by rw [hRf, hRl]; decide) rfl rfl (Nat.le_of_ble_eq_true rfl) dX6_join_1 (by rw [hRc, hRs]; omega) (fun r0 T0 hq0 => ?_)
  obtain ⟨rfl, hi1⟩ := hq0
  refine g_if_ne Z 31 dX6_join_4 (by decide) (fun h4 => absurd (isIx_y (by decide) hi1 hjt) h4) (fun h4 => ?_)
  refine g_iload_n Z dX6_join_7 rfl ?_
  refine g_csI Z (c_X6_isNoSet F.l F.D F.cy F.nw _ _) 1 gX6_join_X6_isNoSet rfl (by decide +kernel) (by rw [hRf, hRl]; decide) rfl rfl (Nat.le_of_ble_eq_true rfl) dX6_join_8 (by rw [hRc, hRs]; omega) (fun r0 T0 hq0 => ?_)
  obtain ⟨rfl, hi2⟩ := hq0
  refine g_if_ne Z 31 dX6_join_11 (by decide) (fun h11 => absurd (isIx_y (by decide) hi2 hja) h11) (fun h11 => ?_)
  refine g_iload Z dX6_join_14 rfl ?_
  refine g_csI Z (c_X6_isNoSet F.l F.D F.cy F.nw _ _) 1 gX6_join_X6_isNoSet rfl (by decide +kernel) (by rw [hRf, hRl]; decide) rfl rfl (Nat.le_of_ble_eq_true rfl) dX6_join_16 (by rw [hRc, hRs]; omega) (fun r0 T0 hq0 => ?_)
  obtain ⟨rfl, hi3⟩ := hq0
  refine g_if_ne Z 31 dX6_join_19 (by decide) (fun h19 => absurd (isIx_y (by decide) hi3 hjb) h19) (fun h19 => ?_)
  refine g_iload_n Z dX6_join_22 rfl ?_
  refine g_if_lt Z 31 dX6_join_23 (by decide) (fun h23 => absurd h23 (hc0)) (fun h23 => ?_)
  refine g_iload_n Z dX6_join_26 rfl ?_
  refine g_iconst (v := 3) Z dX6_join_27 (by decide) ?_
  refine g_icmp_le Z 34 dX6_join_28 (by decide) (fun h28 => ?_) (fun h28 => absurd (hc3) h28)
  refine g_aload_n Z dX6_join_34 rfl ?_
  refine g_iconst (v := 1) Z dX6_join_35 (by decide) ?_
  refine g_cvI Z (f_X6_takeWork F.l F.D F.cy F.nw S x w hxL hxK hxw hw3 1 (by omega)) 1 gX6_join_X6_takeWork rfl (by decide +kernel) (by rw [hRf, hRl]; decide) (by assumption) (κ := 5) (by assumption) rfl (by decide) rfl rfl (Nat.le_of_ble_eq_true rfl) dX6_join_36 (by rw [hRc, hRs]; omega) (fun r1 T1 hq1 => ?_)
  refine g_if_ne Z 45 dX6_join_39 (by decide) (fun h39 => ?_) (fun h39 => ?_)
  · obtain ⟨hle, rfl⟩ : 1 ≤ w ∧ T1 = S.setI x 5 (nI (w - 1)) := by
      rcases hq1 with ⟨-, h2, h3⟩ | ⟨h1, -⟩
      · exact ⟨h2, h3⟩
      · exact absurd h1 h39
    refine g_nw Z (fun hnw1 => ?_)
    have hx1 := hx.work (S := S) (w2 := w - 1) hnw1 (by omega)
    generalize S.setI x 5 (nI (w - 1)) = T1 at hx1 hnw1 ⊢
    obtain ⟨hFO1, hg1, -⟩ := id hx1
    obtain ⟨⟨hxL1, hxK1, -, hsa1, hsp1, hpl1, hbr1, hrd1, -⟩, hSa1, ⟨dp1, hPl1⟩, hFb1, hFr1⟩ := id hFO1
    obtain ⟨hsaL1, hsaK1, hsal1, hsas1, -⟩ := id hSa1
    obtain ⟨be1, it1, C1, hgx1⟩ := id hg1
    have hs8 := (hgx1.1 8 (by omega)).1
    have hva := (hgx1.1 ja (by omega)).1
    have hvb := (hgx1.1 jb (by omega)).1
    obtain ⟨n1, n2, n3, n4⟩ := hgx1.ne (i := 8) (j := ja) (by omega) (by omega) (by omega)
    obtain ⟨l1, l2, l3, l4⟩ := hgx1.ne (i := 8) (j := jb) (by omega) (by omega) (by omega)
    refine g_aload_n Z dX6_join_45 rfl ?_
    refine g_getr Z 5 1 rfl (by decide) in5 lk16 dX6_join_46 (by exact hxL1) (by exact hxK1) (by exact hsp1) ?_
    refine g_iload_n Z dX6_join_49 rfl ?_
    refine g_aload_n Z dX6_join_50 rfl ?_
    refine g_getr Z 5 0 rfl (by decide) in5 lk11 dX6_join_51 (by exact hxL1) (by exact hxK1) (by exact hsa1) ?_
    refine g_iload_n Z dX6_join_54 rfl ?_
    refine g_aald11 Z dX6_join_55 (by exact hsaL1) (by exact hsaK1) (by exact vin_of hsal1 (by omega) (by decide)) (by rw [hca]; exact hsas1 ja hja) ?_
    refine g_aload_n Z dX6_join_56 rfl ?_
    refine g_getr Z 5 0 rfl (by decide) in5 lk11 dX6_join_57 (by exact hxL1) (by exact hxK1) (by exact hsa1) ?_
    refine g_iload Z dX6_join_60 rfl ?_
    refine g_aald11 Z dX6_join_62 (by exact hsaL1) (by exact hsaK1) (by exact vin_of hsal1 (by omega) (by decide)) (by rw [hcb]; exact hsas1 jb hjb) ?_
    refine g_cvI Z (f_X2_becomeJoin F.l F.D F.cy F.nw T1 O (be1 8) (so 8) (it1 8) (C1 8) (V 8) hs8 (so ja) (so jb) (be1 ja) (be1 jb) (it1 ja) (it1 jb) (C1 ja) (C1 jb) (V ja) (V jb) hva hvb (hVok ja hja).1 (hVok jb hjb).1 n1 n2 n3 n4 l1 l2 l3 l4 c (i0123 hc0 hc3)) 3 gX6_join_X2_becomeJoin rfl (by decide +kernel) (by rw [hRf, hRl]; decide) (by exact hs8.1) (κ := 2) (by exact hs8.2.1) rfl (by decide) rfl rfl (Nat.le_of_ble_eq_true rfl) dX6_join_63 (by rw [hRc, hRs]; omega) (fun r2 T2 hp => ?_)
    obtain ⟨W, haf, hr⟩ := hp
    refine g_nw Z (fun hnT => ?_)
    obtain ⟨O2, hO2, hg2, hge⟩ := hgx1.after (i := 8) (by omega) hnT haf
    have hx2 := hx1.ge hO2 hge hg2 (fun i hi => by rw [va_up_ne _ _ (by omega)]; exact hVok i hi)
    obtain ⟨⟨⟨hxL2, hxK2, -, hsa2, hsp2, -⟩, ⟨hsaL2, hsaK2, hsal2, hsas2, -⟩, -⟩, -, -⟩ := id hx2
    obtain ⟨be2, it2, C2, hgx2⟩ := id hg2
    have hst2 := (hgx2.1 jt (by omega)).1
    have hs82 := (hgx2.1 8 (by omega)).1
    have hne := (hgx2.ne (i := 8) (j := jt) (by omega) (by omega) (by omega)).2.2.2
    refine g_if_ne Z 72 dX6_join_66 (by decide) (fun h66 => ?_) (fun h66 => ?_)
    · have hms : mgR c (V ja) (V jb) 13 0 0 eS = some W := by
        rcases hr with ⟨-, e⟩ | ⟨e, -⟩
        · exact e
        · exact absurd e h66
      refine g_aload_n Z dX6_join_72 rfl ?_
      refine g_getr Z 5 0 rfl (by decide) in5 lk11 dX6_join_73 (by exact hxL2) (by exact hxK2) (by exact hsa2) ?_
      refine g_iload_n Z dX6_join_76 rfl ?_
      refine g_aald11 Z dX6_join_77 (by exact hsaL2) (by exact hsaK2) (by exact vin_of hsal2 (by omega) (by decide)) (by rw [hct]; exact hsas2 jt hjt) ?_
      refine g_aload_n Z dX6_join_78 rfl ?_
      refine g_getr Z 5 1 rfl (by decide) in5 lk16 dX6_join_79 (by exact hxL2) (by exact hxK2) (by exact hsp2) ?_
      refine g_cvV Z (f_X2_exchange F.l F.D F.cy F.nw T2 O2 (so jt) (so 8) _ _ _ _ _ _ _ _ hne hst2 hs82) 1 gX6_join_X2_exchange rfl (by decide +kernel) (by rw [hRf, hRl]; decide) (by exact hst2.1) (κ := 2) (by exact hst2.2.1) rfl (by decide) rfl rfl (Nat.le_of_ble_eq_true rfl) dX6_join_82 (by rw [hRc, hRs]; omega) (fun T3 hq3 => ?_)
      obtain ⟨x1, x2, x3⟩ := hq3
      refine g_nw Z (fun hnT3 => ?_)
      obtain ⟨hx3, hsw⟩ := hx2.xch hgx2 hjt (j := 8) (by omega) (by omega) hnT3 x1 x2 x3 (by rw [va_up_self]; exact mg_ok0 (hVok ja hja) (hVok jb hjb) hms)
      obtain ⟨⟨⟨hxL3, hxK3, -, hsa3, -⟩, ⟨hsaL3, hsaK3, hsal3, hsas3, -⟩, -⟩, ⟨be3, it3, C3, hgx3⟩, -⟩ := id hx3
      have hst3 := (hgx3.1 jt (by omega)).1
      rw [hsw jt hjt, va_up_self] at hst3
      rw [va_up_self] at hst3
      refine g_aload_n Z dX6_join_85 rfl ?_
      refine g_getr Z 5 0 rfl (by decide) in5 lk11 dX6_join_86 (by exact hxL3) (by exact hxK3) (by exact hsa3) ?_
      refine g_iload_n Z dX6_join_89 rfl ?_
      refine g_aald11 Z dX6_join_90 (by exact hsaL3) (by exact hsaK3) (by exact vin_of hsal3 (by omega) (by decide)) (by rw [hct]; exact hsas3 jt hjt) ?_
      refine g_cvI Z (f_X2_total F.l F.D F.cy F.nw T3 O2 (be3 jt) (so jt) (it3 jt) (C3 jt) W hst3) 0 gX6_join_X2_total rfl (by decide +kernel) (by rw [hRf, hRl]; decide) (by exact hst3.1) (κ := 2) (by exact hst3.2.1) rfl (by decide) rfl rfl (Nat.le_of_ble_eq_true rfl) dX6_join_91 (by rw [hRc, hRs]; omega) (fun r4 T4 hq4 => ?_)
      obtain ⟨rfl, rfl⟩ := hq4
      exact g_iret Z dX6_join_94 (by omega) (by omega) (⟨O2, _, hx3, Or.inl ⟨W, hms, rfl, fun i hi => (hsw i hi).trans (by rw [va_up_self]; exact up_8 hi)⟩⟩)
    · have hmn : mgR c (V ja) (V jb) 13 0 0 eS = none := by
        rcases hr with ⟨e, -⟩ | ⟨-, e⟩
        · rw [e] at h66; exact absurd h66 (by decide)
        · exact e
      refine g_bipush (v := (-3)) Z dX6_join_69 (by decide) ?_
      exact g_iret Z dX6_join_71 (by omega) (by omega) (⟨O2, _, hx2, Or.inr ⟨hmn, rfl, fun i hi => va_up_ne _ _ (by omega)⟩⟩)
  · rcases hq1 with ⟨h1, -⟩ | ⟨-, -, h3⟩
    · rw [h1] at h39; exact absurd h39 (by decide)
    · omega

set_option maxRecDepth 100000 in
set_option maxHeartbeats 2000000 in
/-- a join that is refused -/
theorem f_X6_join_n (l : Launch) (D : va_G) (cy : Nat → ClassId) (nw : Nat) (S : PS) (x sa pl la br h n u rd rk rt w fa : Nat) (so O : Nat → Nat) (V : Nat → Sv) (B : Nat → Nat) (hx : FX S nw x sa pl la br h n u rd rk rt w fa so O V B) (t c a b : Int32) (hno : ¬ (isS t ∧ isS a ∧ isS b ∧ ¬ c < 0 ∧ c ≤ 3 ∧ 1 ≤ w)) : kI l yX6_join wsX6_join 1 21 D cy nw [.ref x, .int t, .int c, .int a, .int b] S (fun r T => S = T ∧ (((isS t ∧ isS a ∧ isS b ∧ ¬ c < 0 ∧ c ≤ 3) ∧ r = -5) ∨ (¬ (isS t ∧ isS a ∧ isS b ∧ ¬ c < 0 ∧ c ≤ 3) ∧ r = -2))) 0 0 := by
  refine enterI (cc := cX6_join) (nL := 5) (ret := (some .int)) (by decide +kernel) rfl (Nat.le_of_ble_eq_true rfl) ?_
  intro F Z hl hR hD hcy hnw hnm
  subst hl hD hcy hnw
  have hRf : F.R.frames = 1 := by rw [hR]
  have hRc : F.R.cells = 0 := by rw [hR]
  have hRs : F.R.slots = 0 := by rw [hR]
  have hRl : F.R.locals = 21 := by rw [hR]
  obtain ⟨hFO, hGV, hVok⟩ := id hx
  obtain ⟨hFx, hSa, ⟨dp, hPl⟩, hFb, hFr⟩ := id hFO
  obtain ⟨hxL, hxK, hxO, hsa, hsp, hpl, hbr, hrd, hxw, hw3⟩ := id hFx
  obtain ⟨hsaL, hsaK, hsal, hsas, hsaO⟩ := id hSa
  obtain ⟨be, it, C, hgx⟩ := id hGV
  refine g_iload_n Z dX6_join_0 rfl ?_
  refine g_csI Z (c_X6_isNoSet F.l F.D F.cy F.nw _ _) 1 gX6_join_X6_isNoSet rfl (by decide +kernel) (by rw [hRf, hRl]; decide) rfl rfl (Nat.le_of_ble_eq_true rfl) dX6_join_1 (by rw [hRc, hRs]; omega) (fun r0 T0 hq0 => ?_)
  obtain ⟨rfl, hi1⟩ := hq0
  refine g_if_ne Z 31 dX6_join_4 (by decide) (fun h4 => ?_) (fun h4 => ?_)
  · have hbad : ¬ (isS t ∧ isS a ∧ isS b ∧ ¬ c < 0 ∧ c ≤ 3) := fun q => isIx_1 (by decide) hi1 h4 q.1
    refine g_bipush (v := (-2)) Z dX6_join_31 (by decide) ?_
    exact g_iret Z dX6_join_33 (by omega) (by omega) (⟨rfl, Or.inr ⟨hbad, rfl⟩⟩)
  · have it := isIx_0 hi1 h4
    refine g_iload_n Z dX6_join_7 rfl ?_
    refine g_csI Z (c_X6_isNoSet F.l F.D F.cy F.nw _ _) 1 gX6_join_X6_isNoSet rfl (by decide +kernel) (by rw [hRf, hRl]; decide) rfl rfl (Nat.le_of_ble_eq_true rfl) dX6_join_8 (by rw [hRc, hRs]; omega) (fun r0 T0 hq0 => ?_)
    obtain ⟨rfl, hi2⟩ := hq0
    refine g_if_ne Z 31 dX6_join_11 (by decide) (fun h11 => ?_) (fun h11 => ?_)
    · have hbad : ¬ (isS t ∧ isS a ∧ isS b ∧ ¬ c < 0 ∧ c ≤ 3) := fun q => isIx_1 (by decide) hi2 h11 q.2.1
      refine g_bipush (v := (-2)) Z dX6_join_31 (by decide) ?_
      exact g_iret Z dX6_join_33 (by omega) (by omega) (⟨rfl, Or.inr ⟨hbad, rfl⟩⟩)
    · have ia := isIx_0 hi2 h11
      refine g_iload Z dX6_join_14 rfl ?_
      refine g_csI Z (c_X6_isNoSet F.l F.D F.cy F.nw _ _) 1 gX6_join_X6_isNoSet rfl (by decide +kernel) (by rw [hRf, hRl]; decide) rfl rfl (Nat.le_of_ble_eq_true rfl) dX6_join_16 (by rw [hRc, hRs]; omega) (fun r0 T0 hq0 => ?_)
      obtain ⟨rfl, hi3⟩ := hq0
      refine g_if_ne Z 31 dX6_join_19 (by decide) (fun h19 => ?_) (fun h19 => ?_)
      · have hbad : ¬ (isS t ∧ isS a ∧ isS b ∧ ¬ c < 0 ∧ c ≤ 3) := fun q => isIx_1 (by decide) hi3 h19 q.2.2.1
        refine g_bipush (v := (-2)) Z dX6_join_31 (by decide) ?_
        exact g_iret Z dX6_join_33 (by omega) (by omega) (⟨rfl, Or.inr ⟨hbad, rfl⟩⟩)
      · have ib := isIx_0 hi3 h19
        refine g_iload_n Z dX6_join_22 rfl ?_
        refine g_if_lt Z 31 dX6_join_23 (by decide) (fun h23 => ?_) (fun h23 => ?_)
        · have hbad : ¬ (isS t ∧ isS a ∧ isS b ∧ ¬ c < 0 ∧ c ≤ 3) := fun q => q.2.2.2.1 h23
          refine g_bipush (v := (-2)) Z dX6_join_31 (by decide) ?_
          exact g_iret Z dX6_join_33 (by omega) (by omega) (⟨rfl, Or.inr ⟨hbad, rfl⟩⟩)
        · refine g_iload_n Z dX6_join_26 rfl ?_
          refine g_iconst (v := 3) Z dX6_join_27 (by decide) ?_
          refine g_icmp_le Z 34 dX6_join_28 (by decide) (fun h28 => ?_) (fun h28 => ?_)
          · refine g_aload_n Z dX6_join_34 rfl ?_
            refine g_iconst (v := 1) Z dX6_join_35 (by decide) ?_
            refine g_cvI Z (f_X6_takeWork F.l F.D F.cy F.nw S x w hxL hxK hxw hw3 1 (by omega)) 1 gX6_join_X6_takeWork rfl (by decide +kernel) (by rw [hRf, hRl]; decide) (by assumption) (κ := 5) (by assumption) rfl (by decide) rfl rfl (Nat.le_of_ble_eq_true rfl) dX6_join_36 (by rw [hRc, hRs]; omega) (fun r1 T1 hq1 => ?_)
            refine g_if_ne Z 45 dX6_join_39 (by decide) (fun h39 => ?_) (fun h39 => ?_)
            · rcases hq1 with ⟨-, h2, -⟩ | ⟨h1, -⟩
              · exact absurd ⟨it, ia, ib, h23, h28, h2⟩ hno
              · exact absurd h1 h39
            · obtain rfl : S = T1 := by
                rcases hq1 with ⟨h1, -⟩ | ⟨-, h2, -⟩
                · rw [h1] at h39; exact absurd h39 (by decide)
                · exact h2
              refine g_bipush (v := (-5)) Z dX6_join_42 (by decide) ?_
              exact g_iret Z dX6_join_44 (by omega) (by omega) (⟨rfl, Or.inl ⟨⟨it, ia, ib, h23, h28⟩, rfl⟩⟩)
          · have hbad : ¬ (isS t ∧ isS a ∧ isS b ∧ ¬ c < 0 ∧ c ≤ 3) := fun q => h28 q.2.2.2.2
            refine g_bipush (v := (-2)) Z dX6_join_31 (by decide) ?_
            exact g_iret Z dX6_join_33 (by omega) (by omega) (⟨rfl, Or.inr ⟨hbad, rfl⟩⟩)

theorem up_c {V V2 : Nat → Sv} {W : Sv} {j i : Nat} (h : ∀ i, i < 8 → V2 i = V i) (hi : i < 8) : va_up V2 j W i = va_up V j W i := by
  by_cases e : i = j
  · subst e; rw [va_up_self, va_up_self]
  · rw [va_up_ne _ _ e, va_up_ne _ _ e]; exact h i hi

set_option maxRecDepth 100000 in
set_option maxHeartbeats 2000000 in
/-- a formula -/
theorem f_X6_formula_w (l : Launch) (D : va_G) (cy : Nat → ClassId) (nw : Nat) (S : PS) (x sa pl la br h n u rd rk rt w fa : Nat) (so O : Nat → Nat) (V : Nat → Sv) (B : Nat → Nat) (hx : FX S nw x sa pl la br h n u rd rk rt w fa so O V B) (jt : Nat) (hjt : jt < 8) (y : Int64) (k : Nat) (hk1 : 1 ≤ k) (hk8 : k ≤ 8) (hhts : hts y k = some 1) (hkw : k ≤ w) : kI l yX6_formula wsX6_formula 6 158 D cy nw [.ref x, .int (nI jt), .long y, .int (nI k)] S (fun r T => ∃ O2 V2, FX T nw x sa pl la br h n u rd rk rt (w - k) fa so O2 V2 B ∧ ((∃ L, evF V y k 0 0 (fun _ => eS) = some L ∧ r = nI (sT (L 0) (L 0).1) ∧ ∀ i, i < 8 → V2 i = va_up V jt (L 0) i) ∨ (evF V y k 0 0 (fun _ => eS) = none ∧ r = -3 ∧ ∀ i, i < 8 → V2 i = V i))) (12 * k) (12288 * k) := by
  refine enterI (cc := cX6_formula) (nL := 5) (ret := (some .int)) (by decide +kernel) rfl (Nat.le_of_ble_eq_true rfl) ?_
  intro F Z hl hR hD hcy hnw hnm
  subst hl hD hcy hnw
  have hRf : F.R.frames = 6 := by rw [hR]
  have hRc : F.R.cells = (12 * k) := by rw [hR]
  have hRs : F.R.slots = (12288 * k) := by rw [hR]
  have hRl : F.R.locals = 158 := by rw [hR]
  have in3 : ∀ w ∈ u_ws RX3 TX3 2, w ∈ wsX6_formula := by decide +kernel
  have in5 : ∀ w ∈ u_ws RX6 TX6 6, w ∈ wsX6_formula := by decide +kernel
  have lk11 : Cond.fieldLink RX6 11 (TX6 0).1 (TX6 0).2.1 (TX6 0).2.2.1 ∈ wsX6_formula := by decide +kernel
  have lk16 : Cond.fieldLink RX6 16 (TX6 1).1 (TX6 1).2.1 (TX6 1).2.2.1 ∈ wsX6_formula := by decide +kernel
  have lk23 : Cond.fieldLink RX6 23 (TX6 2).1 (TX6 2).2.1 (TX6 2).2.2.1 ∈ wsX6_formula := by decide +kernel
  have lk99 : Cond.fieldLink RX6 99 (TX3 0).1 (TX3 0).2.1 (TX3 0).2.2.1 ∈ wsX6_formula := by decide +kernel
  obtain ⟨hFO, hGV, hVok⟩ := id hx
  obtain ⟨hFx, hSa, ⟨dp, hPl⟩, hFb, hFr⟩ := id hFO
  obtain ⟨hxL, hxK, hxO, hsa, hsp, hpl, hbr, hrd, hxw, hw3⟩ := id hFx
  obtain ⟨hsaL, hsaK, hsal, hsas, hsaO⟩ := id hSa
  obtain ⟨be, it, C, hgx⟩ := id hGV
  have hct : (nI jt).toNatClampNeg = jt := nI_clamp (by omega)
  refine g_iload_n Z dX6_formula_0 rfl ?_
  refine g_csI Z (c_X6_isNoSet F.l F.D F.cy F.nw _ _) 1 gX6_formula_X6_isNoSet rfl (by decide +kernel) (by rw [hRf, hRl]; decide) rfl rfl (Nat.le_of_ble_eq_true rfl) dX6_formula_1 (by rw [hRc, hRs]; omega) (fun r0 T0 hq0 => ?_)
  obtain ⟨rfl, hi1⟩ := hq0
  refine g_if_ne Z 16 dX6_formula_4 (by decide) (fun h4 => absurd (isIx_y (by decide) hi1 hjt) h4) (fun h4 => ?_)
  refine g_lload_n Z dX6_formula_7 rfl ?_
  refine g_iload Z dX6_formula_8 rfl ?_
  refine g_csI Z (c_X3_isSound F.l F.D F.cy F.nw _ y _) 2 gX6_formula_X3_isSound rfl (by decide +kernel) (by rw [hRf, hRl]; decide) rfl rfl (Nat.le_of_ble_eq_true rfl) dX6_formula_10 (by rw [hRc, hRs]; omega) (fun r0 T0 hq0 => ?_)
  obtain ⟨rfl, hso⟩ := hq0
  refine g_if_ne Z 19 dX6_formula_13 (by decide) (fun h13 => ?_) (fun h13 => ?_)
  · refine g_aload_n Z dX6_formula_19 rfl ?_
    refine g_iload Z dX6_formula_20 rfl ?_
    refine g_cvI Z (f_X6_takeWork F.l F.D F.cy F.nw S x w hxL hxK hxw hw3 k (by omega)) 1 gX6_formula_X6_takeWork rfl (by decide +kernel) (by rw [hRf, hRl]; decide) (by assumption) (κ := 5) (by assumption) rfl (by decide) rfl rfl (Nat.le_of_ble_eq_true rfl) dX6_formula_22 (by rw [hRc, hRs]; omega) (fun r1 T1 hq1 => ?_)
    refine g_if_ne Z 31 dX6_formula_25 (by decide) (fun h25 => ?_) (fun h25 => ?_)
    · obtain ⟨hle, rfl⟩ : k ≤ w ∧ T1 = S.setI x 5 (nI (w - k)) := by
        rcases hq1 with ⟨-, h2, h3⟩ | ⟨h1, -⟩
        · exact ⟨h2, h3⟩
        · exact absurd h1 h25
      refine g_nw Z (fun hnw1 => ?_)
      have hx1 := hx.work (S := S) (w2 := w - k) hnw1 (by omega)
      generalize S.setI x 5 (nI (w - k)) = T1 at hx1 hnw1 ⊢
      obtain ⟨hFO1, hg1, -⟩ := id hx1
      obtain ⟨⟨hxL1, hxK1, -, hsa1, hsp1, hpl1, hbr1, hrd1, -⟩, hSa1, ⟨dp1, hPl1⟩, hFb1, hFr1⟩ := id hFO1
      obtain ⟨hsaL1, hsaK1, hsal1, hsas1, -⟩ := id hSa1
      obtain ⟨be1, it1, C1, hgx1⟩ := id hg1
      have hsap : sa ≠ pl := fun e => by have := hPl1.2.1; rw [← e, hsaK1] at this; exact absurd this (by decide)
      refine g_aload_n Z dX6_formula_31 rfl ?_
      refine g_getr Z 5 2 rfl (by decide) in5 lk23 dX6_formula_32 (by exact hxL1) (by exact hxK1) (by exact hpl1) ?_
      refine g_lload_n Z dX6_formula_35 rfl ?_
      refine g_iload Z dX6_formula_36 rfl ?_
      refine g_aload_n Z dX6_formula_38 rfl ?_
      refine g_getr Z 5 0 rfl (by decide) in5 lk11 dX6_formula_39 (by exact hxL1) (by exact hxK1) (by exact hsa1) ?_
      refine g_aload_n Z dX6_formula_42 rfl ?_
      refine g_getr Z 5 1 rfl (by decide) in5 lk16 dX6_formula_43 (by exact hxL1) (by exact hxK1) (by exact hsp1) ?_
      refine g_cvI Z (f_X3_evaluate F.l F.D F.cy F.nw T1 so O V hg1 pl la dp1 hPl1 y k hk8 hhts sa hSa1 hsap (fun i hi => (hVok i hi).1)) 4 gX6_formula_X3_evaluate rfl (by decide +kernel) (by rw [hRf, hRl]; decide) (by exact hPl1.1) (κ := 3) (by exact hPl1.2.1) rfl (by decide) rfl rfl (Nat.le_of_ble_eq_true rfl) dX6_formula_46 (by rw [hRc, hRs]; omega) (fun r2 T2 hp => ?_)
      obtain ⟨O2, V2, d2, hO2, hg2, hV2, hgp, hpl2, hr⟩ := hp
      refine g_nw Z (fun hnT => ?_)
      have hx2 : FX T2 F.nw x sa pl la br h n u rd rk rt (w - k) fa so O2 V2 B := ⟨hFO1.gp hg1 hO2 hgp hpl2, hg2, fun i hi => by rw [hV2 i hi]; exact hVok i hi⟩
      obtain ⟨⟨⟨hxL2, hxK2, -, hsa2, hsp2, hplx2, -⟩, ⟨hsaL2, hsaK2, hsal2, hsas2, -⟩, -⟩, -, -⟩ := id hx2
      obtain ⟨hplL2, hplK2, hplla2, hlaL2, hlaK2, hlal2, hlas2, -⟩ := id hpl2
      obtain ⟨be2, it2, C2, hgx2⟩ := id hg2
      have hst2 := (hgx2.1 jt (by omega)).1
      have hs92 := (hgx2.1 9 (by omega)).1
      have hne := (hgx2.ne (i := 9) (j := jt) (by omega) (by omega) (by omega)).2.2.2
      refine g_if_ne Z 55 dX6_formula_49 (by decide) (fun h49 => ?_) (fun h49 => ?_)
      · obtain ⟨L, hms, hL0⟩ : ∃ L, evF V y k 0 0 (fun _ => eS) = some L ∧ V2 9 = L 0 := by
          rcases hr with ⟨e, -⟩ | ⟨-, e⟩
          · exact absurd e h49
          · exact e
        refine g_aload_n Z dX6_formula_55 rfl ?_
        refine g_getr Z 5 0 rfl (by decide) in5 lk11 dX6_formula_56 (by exact hxL2) (by exact hxK2) (by exact hsa2) ?_
        refine g_iload_n Z dX6_formula_59 rfl ?_
        refine g_aald11 Z dX6_formula_60 (by exact hsaL2) (by exact hsaK2) (by exact vin_of hsal2 (by omega) (by decide)) (by rw [hct]; exact hsas2 jt hjt) ?_
        refine g_aload_n Z dX6_formula_61 rfl ?_
        refine g_getr Z 5 2 rfl (by decide) in5 lk23 dX6_formula_62 (by exact hxL2) (by exact hxK2) (by exact hplx2) ?_
        refine g_getr Z 3 0 rfl (by decide) in3 lk99 dX6_formula_65 (by exact hplL2) (by exact hplK2) (by exact hplla2) ?_
        refine g_iconst (v := 0) Z dX6_formula_68 (by decide) ?_
        refine g_aald11 Z dX6_formula_69 (by exact hlaL2) (by exact hlaK2) (by exact vin_of (i := 0) hlal2 (by omega) (by decide)) (by exact hlas2 0 (by omega)) ?_
        refine g_cvV Z (f_X2_exchange F.l F.D F.cy F.nw T2 O2 (so jt) (so 9) _ _ _ _ _ _ _ _ hne hst2 hs92) 1 gX6_formula_X2_exchange rfl (by decide +kernel) (by rw [hRf, hRl]; decide) (by exact hst2.1) (κ := 2) (by exact hst2.2.1) rfl (by decide) rfl rfl (Nat.le_of_ble_eq_true rfl) dX6_formula_70 (by rw [hRc, hRs]; omega) (fun T3 hq3 => ?_)
        obtain ⟨x1, x2, x3⟩ := hq3
        refine g_nw Z (fun hnT3 => ?_)
        obtain ⟨hx3, hsw⟩ := hx2.xch hgx2 hjt (j := 9) (by omega) (by omega) hnT3 x1 x2 x3 (by rw [hL0]; exact ev_ok hVok k 0 0 _ L (fun _ => Vok.eS) hms 0)
        obtain ⟨⟨⟨hxL3, hxK3, -, hsa3, -⟩, ⟨hsaL3, hsaK3, hsal3, hsas3, -⟩, -⟩, ⟨be3, it3, C3, hgx3⟩, -⟩ := id hx3
        have hst3 := (hgx3.1 jt (by omega)).1
        rw [hsw jt hjt, va_up_self] at hst3
        rw [hL0] at hst3
        refine g_aload_n Z dX6_formula_73 rfl ?_
        refine g_getr Z 5 0 rfl (by decide) in5 lk11 dX6_formula_74 (by exact hxL3) (by exact hxK3) (by exact hsa3) ?_
        refine g_iload_n Z dX6_formula_77 rfl ?_
        refine g_aald11 Z dX6_formula_78 (by exact hsaL3) (by exact hsaK3) (by exact vin_of hsal3 (by omega) (by decide)) (by rw [hct]; exact hsas3 jt hjt) ?_
        refine g_cvI Z (f_X2_total F.l F.D F.cy F.nw T3 O2 (be3 jt) (so jt) (it3 jt) (C3 jt) (L 0) hst3) 0 gX6_formula_X2_total rfl (by decide +kernel) (by rw [hRf, hRl]; decide) (by exact hst3.1) (κ := 2) (by exact hst3.2.1) rfl (by decide) rfl rfl (Nat.le_of_ble_eq_true rfl) dX6_formula_79 (by rw [hRc, hRs]; omega) (fun r4 T4 hq4 => ?_)
        obtain ⟨rfl, rfl⟩ := hq4
        exact g_iret Z dX6_formula_82 (by omega) (by omega) (⟨O2, _, hx3, Or.inl ⟨L, hms, rfl, fun i hi => (hsw i hi).trans (by rw [hL0]; exact up_c hV2 hi)⟩⟩)
      · have hmn : evF V y k 0 0 (fun _ => eS) = none := by
          rcases hr with ⟨-, e⟩ | ⟨e, -⟩
          · exact e
          · rw [e] at h49; exact absurd h49 (by decide)
        refine g_bipush (v := (-3)) Z dX6_formula_52 (by decide) ?_
        exact g_iret Z dX6_formula_54 (by omega) (by omega) (⟨O2, V2, hx2, Or.inr ⟨hmn, rfl, hV2⟩⟩)
    · rcases hq1 with ⟨h1, -⟩ | ⟨-, -, h3⟩
      · rw [h1] at h25; exact absurd h25 (by decide)
      · omega
  · rcases hso with ⟨h1, -⟩ | ⟨-, h2⟩
    · rw [h1] at h13; exact absurd h13 (by decide)
    · exact absurd ⟨k, hk1, hk8, rfl, hhts⟩ h2

set_option maxRecDepth 100000 in
set_option maxHeartbeats 2000000 in
/-- a formula that is refused -/
theorem f_X6_formula_n (l : Launch) (D : va_G) (cy : Nat → ClassId) (nw : Nat) (S : PS) (x sa pl la br h n u rd rk rt w fa : Nat) (so O : Nat → Nat) (V : Nat → Sv) (B : Nat → Nat) (hx : FX S nw x sa pl la br h n u rd rk rt w fa so O V B) (t : Int32) (y : Int64) (n0 : Int32) (hno : ¬ (isS t ∧ ∃ k : Nat, 1 ≤ k ∧ k ≤ 8 ∧ n0 = nI k ∧ hts y k = some 1 ∧ k ≤ w)) : kI l yX6_formula wsX6_formula 2 47 D cy nw [.ref x, .int t, .long y, .int n0] S (fun r T => S = T ∧ (((isS t ∧ sound y n0) ∧ r = -5) ∨ (¬ (isS t ∧ sound y n0) ∧ r = -2))) 0 0 := by
  refine enterI (cc := cX6_formula) (nL := 5) (ret := (some .int)) (by decide +kernel) rfl (Nat.le_of_ble_eq_true rfl) ?_
  intro F Z hl hR hD hcy hnw hnm
  subst hl hD hcy hnw
  have hRf : F.R.frames = 2 := by rw [hR]
  have hRc : F.R.cells = 0 := by rw [hR]
  have hRs : F.R.slots = 0 := by rw [hR]
  have hRl : F.R.locals = 47 := by rw [hR]
  obtain ⟨hFO, hGV, hVok⟩ := id hx
  obtain ⟨hFx, hSa, ⟨dp, hPl⟩, hFb, hFr⟩ := id hFO
  obtain ⟨hxL, hxK, hxO, hsa, hsp, hpl, hbr, hrd, hxw, hw3⟩ := id hFx
  obtain ⟨hsaL, hsaK, hsal, hsas, hsaO⟩ := id hSa
  obtain ⟨be, it, C, hgx⟩ := id hGV
  refine g_iload_n Z dX6_formula_0 rfl ?_
  refine g_csI Z (c_X6_isNoSet F.l F.D F.cy F.nw _ _) 1 gX6_formula_X6_isNoSet rfl (by decide +kernel) (by rw [hRf, hRl]; decide) rfl rfl (Nat.le_of_ble_eq_true rfl) dX6_formula_1 (by rw [hRc, hRs]; omega) (fun r0 T0 hq0 => ?_)
  obtain ⟨rfl, hi1⟩ := hq0
  refine g_if_ne Z 16 dX6_formula_4 (by decide) (fun h4 => ?_) (fun h4 => ?_)
  · have hbad : ¬ (isS t ∧ sound y n0) := fun q => isIx_1 (by decide) hi1 h4 q.1
    refine g_bipush (v := (-2)) Z dX6_formula_16 (by decide) ?_
    exact g_iret Z dX6_formula_18 (by omega) (by omega) (⟨rfl, Or.inr ⟨hbad, rfl⟩⟩)
  · have it := isIx_0 hi1 h4
    refine g_lload_n Z dX6_formula_7 rfl ?_
    refine g_iload Z dX6_formula_8 rfl ?_
    refine g_csI Z (c_X3_isSound F.l F.D F.cy F.nw _ y _) 2 gX6_formula_X3_isSound rfl (by decide +kernel) (by rw [hRf, hRl]; decide) rfl rfl (Nat.le_of_ble_eq_true rfl) dX6_formula_10 (by rw [hRc, hRs]; omega) (fun r0 T0 hq0 => ?_)
    obtain ⟨rfl, hso⟩ := hq0
    refine g_if_ne Z 19 dX6_formula_13 (by decide) (fun h13 => ?_) (fun h13 => ?_)
    · have hsd : sound y n0 := by
        rcases hso with ⟨-, h2⟩ | ⟨h1, -⟩
        · exact h2
        · exact absurd h1 h13
      obtain ⟨k, hk1, hk8, rfl, hhts⟩ := id hsd
      refine g_aload_n Z dX6_formula_19 rfl ?_
      refine g_iload Z dX6_formula_20 rfl ?_
      refine g_cvI Z (f_X6_takeWork F.l F.D F.cy F.nw S x w hxL hxK hxw hw3 k (by omega)) 1 gX6_formula_X6_takeWork rfl (by decide +kernel) (by rw [hRf, hRl]; decide) (by assumption) (κ := 5) (by assumption) rfl (by decide) rfl rfl (Nat.le_of_ble_eq_true rfl) dX6_formula_22 (by rw [hRc, hRs]; omega) (fun r1 T1 hq1 => ?_)
      refine g_if_ne Z 31 dX6_formula_25 (by decide) (fun h25 => ?_) (fun h25 => ?_)
      · rcases hq1 with ⟨-, h2, -⟩ | ⟨h1, -⟩
        · exact absurd ⟨it, k, hk1, hk8, rfl, hhts, h2⟩ hno
        · exact absurd h1 h25
      · obtain rfl : S = T1 := by
          rcases hq1 with ⟨h1, -⟩ | ⟨-, h2, -⟩
          · rw [h1] at h25; exact absurd h25 (by decide)
          · exact h2
        refine g_bipush (v := (-5)) Z dX6_formula_28 (by decide) ?_
        exact g_iret Z dX6_formula_30 (by omega) (by omega) (⟨rfl, Or.inl ⟨⟨it, hsd⟩, rfl⟩⟩)
    · have hbad : ¬ (isS t ∧ sound y n0) := fun q => by
        rcases hso with ⟨h1, -⟩ | ⟨-, h2⟩
        · rw [h1] at h13; exact absurd h13 (by decide)
        · exact h2 q.2
      refine g_bipush (v := (-2)) Z dX6_formula_16 (by decide) ?_
      exact g_iret Z dX6_formula_18 (by omega) (by omega) (⟨rfl, Or.inr ⟨hbad, rfl⟩⟩)
