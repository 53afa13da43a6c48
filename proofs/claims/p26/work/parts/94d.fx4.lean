/-- the same, by the kinds of its cells -/
theorem SV.keepK {S T : PS} {nw : Nat} {O O' : Nat → Nat} {b s it : Nat} {C : Nat → Nat} {V : Sv} (hL : ∀ a ∈ S.L, a ∈ T.L) (hO : ∀ a ∈ S.L, (S.K a = 1 ∨ S.K a = 9 ∨ S.K a = 10) → O' a = O a) (hs : Ag S T s) (hA : ∀ a ∈ S.L, (S.K a = 1 ∨ S.K a = 9 ∨ S.K a = 10) → Ag S T a) (hN : nw ∉ T.L) (h : SV S nw O b s it C V) : SV T nw O' b s it C V := by
  obtain ⟨h1, h2, h3, h4, h5, ⟨g1, g2, g3, g4, g5, g6, g7⟩, h7⟩ := h
  have hk9 : ∀ i, i < 7 → ∀ w, S.fr (C i) 3 = some w → w ∈ S.L → S.K w = 9 := by
    intro i hi w hw hwL
    rcases (g5 i hi).2.1.2.2.2 with h | ⟨v, h, -, hv, -⟩
    · rw [hw] at h; cases h; exact absurd (hL _ hwL) hN
    · rw [hw] at h; cases h; exact hv
  have ai := hA it g1 (Or.inr (Or.inr g2))
  have ac : ∀ i, i < 7 → Ag S T (C i) := fun i hi => hA _ (g5 i hi).2.1.1 (Or.inl (g5 i hi).2.1.2.1)
  have aw : ∀ i, i < 7 → ∀ w, S.fr (C i) 3 = some w → w ∈ S.L → Ag S T w := fun i hi w hw hwL => hA w hwL (Or.inr (Or.inl (hk9 i hi w hw hwL)))
  have back : ∀ i, i < 7 → ∀ w, T.fr (C i) 3 = some w → w ∈ T.L → S.fr (C i) 3 = some w ∧ w ∈ S.L := by
    intro i hi w hw hwT
    rw [(ac i hi).2.2.1] at hw
    rcases (g5 i hi).2.1.2.2.2 with h | ⟨v, h, hv, -⟩
    · rw [hw] at h; cases h; exact absurd hwT hN
    · rw [hw] at h; cases h; exact ⟨hw, hv⟩
  refine ⟨hL s h1, hs.1.trans h2, by rw [hs.2.2.1]; exact h3, by rw [hs.2.1]; exact h4, h5, ⟨hL it g1, ai.1.trans g2, ai.2.2.2.1.trans g3, (hO it g1 (Or.inr (Or.inr g2))).trans g4, fun i hi => ?_, g6, fun i j w hi hj hwT hw1 hw2 => ?_⟩, fun i hi => Cv.keep hL (ac i (by omega)) (aw i (by omega)) (h7 i hi)⟩
  · obtain ⟨e1, e2, e3, e4⟩ := g5 i hi
    refine ⟨by rw [ai.2.2.2.2.2.2]; exact e1, Cw.keep hL (ac i hi) (fun w hw hwL => ⟨(aw i hi w hw hwL).1, (aw i hi w hw hwL).2.2.2.1⟩) e2, (hO _ e2.1 (Or.inl e2.2.1)).trans e3, fun w hw hwT => ?_⟩
    obtain ⟨p1, p2⟩ := back i hi w hw hwT
    exact (hO w p2 (Or.inr (Or.inl (hk9 i hi w p1 p2)))).trans (e4 w p1 p2)
  · obtain ⟨p1, p2⟩ := back i hi w hw1 hwT
    obtain ⟨q1, -⟩ := back j hj w hw2 hwT
    exact g7 i j w hi hj p2 p1 q1

section FXS3
variable {S U : PS} {nw x sa pl la br h n u rd rk rt w fa h2 n2 u2 : Nat} {so O O2 : Nat → Nat} {V : Nat → Sv} {B B2 : Nat → Nat}
/-- only the bytes have changed -/
theorem FX.byt (k : FX S nw x sa pl la br h n u rd rk rt w fa so O V B) (hR : Rl Pb S U) (hb : ByV U br h2 n2 u2 B2) (hn : nw ∉ U.L) : ∃ O2, FX U nw x sa pl la br h2 n2 u2 rd rk rt w fa so O2 V B2 := by
  have hc := k.1.cells
  obtain ⟨⟨k1, k2, ⟨d, k3⟩, k4, k5⟩, kg, kv⟩ := k
  have hL : ∀ a ∈ S.L, a ∈ U.L := fun a ha => (hR a ha).1
  have h7 : ∀ a ∈ S.L, S.K a ≠ 7 → a ≠ h2 := fun a ha hk e => hk (by rw [← (hR a ha).2.1, e]; exact hb.1.2.2.2.2.1)
  have hO : ∀ a, O a = 17 → va_up O h2 17 a = 17 := by
    intro a ha
    by_cases e : a = h2
    · rw [e, va_up_self]
    · rw [va_up_ne _ _ e]; exact ha
  have ag : ∀ a ∈ S.L, S.K a ≠ 0 → S.K a ≠ 7 → Ag S U a := fun a ha h0 h1 => hR.ag ha (fun q => q.elim h0 h1)
  refine ⟨va_up O h2 17, ⟨?_, ?_, ⟨d, ?_⟩, ⟨hb, hO _ k4.2.1, va_up_self _ _ _⟩, ?_⟩, ?_, kv⟩
  · obtain ⟨a1, a2, a3, a4, a5, a6, a7, a8, a9, a10⟩ := k1
    have ha := ag x a1 (by rw [a2]; decide) (by rw [a2]; decide)
    exact ⟨hL _ a1, ha.1.trans a2, hO _ a3, by rw [ha.2.2.1]; exact a4, by rw [ha.2.2.1]; exact a5, by rw [ha.2.2.1]; exact a6, by rw [ha.2.2.1]; exact a7, by rw [ha.2.2.1]; exact a8, by rw [ha.2.1]; exact a9, a10⟩
  · obtain ⟨a1, a2, a3, a4, a5⟩ := k2
    have ha := ag sa a1 (by rw [a2]; decide) (by rw [a2]; decide)
    exact ⟨hL _ a1, ha.1.trans a2, ha.2.2.2.1.trans a3, fun i hi => by rw [ha.2.2.2.2.2.2]; exact a4 i hi, hO _ a5⟩
  · obtain ⟨a1, a2, a3, a4, a5, a6, a7, a8, a9, a10⟩ := k3
    have ha := ag pl a1 (by rw [a2]; decide) (by rw [a2]; decide)
    have hb2 := ag la a4 (by rw [a5]; decide) (by rw [a5]; decide)
    exact ⟨hL _ a1, ha.1.trans a2, by rw [ha.2.2.1]; exact a3, hL _ a4, hb2.1.trans a5, hb2.2.2.2.1.trans a6, fun i hi => by rw [hb2.2.2.2.2.2.2]; exact a7 i hi, by rw [ha.2.1]; exact a8, hO _ a9, hO _ a10⟩
  · obtain ⟨a1, a2, a3, a4, a5⟩ := k5
    have ha := ag rd a1.1 (by rw [a1.2.1]; decide) (by rw [a1.2.1]; decide)
    have hb2 := ag rk a1.2.2.2.1 (by rw [a1.2.2.2.2.1]; decide) (by rw [a1.2.2.2.2.1]; decide)
    have hc2 := ag rt a1.2.2.2.2.2.2.2.1 (by rw [a1.2.2.2.2.2.2.2.2.1]; decide) (by rw [a1.2.2.2.2.2.2.2.2.1]; decide)
    exact ⟨a1.ag hL ha hb2 hc2, hO _ a2, hO _ a3, hO _ a4, by rw [ha.2.1]; exact a5⟩
  · obtain ⟨be, it, C, g1, g2, g3⟩ := kg
    refine ⟨be, it, C, fun i hi => ?_, g2, g3⟩
    obtain ⟨q1, q2, q3⟩ := g1 i hi
    refine ⟨SV.keepK hL (fun a ha hk => va_up_ne _ _ (h7 a ha (by omega))) (ag _ q1.1 (by rw [q1.2.1]; decide) (by rw [q1.2.1]; decide)) (fun a ha hk => ag a ha (by omega) (by omega)) hn q1, hO _ q2, q3⟩
/-- the set read, and the fault -/
theorem FX.read {be it : Nat → Nat} {C : Nat → Nat → Nat} {o : Rsv} {r : Int32} (k : FX S nw x sa pl la br h n u rd rk rt w fa so O V B) (hgx : GX S nw O so be it C V) (hn : nw ∉ U.L) (ht : TsP S nw O (be 8) (so 8) (it 8) rd rk rt o r U) : ∃ O2 W fa2, FX U nw x sa pl la br h n u rd rk rt w fa2 so O2 (va_up V 8 W) B ∧ ((∃ f g, o = .inl (f, g) ∧ r = 0 ∧ fa2 = f ∧ U.fi rd 1 = nI g) ∨ (∃ V2, o = .inr V2 ∧ r = 1 ∧ fa2 = 0 ∧ W = V2)) := by
  have hc := k.1.cells
  obtain ⟨⟨k1, k2, ⟨d, k3⟩, k4, k5⟩, kg, kv⟩ := id k
  obtain ⟨O2, C2, W, h1, h2, h3, h4, h5⟩ := ht
  obtain ⟨g1, g2, g3⟩ := hgx
  have b17 := (g1 8 (by omega)).2.2
  have hrk := k5.1.2.2.2.2.1
  have hrt := k5.1.2.2.2.2.2.2.2.2.1
  have hrd := k5.1.2.1
  have ag : ∀ a, (a = x ∨ a = sa ∨ a = pl ∨ a = la ∨ a = br ∨ a = h ∨ a = rd ∨ a = rk ∨ a = rt) → S.K a ≠ 4 → S.K a ≠ 8 → Ag S U a := by
    intro a ha e4 e8
    obtain ⟨c1, c2, c3⟩ := hc a ha
    refine h2.2 a c1 (fun q => ?_)
    rcases q with q | q | q | q | q
    · omega
    · exact c3 (by rw [q]; exact (g1 8 (by omega)).1.2.1)
    · exact e4 (by rw [q]; exact hrd)
    · exact e8 (by rw [q]; exact hrk)
    · exact e8 (by rw [q]; exact hrt)
  have fin : ∀ fa2, U.fi rd 0 = nI fa2 → FX U nw x sa pl la br h n u rd rk rt w fa2 so O2 (va_up V 8 W) B := by
    intro fa2 hf
    refine ⟨⟨k1.ag h2.1 h1 (ag x (by simp) (by rw [k1.2.1]; decide) (by rw [k1.2.1]; decide)), k2.ag h2.1 h1 (ag sa (by simp) (by rw [k2.2.1]; decide) (by rw [k2.2.1]; decide)), ⟨d, k3.ag h2.1 h1 (ag pl (by simp) (by rw [k3.2.1]; decide) (by rw [k3.2.1]; decide)) (ag la (by simp) (by rw [k3.2.2.2.2.1]; decide) (by rw [k3.2.2.2.2.1]; decide))⟩, k4.ag h2.1 h1 (ag br (by simp) (by rw [k4.1.1.2.1]; decide) (by rw [k4.1.1.2.1]; decide)) (ag h (by simp) (by rw [k4.1.1.2.2.2.2.1]; decide) (by rw [k4.1.1.2.2.2.2.1]; decide)), h4, (h1 _ k5.1.1).trans k5.2.1, (h1 _ k5.1.2.2.2.1).trans k5.2.2.1, (h1 _ k5.1.2.2.2.2.2.2.2.1).trans k5.2.2.2.1, hf⟩, ⟨be, it, va_up C 8 C2, fun i hi => ?_, g2, g3⟩, fun i hi => by rw [va_up_ne _ _ (by omega)]; exact kv i hi⟩
    obtain ⟨q1, q2, q3⟩ := g1 i hi
    refine ⟨?_, (h1 _ q1.1).trans q2, q3⟩
    by_cases e : i = 8
    · subst e; rw [va_up_self, va_up_self]; exact h3
    · rw [va_up_ne _ _ e, va_up_ne _ _ e]
      have nr : ∀ a, a = rd ∨ a = rk ∨ a = rt → O a = 17 := by
        intro a ha
        rcases ha with rfl | rfl | rfl
        · exact k5.2.1
        · exact k5.2.2.1
        · exact k5.2.2.2.1
      refine SV.keep h2.1 h1 (h2.2 _ q1.1 (fun q => ?_)) (fun a ha e2 => h2.2 a ha (fun q => ?_)) hn q1
      · rcases q with q | q | q
        · omega
        · exact e (g2 _ _ hi (by omega) q)
        · have q1K := q1.2.1
          rcases q with q | q | q <;> rw [q] at q1K <;> omega
      · rcases q with q | q | q
        · exact e (g3 _ _ hi (by omega) (e2.symm.trans q))
        · rw [q, (g1 8 (by omega)).2.1] at e2; omega
        · have := nr a q; omega
  rcases o with ⟨f, g⟩ | V2
  · exact ⟨O2, W, f, fin f h5.2.1, Or.inl ⟨f, g, rfl, h5.1, rfl, h5.2.2⟩⟩
  · exact ⟨O2, W, 0, fin 0 h5.2.2, Or.inr ⟨V2, rfl, h5.1, rfl, h5.2.1⟩⟩
end FXS3
/-! WHAT IS READ IS SOUND -/
theorem rg_far {h : Int32} {f t j : Nat} {W : Nat → Int64} (ht : t < 65536) (hj : 1024 ≤ j) : rg h f t W j = W j := by
  unfold rg rgW
  rw [if_neg (by omega)]
theorem tot_rg1 {W : Nat → Int64} {l : Nat} (hl : l < 65536) (h : cb W 0 l = 0) : tot (rg 0 l l W) = tot W + 1 := by
  have hT : Tn W (rg 0 l l W) 0 l := ⟨by rw [rg_bit 0 hl, if_pos ⟨Nat.le_refl _, Nat.le_refl _⟩, h]; rfl, fun d k hk hd => by
    by_cases e : d = 0
    · subst e
      have : k ≠ l := hd.resolve_left (fun q => q rfl)
      rw [rg_bit 0 hl, if_neg (by omega)]
    · unfold cb
      rw [rg_far (by omega) (show 1024 ≤ 1024 * d + k / 64 by omega)]⟩
  have := tn_all hT hl
  rw [← tot_ct, ← tot_ct, h] at this
  omega
theorem rdAr_tot {B : Nat → Nat} {e : Nat} (hB : ∀ i, i < e → B i < 256) : ∀ (m p a : Nat) (R : Nat → Int64) (q : Nat) (W : Nat → Int64), (∀ l, a ≤ l → cb R 0 l = 0) → rdAr B e m p a R = .inr (q, W) → tot W = tot R + m
  | 0, p, a, R, q, W, hR, h => by cases h; rfl
  | m + 1, p, a, R, q, W, hR, h => by
    unfold rdAr at h
    by_cases h1 : p + 2 ≤ e
    · rw [if_pos h1] at h
      by_cases h2 : nuB B p 2 < a
      · rw [if_pos h2] at h; cases h
      · rw [if_neg h2] at h
        have hl : nuB B p 2 < 65536 := nu2 (fun i hi => hB _ (by omega))
        have ih := rdAr_tot hB m _ _ _ _ _ (fun l hl2 => by rw [rg_bit 0 hl, if_neg (by omega)]; exact hR l (by omega)) h
        rw [tot_rg1 hl (hR _ (by omega))] at ih
        omega
    · rw [if_neg h1] at h; cases h
theorem rdCo_ok {B : Nat → Nat} {e rb i tt p q : Nat} {W : Nat → Int64} (hB : ∀ i, i < e → B i < 256) (h : rdCo B e rb i tt p = .inr (q, W)) : tot W = tt := by
  unfold rdCo at h
  by_cases h1 : rb / 2 ^ i % 2 = 0
  · rw [if_pos h1] at h
    by_cases h2 : tt ≤ 4096
    · rw [if_pos h2] at h
      have := rdAr_tot hB _ _ _ _ _ _ (fun l _ => by rw [cbz]; show wv 0 / _ % 2 = 0; rw [show wv 0 = 0 from rfl]; simp) h
      rw [tot_zW] at this
      omega
    · rw [if_neg h2] at h
      unfold rdBm at h
      by_cases h3 : p + 8192 ≤ e
      · rw [if_pos h3] at h
        by_cases h4 : tot (bmU B p zW 1024) = tt
        · rw [if_pos h4] at h; cases h; exact h4
        · rw [if_neg h4] at h; cases h
      · rw [if_neg h3] at h; cases h
  · rw [if_neg h1] at h
    unfold rdRn at h
    by_cases h3 : p + 2 ≤ e
    · rw [if_pos h3] at h; exact (rdFi_in h).2
    · rw [if_neg h3] at h; cases h
theorem kdR_ok (rb i tt : Nat) : kdR rb i tt = 0 ∨ kdR rb i tt = 1 ∨ kdR rb i tt = 2 := by
  unfold kdR
  by_cases h1 : rb / 2 ^ i % 2 = 0
  · rw [if_pos h1]
    by_cases h2 : tt ≤ 4096
    · rw [if_pos h2]; exact Or.inl rfl
    · rw [if_neg h2]; exact Or.inr (Or.inl rfl)
  · rw [if_neg h1]; exact Or.inr (Or.inr rfl)
theorem rdHs_up {B : Nat → Nat} {e p : Nat} : ∀ (m i : Nat), rdHs B e p m i = none → ∀ j, i ≤ j → 0 < j → j < i + m → kyR B p (j - 1) < kyR B p j
  | 0, i, _, j, h1, _, h3 => by omega
  | m + 1, i, h, j, h1, h0, h3 => by
    by_cases a1 : p + 4 * i + 2 ≤ e
    · by_cases a2 : 0 < i ∧ kyR B p i ≤ kyR B p (i - 1)
      · rw [rdHs_2 a1 a2] at h; cases h
      · by_cases a3 : p + 4 * i + 4 ≤ e
        · rw [rdHs_4 a1 a2 a3] at h
          by_cases e2 : j = i
          · subst e2; exact Nat.lt_of_not_le (fun q => a2 ⟨h0, q⟩)
          · exact rdHs_up m (i + 1) h j (by omega) h0 (by omega)
        · rw [rdHs_3 a1 a2 a3] at h; cases h
    · rw [rdHs_1 a1] at h; cases h
theorem rdCs_ok {B : Nat → Nat} {e p0 rb n : Nat} {pf : Option Nat} {W : Sv} (hB : ∀ i, i < e → B i < 256) (hn : n ≤ 6) (hp0 : p0 + 4 * n ≤ e) (hup : ∀ j, 0 < j → j < n → kyR B p0 (j - 1) < kyR B p0 j) : ∀ (m i p : Nat) (V : Sv), i + m = n → V.1 = i → VokP V (if i < n then kyR B p0 i else 65536) → rdCs B e p0 rb pf m i p V = .inr W → Vok W
  | 0, i, p, V, h1, h2, hV, h => by
    have h3 : (if p = e then Sum.inr V else Sum.inl (9, p) : Rsv) = .inr W := h
    by_cases e1 : p = e
    · rw [if_pos e1] at h3; cases h3
      exact ⟨by omega, hV.1, fun i hi => ⟨(hV.2 i hi).1, (hV.2 i hi).2.1, (hV.2 i hi).2.2.1⟩⟩
    · rw [if_neg e1] at h3; cases h3
  | m + 1, i, p, V, h1, h2, hV, h => by
    cases hct : rdCt B e rb i (toR B p0 i) p pf with
    | inl f => rw [rdCs_f hct] at h; cases h
    | inr o =>
      obtain ⟨q, W2⟩ := o
      rw [rdCs_y hct] at h
      have hky : kyR B p0 i < 65536 := nu2 (fun j hj => hB _ (by omega))
      have ht := rdCo_ok hB (rdCt_co hct)
      rw [if_pos (show i < n by omega)] at hV
      refine rdCs_ok hB hn hp0 hup m (i + 1) q _ (by omega) (by show V.1 + 1 = i + 1; omega) (hV.psh (a := (kyR B p0 i, kdR rb i (toR B p0 i), W2)) (Nat.le_refl _) ?_ hky (by show 0 < tot W2; rw [ht]; unfold toR; omega) (kdR_ok _ _ _)) h
      show kyR B p0 i < _
      by_cases e1 : i + 1 < n
      · rw [if_pos e1]; exact hup (i + 1) (by omega) e1
      · rw [if_neg e1]; exact hky
theorem rdSe_ok {B : Nat → Nat} {e : Nat} {W : Sv} (hB : ∀ i, i < e → B i < 256) (h : rdSe B e = .inr W) : Vok W := by
  cases hmk : rdMk B e with
  | inl f => rw [rdSe_1 hmk] at h; cases h
  | inr o =>
    obtain ⟨n, pl, rb, p⟩ := o
    obtain ⟨hn, -, -, hp⟩ := rdMk_ok hB hmk
    cases hhs : rdHs B e p n 0 with
    | some f => rw [rdSe_2 hmk hhs] at h; cases h
    | none =>
      have hp4 := rdHs_le n 0 (by omega) hhs
      cases hpc : rdPc e (p + 4 * n) n pl with
      | inl f => rw [rdSe_3 hmk hhs hpc] at h; cases h
      | inr o2 =>
        obtain ⟨q, pf⟩ := o2
        rw [rdSe_4 hmk hhs hpc] at h
        exact rdCs_ok hB hn (by omega) (fun j h0 h1 => rdHs_up n 0 hhs j (Nat.zero_le _) h0 (by omega)) n 0 q eS (by omega) rfl VokP.eS h

theorem alt_nar {v : Nat} (hv : v < 256) : vp_nar .byte (nI v).toInt8.toInt32 &&& 255 = nI v := by
  rw [pk_vb]
  exact sc_k8 v hv
theorem lN_wvx (y : Int64) : y = lN (wv y) := (lN_wv y).symm

set_option maxRecDepth 100000 in
set_option maxHeartbeats 2000000 in
/-- a set is written -/
theorem f_X6_write_w (l : Launch) (D : va_G) (cy : Nat → ClassId) (nw : Nat) (S : PS) (x sa pl la br h n u rd rk rt w fa : Nat) (so O : Nat → Nat) (V : Nat → Sv) (B : Nat → Nat) (hx : FX S nw x sa pl la br h n u rd rk rt w fa so O V B) (j : Nat) (hj : j < 8) (hbo : (seL (V j)).length ≤ 60000) : kI l yX6_write wsX6_write 7 175 D cy nw [.ref x, .int (nI j)] S (fun r T => ∃ h2 O2, r = nI (seL (V j)).length ∧ FX T nw x sa pl la br h2 (bN n 0 (seL (V j)).length) (seL (V j)).length rd rk rt w fa so O2 V (fun i => (seL (V j)).getD i 0)) (bG n 0 (seL (V j)).length) (60000 * bG n 0 (seL (V j)).length) := by
  refine enterI (cc := cX6_write) (nL := 2) (ret := (some .int)) (by decide +kernel) rfl (Nat.le_of_ble_eq_true rfl) ?_
  intro F Z hl hR hD hcy hnw hnm
  subst hl hD hcy hnw
  have hRf : F.R.frames = 7 := by rw [hR]
  have hRc : F.R.cells = (bG n 0 (seL (V j)).length) := by rw [hR]
  have hRs : F.R.slots = (60000 * bG n 0 (seL (V j)).length) := by rw [hR]
  have hRl : F.R.locals = 175 := by rw [hR]
  have in0 : ∀ w ∈ u_ws RX0 TX0 2, w ∈ wsX6_write := by decide +kernel
  have in5 : ∀ w ∈ u_ws RX6 TX6 6, w ∈ wsX6_write := by decide +kernel
  have lk11 : Cond.fieldLink RX6 11 (TX6 0).1 (TX6 0).2.1 (TX6 0).2.2.1 ∈ wsX6_write := by decide +kernel
  have lk30 : Cond.fieldLink RX6 30 (TX6 3).1 (TX6 3).2.1 (TX6 3).2.2.1 ∈ wsX6_write := by decide +kernel
  have lk154 : Cond.fieldLink RX6 154 (TX0 1).1 (TX0 1).2.1 (TX0 1).2.2.1 ∈ wsX6_write := by decide +kernel
  have ct153 : Cond.constant RX6 153 (60000) ∈ wsX6_write := by decide +kernel
  obtain ⟨hFO, hGV, hVok⟩ := id hx
  obtain ⟨hFx, hSa, ⟨dp, hPl⟩, hFb, hFr⟩ := id hFO
  obtain ⟨hxL, hxK, hxO, hsa, hsp, hpl, hbr, hrd, hxw, hw3⟩ := id hFx
  obtain ⟨hsaL, hsaK, hsal, hsas, hsaO⟩ := id hSa
  obtain ⟨be, it, C, hgx⟩ := id hGV
  obtain ⟨hBV, hbO, hhO⟩ := id hFb
  obtain ⟨⟨hbL, hbK, hbh, hhL, hhK, hhl, hn2, hbu, hun, hfit⟩, hB8⟩ := id hBV
  have hsv := (hgx.1 j (by omega)).1
  have hcj : (nI j).toNatClampNeg = j := nI_clamp (by omega)
  have hsL := hsv.1
  have hsK := hsv.2.1
  have hb1 : ByL (S.setI br 1 (nI 0)) br h n [] := ⟨⟨hbL, hbK, hbh, hhL, hhK, hhl, hn2, up2_self _ _ _ _, by show 0 ≤ n; omega, hfit⟩, fun i hi => absurd hi (Nat.not_lt_zero _)⟩
  have hR1 : Rl Pb S (S.setI br 1 (nI 0)) := Rl.rf.setI (by rw [hbK]; exact Or.inl rfl)
  have hsq1 : SQ (S.setI br 1 (nI 0)) F.nw (so j) (it j) (V j) := hR1.sq hsv.sq
  refine g_iload_n Z dX6_write_0 rfl ?_
  refine g_csI Z (c_X6_isNoSet F.l F.D F.cy F.nw _ _) 1 gX6_write_X6_isNoSet rfl (by decide +kernel) (by rw [hRf, hRl]; decide) rfl rfl (Nat.le_of_ble_eq_true rfl) dX6_write_1 (by rw [hRc, hRs]; omega) (fun r0 T0 hq0 => ?_)
  obtain ⟨rfl, hi⟩ := hq0
  refine g_if_eq Z 10 dX6_write_4 (by decide) (fun h4 => ?_) (fun h4 => absurd (isIx_y (by decide) hi hj) h4)
  refine g_aload_n Z dX6_write_10 rfl ?_
  refine g_getr Z 5 0 rfl (by decide) in5 lk11 dX6_write_11 (by assumption) (by assumption) (by assumption) ?_
  refine g_iload_n Z dX6_write_14 rfl ?_
  refine g_aald11 Z dX6_write_15 (by assumption) (by assumption) (by exact vin_of hsal (by omega) (by decide)) (by rw [hcj]; exact hsas j hj) ?_
  refine g_csI Z (c_X5_bytesOf F.l F.D F.cy F.nw S (so j) (it j) (V j).1 hsv.at) 1 gX6_write_X5_bytesOf rfl (by decide +kernel) (by rw [hRf, hRl]; decide) rfl rfl (Nat.le_of_ble_eq_true rfl) dX6_write_16 (by rw [hRc, hRs]; exact ⟨Nat.zero_le _, Nat.zero_le _⟩) (fun r1 T1 hq1 => ?_)
  obtain ⟨rfl, rfl⟩ := hq1
  rw [hsv.sq.bo (V j).1 (Nat.le_refl _), ← seL_len]
  refine g_ldc (v := 60000) Z dX6_write_19 ct153 ?_
  refine g_icmp_le Z 27 dX6_write_21 (by decide) (fun h21 => ?_) (fun h21 => absurd ((nI_leI (b := 60000) (by omega) (by decide)).mpr hbo) h21)
  refine g_aload_n Z dX6_write_27 rfl ?_
  refine g_getr Z 5 3 rfl (by decide) in5 lk30 dX6_write_28 (by assumption) (by assumption) (by assumption) ?_
  refine g_iconst (v := 0) Z dX6_write_31 (by decide) ?_
  refine g_puti Z 0 1 rfl (by decide) tyX0 tyX0_ok nmX0 rfl in0 lk154 dX6_write_32 rfl rfl (by exact hbL) (by exact hbK) ?_
  refine g_aload_n Z dX6_write_35 rfl ?_
  refine g_getr Z 5 0 rfl (by decide) in5 lk11 dX6_write_36 (by exact hxL) (by exact hxK) (by exact hsa) ?_
  refine g_iload_n Z dX6_write_39 rfl ?_
  refine g_aald11 Z dX6_write_40 (by assumption) (by assumption) (by exact vin_of hsal (by omega) (by decide)) (by rw [hcj]; exact hsas j hj) ?_
  refine g_aload_n Z dX6_write_41 rfl ?_
  refine g_getr Z 5 3 rfl (by decide) in5 lk30 dX6_write_42 (by exact hxL) (by exact hxK) (by exact hbr) ?_
  refine g_csV Z (f_X5_putSet F.l F.D F.cy F.nw (S.setI br 1 (nI 0)) (so j) (it j) (V j) hsq1 br h n [] hb1 (fun i hi => ((hVok j hj).2.2 i hi).2.1) (by show 0 + (seL (V j)).length ≤ 60000; omega)) 2 gX6_write_X5_putSet rfl (by decide +kernel) (by rw [hRf, hRl]; decide) rfl rfl (Nat.le_of_ble_eq_true rfl) dX6_write_45 (by rw [hRc, hRs]; exact ⟨Nat.le_of_eq (Nat.zero_add _), Nat.le_of_eq (Nat.zero_add _)⟩) (fun T2 hp => ?_)
  obtain ⟨hR2, h2, hb2⟩ := hp
  refine g_nw Z (fun hnT => ?_)
  obtain ⟨O2, hx2⟩ := hx.byt (hR1.tr hR2) hb2 hnT
  obtain ⟨⟨⟨hxL2, hxK2, -, -, -, -, hbr2, -⟩, -, -, -, -⟩, -, -⟩ := id hx2
  have hbu2 := hb2.1.2.2.2.2.2.2.2.1
  refine g_aload_n Z dX6_write_48 rfl ?_
  refine g_getr Z 5 3 rfl (by decide) in5 lk30 dX6_write_49 (by exact hxL2) (by exact hxK2) (by exact hbr2) ?_
  refine g_geti Z 0 1 rfl (by decide) in0 lk154 dX6_write_52 (by exact hb2.1.1) (by exact hb2.1.2.1) ?_
  rw [hbu2]
  exact g_iret Z dX6_write_55 (by exact Nat.le_of_eq (Nat.zero_add _)) (by exact Nat.le_of_eq (Nat.zero_add _)) (⟨h2, O2, rfl, hx2⟩)

theorem boN_lf (a : Cn) : boN a ≤ 2 + 4 * 65536 := by
  unfold boN
  have h1 := tot_le a.2.2
  have h2 := rnT_le a.2.2
  by_cases e : a.2.1 = 0
  · rw [if_pos e]; omega
  · rw [if_neg e]
    by_cases e2 : a.2.1 = 1
    · rw [if_pos e2]; omega
    · rw [if_neg e2]; omega
theorem boS_lf (V : Sv) : ∀ k, boS V boN k ≤ k * (2 + 4 * 65536)
  | 0 => Nat.le_refl _
  | k + 1 => by
    have h1 := boS_lf V k
    have h2 := boN_lf (V.2 k)
    show boS V boN k + boN (V.2 k) ≤ _
    rw [Nat.succ_mul]
    omega
theorem seL_lt {V : Sv} (h : V.1 ≤ 6) : (seL V).length < 2 ^ 30 := by
  rw [seL_len]
  have h1 := boS_lf V V.1
  have h2 : V.1 * (2 + 4 * 65536) ≤ 6 * (2 + 4 * 65536) := Nat.mul_le_mul_right _ h
  have h3 : hdN V ≤ 8 + 4 * V.1 + 4 * V.1 := by
    unfold hdN
    by_cases e : hsR V = 0 <;> by_cases e2 : hsP V <;> simp only [e, e2, if_true, if_false] <;> omega
  omega

set_option maxRecDepth 100000 in
set_option maxHeartbeats 2000000 in
/-- a set that is too long, or none -/
theorem f_X6_write_n (l : Launch) (D : va_G) (cy : Nat → ClassId) (nw : Nat) (S : PS) (x sa pl la br h n u rd rk rt w fa : Nat) (so O : Nat → Nat) (V : Nat → Sv) (B : Nat → Nat) (hx : FX S nw x sa pl la br h n u rd rk rt w fa so O V B) (a : Int32) (hno : ∀ j : Nat, a = nI j → j < 8 → ¬ (seL (V j)).length ≤ 60000) : kI l yX6_write wsX6_write 5 106 D cy nw [.ref x, .int a] S (fun r T => S = T ∧ ((isS a ∧ r = -4) ∨ (¬ isS a ∧ r = -2))) 0 0 := by
  refine enterI (cc := cX6_write) (nL := 2) (ret := (some .int)) (by decide +kernel) rfl (Nat.le_of_ble_eq_true rfl) ?_
  intro F Z hl hR hD hcy hnw hnm
  subst hl hD hcy hnw
  have hRf : F.R.frames = 5 := by rw [hR]
  have hRc : F.R.cells = 0 := by rw [hR]
  have hRs : F.R.slots = 0 := by rw [hR]
  have hRl : F.R.locals = 106 := by rw [hR]
  have in5 : ∀ w ∈ u_ws RX6 TX6 6, w ∈ wsX6_write := by decide +kernel
  have lk11 : Cond.fieldLink RX6 11 (TX6 0).1 (TX6 0).2.1 (TX6 0).2.2.1 ∈ wsX6_write := by decide +kernel
  have ct153 : Cond.constant RX6 153 (60000) ∈ wsX6_write := by decide +kernel
  obtain ⟨hFO, hGV, hVok⟩ := id hx
  obtain ⟨hFx, hSa, ⟨dp, hPl⟩, hFb, hFr⟩ := id hFO
  obtain ⟨hxL, hxK, hxO, hsa, hsp, hpl, hbr, hrd, hxw, hw3⟩ := id hFx
  obtain ⟨hsaL, hsaK, hsal, hsas, hsaO⟩ := id hSa
  obtain ⟨be, it, C, hgx⟩ := id hGV
  refine g_iload_n Z dX6_write_0 rfl ?_
  refine g_csI Z (c_X6_isNoSet F.l F.D F.cy F.nw _ _) 1 gX6_write_X6_isNoSet rfl (by decide +kernel) (by rw [hRf, hRl]; decide) rfl rfl (Nat.le_of_ble_eq_true rfl) dX6_write_1 (by rw [hRc, hRs]; omega) (fun r0 T0 hq0 => ?_)
  obtain ⟨rfl, hi⟩ := hq0
  refine g_if_eq Z 10 dX6_write_4 (by decide) (fun h4 => ?_) (fun h4 => ?_)
  · obtain ⟨j, hj, rfl⟩ := isIx_0 hi h4
    have hsv := (hgx.1 j (by omega)).1
    have hcj : (nI j).toNatClampNeg = j := nI_clamp (by omega)
    have hsL := hsv.1
    have hsK := hsv.2.1
    refine g_aload_n Z dX6_write_10 rfl ?_
    refine g_getr Z 5 0 rfl (by decide) in5 lk11 dX6_write_11 (by assumption) (by assumption) (by assumption) ?_
    refine g_iload_n Z dX6_write_14 rfl ?_
    refine g_aald11 Z dX6_write_15 (by assumption) (by assumption) (by exact vin_of hsal (by omega) (by decide)) (by rw [hcj]; exact hsas j hj) ?_
    refine g_csI Z (c_X5_bytesOf F.l F.D F.cy F.nw S (so j) (it j) (V j).1 hsv.at) 1 gX6_write_X5_bytesOf rfl (by decide +kernel) (by rw [hRf, hRl]; decide) rfl rfl (Nat.le_of_ble_eq_true rfl) dX6_write_16 (by rw [hRc, hRs]; omega) (fun r1 T1 hq1 => ?_)
    obtain ⟨rfl, rfl⟩ := hq1
    rw [hsv.sq.bo (V j).1 (Nat.le_refl _), ← seL_len]
    have hlen := seL_lt (hVok j hj).1
    refine g_ldc (v := 60000) Z dX6_write_19 ct153 ?_
    refine g_icmp_le Z 27 dX6_write_21 (by decide) (fun h21 => ?_) (fun h21 => ?_)
    · exact absurd (le_t (i := (seL (V j)).length) (N := 60000) (by omega) (by decide) h21) (hno j rfl hj)
    · refine g_bipush (v := (-4)) Z dX6_write_24 (by decide) ?_
      exact g_iret Z dX6_write_26 (by omega) (by omega) (⟨rfl, Or.inl ⟨⟨j, hj, rfl⟩, rfl⟩⟩)
  · have hbad := isIx_1 (by decide) hi h4
    refine g_bipush (v := (-2)) Z dX6_write_7 (by decide) ?_
    exact g_iret Z dX6_write_9 (by omega) (by omega) (⟨rfl, Or.inr ⟨hbad, rfl⟩⟩)

set_option maxRecDepth 100000 in
set_option maxHeartbeats 2000000 in
/-- the bytes are read -/
theorem f_X6_read_w (l : Launch) (D : va_G) (cy : Nat → ClassId) (nw : Nat) (S : PS) (x sa pl la br h n u rd rk rt w fa : Nat) (so O : Nat → Nat) (V : Nat → Sv) (B : Nat → Nat) (hx : FX S nw x sa pl la br h n u rd rk rt w fa so O V B) (jt : Nat) (hjt : jt < 8) (hw1 : 1 ≤ w) : kI l yX6_read wsX6_read 6 145 D cy nw [.ref x, .int (nI jt)] S (fun r T => ∃ O2 V2 fa2, FX T nw x sa pl la br h n u rd rk rt (w - 1) fa2 so O2 V2 B ∧ ((∃ f g, rdSe B u = .inl (f, g) ∧ fa2 = f ∧ r = -100 - nI g ∧ ∀ i, i < 8 → V2 i = V i) ∨ (∃ W, rdSe B u = .inr W ∧ fa2 = 0 ∧ r = nI (sT W W.1) ∧ ∀ i, i < 8 → V2 i = va_up V jt W i))) 6 6144 := by
  refine enterI (cc := cX6_read) (nL := 2) (ret := (some .int)) (by decide +kernel) rfl (Nat.le_of_ble_eq_true rfl) ?_
  intro F Z hl hR hD hcy hnw hnm
  subst hl hD hcy hnw
  have hRf : F.R.frames = 6 := by rw [hR]
  have hRc : F.R.cells = 6 := by rw [hR]
  have hRs : F.R.slots = 6144 := by rw [hR]
  have hRl : F.R.locals = 145 := by rw [hR]
  have in4 : ∀ w ∈ u_ws RX4 TX4 10, w ∈ wsX6_read := by decide +kernel
  have in5 : ∀ w ∈ u_ws RX6 TX6 6, w ∈ wsX6_read := by decide +kernel
  have lk11 : Cond.fieldLink RX6 11 (TX6 0).1 (TX6 0).2.1 (TX6 0).2.2.1 ∈ wsX6_read := by decide +kernel
  have lk16 : Cond.fieldLink RX6 16 (TX6 1).1 (TX6 1).2.1 (TX6 1).2.2.1 ∈ wsX6_read := by decide +kernel
  have lk30 : Cond.fieldLink RX6 30 (TX6 3).1 (TX6 3).2.1 (TX6 3).2.2.1 ∈ wsX6_read := by decide +kernel
  have lk37 : Cond.fieldLink RX6 37 (TX6 4).1 (TX6 4).2.1 (TX6 4).2.2.1 ∈ wsX6_read := by decide +kernel
  have lk163 : Cond.fieldLink RX6 163 (TX4 1).1 (TX4 1).2.1 (TX4 1).2.2.1 ∈ wsX6_read := by decide +kernel
  obtain ⟨hFO, hGV, hVok⟩ := id hx
  obtain ⟨hFx, hSa, ⟨dp, hPl⟩, hFb, hFr⟩ := id hFO
  obtain ⟨hxL, hxK, hxO, hsa, hsp, hpl, hbr, hrd, hxw, hw3⟩ := id hFx
  obtain ⟨hsaL, hsaK, hsal, hsas, hsaO⟩ := id hSa
  obtain ⟨be, it, C, hgx⟩ := id hGV
  have hct : (nI jt).toNatClampNeg = jt := nI_clamp (by omega)
  refine g_iload_n Z dX6_read_0 rfl ?_
  refine g_csI Z (c_X6_isNoSet F.l F.D F.cy F.nw _ _) 1 gX6_read_X6_isNoSet rfl (by decide +kernel) (by rw [hRf, hRl]; decide) rfl rfl (Nat.le_of_ble_eq_true rfl) dX6_read_1 (by rw [hRc, hRs]; omega) (fun r0 T0 hq0 => ?_)
  obtain ⟨rfl, hi1⟩ := hq0
  refine g_if_eq Z 10 dX6_read_4 (by decide) (fun h4 => ?_) (fun h4 => absurd (isIx_y (by decide) hi1 hjt) h4)
  refine g_aload_n Z dX6_read_10 rfl ?_
  refine g_iconst (v := 1) Z dX6_read_11 (by decide) ?_
  refine g_cvI Z (f_X6_takeWork F.l F.D F.cy F.nw S x w hxL hxK hxw hw3 1 (by omega)) 1 gX6_read_X6_takeWork rfl (by decide +kernel) (by rw [hRf, hRl]; decide) (by assumption) (κ := 5) (by assumption) rfl (by decide) rfl rfl (Nat.le_of_ble_eq_true rfl) dX6_read_12 (by rw [hRc, hRs]; omega) (fun r1 T1 hq1 => ?_)
  refine g_if_ne Z 21 dX6_read_15 (by decide) (fun h15 => ?_) (fun h15 => ?_)
  · obtain ⟨hle, rfl⟩ : 1 ≤ w ∧ T1 = S.setI x 5 (nI (w - 1)) := by
      rcases hq1 with ⟨-, h2, h3⟩ | ⟨h1, -⟩
      · exact ⟨h2, h3⟩
      · exact absurd h1 h15
    refine g_nw Z (fun hnw1 => ?_)
    have hx1 := hx.work (S := S) (w2 := w - 1) hnw1 (by omega)
    generalize S.setI x 5 (nI (w - 1)) = T1 at hx1 hnw1 ⊢
    obtain ⟨hFO1, hg1, -⟩ := id hx1
    obtain ⟨⟨hxL1, hxK1, -, hsa1, hsp1, hpl1, hbr1, hrd1, -⟩, hSa1, ⟨dp1, hPl1⟩, hFb1, hFr1⟩ := id hFO1
    obtain ⟨hsaL1, hsaK1, hsal1, hsas1, -⟩ := id hSa1
    obtain ⟨be1, it1, C1, hgx1⟩ := id hg1
    have hs8 := (hgx1.1 8 (by omega)).1
    have hb8 := (hgx1.1 8 (by omega)).2.2
    have hOt : Ot T1 O (be1 8) rd rk rt br h := ⟨hFr1.1.1, hFr1.1.2.2.2.1, hFr1.1.2.2.2.2.2.2.2.1, hFb1.1.1.1, hFb1.1.1.2.2.2.1, by rw [hFr1.2.1]; omega, by rw [hFr1.2.2.1]; omega, by rw [hFr1.2.2.2.1]; omega, by rw [hFb1.2.1]; omega, by rw [hFb1.2.2]; omega⟩
    refine g_aload_n Z dX6_read_21 rfl ?_
    refine g_getr Z 5 4 rfl (by decide) in5 lk37 dX6_read_22 (by exact hxL1) (by exact hxK1) (by exact hrd1) ?_
    refine g_aload_n Z dX6_read_25 rfl ?_
    refine g_getr Z 5 3 rfl (by decide) in5 lk30 dX6_read_26 (by exact hxL1) (by exact hxK1) (by exact hbr1) ?_
    refine g_aload_n Z dX6_read_29 rfl ?_
    refine g_getr Z 5 1 rfl (by decide) in5 lk16 dX6_read_30 (by exact hxL1) (by exact hxK1) (by exact hsp1) ?_
    refine g_cvI Z (f_X4_takeSet F.l F.D F.cy F.nw T1 rd rk rt hFr1.1 br h n u B hFb1.1 O (be1 8) (so 8) (it1 8) (C1 8) (V 8) hs8 hOt) 2 gX6_read_X4_takeSet rfl (by decide +kernel) (by rw [hRf, hRl]; decide) (by exact hFr1.1.1) (κ := 4) (by exact hFr1.1.2.1) rfl (by decide) rfl rfl (Nat.le_of_ble_eq_true rfl) dX6_read_33 (by rw [hRc, hRs]; omega) (fun r2 T2 hp => ?_)
    refine g_nw Z (fun hnT => ?_)
    obtain ⟨O2, W, fa2, hx2, hres⟩ := hx1.read hgx1 hnT hp
    obtain ⟨⟨⟨hxL2, hxK2, -, hsa2, hsp2, -, -, hrd2, -⟩, ⟨hsaL2, hsaK2, hsal2, hsas2, -⟩, -, -, hFr2⟩, hg2, -⟩ := id hx2
    obtain ⟨be2, it2, C2, hgx2⟩ := id hg2
    have hst2 := (hgx2.1 jt (by omega)).1
    have hs82 := (hgx2.1 8 (by omega)).1
    have hne := (hgx2.ne (i := 8) (j := jt) (by omega) (by omega) (by omega)).2.2.2
    refine g_if_ne Z 50 dX6_read_36 (by decide) (fun h36 => ?_) (fun h36 => ?_)
    · obtain ⟨hrs, hfa⟩ : rdSe B u = .inr W ∧ fa2 = 0 := by
        rcases hres with ⟨f, g, -, h1, -⟩ | ⟨V2, h1, -, h2, h3⟩
        · exact absurd h1 h36
        · rw [h3]; exact ⟨h1, h2⟩
      refine g_aload_n Z dX6_read_50 rfl ?_
      refine g_getr Z 5 0 rfl (by decide) in5 lk11 dX6_read_51 (by exact hxL2) (by exact hxK2) (by exact hsa2) ?_
      refine g_iload_n Z dX6_read_54 rfl ?_
      refine g_aald11 Z dX6_read_55 (by exact hsaL2) (by exact hsaK2) (by exact vin_of hsal2 (by omega) (by decide)) (by rw [hct]; exact hsas2 jt hjt) ?_
      refine g_aload_n Z dX6_read_56 rfl ?_
      refine g_getr Z 5 1 rfl (by decide) in5 lk16 dX6_read_57 (by exact hxL2) (by exact hxK2) (by exact hsp2) ?_
      refine g_cvV Z (f_X2_exchange F.l F.D F.cy F.nw T2 O2 (so jt) (so 8) _ _ _ _ _ _ _ _ hne hst2 hs82) 1 gX6_read_X2_exchange rfl (by decide +kernel) (by rw [hRf, hRl]; decide) (by exact hst2.1) (κ := 2) (by exact hst2.2.1) rfl (by decide) rfl rfl (Nat.le_of_ble_eq_true rfl) dX6_read_60 (by rw [hRc, hRs]; omega) (fun T3 hq3 => ?_)
      obtain ⟨x1, x2, x3⟩ := hq3
      refine g_nw Z (fun hnT3 => ?_)
      obtain ⟨hx3, hsw⟩ := hx2.xch hgx2 hjt (j := 8) (by omega) (by omega) hnT3 x1 x2 x3 (by rw [va_up_self]; exact rdSe_ok (fun i hi => (hFb1.1.2 i hi).1) hrs)
      obtain ⟨⟨⟨hxL3, hxK3, -, hsa3, -⟩, ⟨hsaL3, hsaK3, hsal3, hsas3, -⟩, -⟩, ⟨be3, it3, C3, hgx3⟩, -⟩ := id hx3
      have hst3 := (hgx3.1 jt (by omega)).1
      rw [hsw jt hjt, va_up_self] at hst3
      rw [va_up_self] at hst3
      refine g_aload_n Z dX6_read_63 rfl ?_
      refine g_getr Z 5 0 rfl (by decide) in5 lk11 dX6_read_64 (by exact hxL3) (by exact hxK3) (by exact hsa3) ?_
      refine g_iload_n Z dX6_read_67 rfl ?_
      refine g_aald11 Z dX6_read_68 (by exact hsaL3) (by exact hsaK3) (by exact vin_of hsal3 (by omega) (by decide)) (by rw [hct]; exact hsas3 jt hjt) ?_
      refine g_cvI Z (f_X2_total F.l F.D F.cy F.nw T3 O2 (be3 jt) (so jt) (it3 jt) (C3 jt) W hst3) 0 gX6_read_X2_total rfl (by decide +kernel) (by rw [hRf, hRl]; decide) (by exact hst3.1) (κ := 2) (by exact hst3.2.1) rfl (by decide) rfl rfl (Nat.le_of_ble_eq_true rfl) dX6_read_69 (by rw [hRc, hRs]; omega) (fun r4 T4 hq4 => ?_)
      obtain ⟨rfl, rfl⟩ := hq4
      exact g_iret Z dX6_read_72 (by omega) (by omega) (⟨O2, _, fa2, hx3, Or.inr ⟨W, hrs, hfa, rfl, fun i hi => (hsw i hi).trans (by rw [va_up_self]; exact up_8 hi)⟩⟩)
    · obtain ⟨f, g, hrs, hfa, hfg⟩ : ∃ f g, rdSe B u = .inl (f, g) ∧ fa2 = f ∧ T2.fi rd 1 = nI g := by
        rcases hres with ⟨f, g, h1, -, h2, h3⟩ | ⟨V2, -, h1, -⟩
        · exact ⟨f, g, h1, h2, h3⟩
        · rw [h1] at h36; exact absurd h36 (by decide)
      refine g_bipush (v := (-100)) Z dX6_read_39 (by decide) ?_
      refine g_aload_n Z dX6_read_41 rfl ?_
      refine g_getr Z 5 4 rfl (by decide) in5 lk37 dX6_read_42 (by exact hxL2) (by exact hxK2) (by exact hrd2) ?_
      refine g_geti Z 4 1 rfl (by decide) in4 lk163 dX6_read_45 (by exact hFr2.1.1) (by exact hFr2.1.2.1) ?_
      rw [hfg]
      refine g_isub Z dX6_read_48 ?_
      exact g_iret Z dX6_read_49 (by omega) (by omega) (⟨O2, _, fa2, hx2, Or.inl ⟨f, g, hrs, hfa, rfl, fun i hi => va_up_ne _ _ (by omega)⟩⟩)
  · rcases hq1 with ⟨h1, -⟩ | ⟨-, -, h3⟩
    · rw [h1] at h15; exact absurd h15 (by decide)
    · omega

set_option maxRecDepth 100000 in
set_option maxHeartbeats 2000000 in
/-- a reading that is refused -/
theorem f_X6_read_n (l : Launch) (D : va_G) (cy : Nat → ClassId) (nw : Nat) (S : PS) (x sa pl la br h n u rd rk rt w fa : Nat) (so O : Nat → Nat) (V : Nat → Sv) (B : Nat → Nat) (hx : FX S nw x sa pl la br h n u rd rk rt w fa so O V B) (a : Int32) (hno : ¬ (isS a ∧ 1 ≤ w)) : kI l yX6_read wsX6_read 1 21 D cy nw [.ref x, .int a] S (fun r T => S = T ∧ ((isS a ∧ r = -5) ∨ (¬ isS a ∧ r = -2))) 0 0 := by
  refine enterI (cc := cX6_read) (nL := 2) (ret := (some .int)) (by decide +kernel) rfl (Nat.le_of_ble_eq_true rfl) ?_
  intro F Z hl hR hD hcy hnw hnm
  subst hl hD hcy hnw
  have hRf : F.R.frames = 1 := by rw [hR]
  have hRc : F.R.cells = 0 := by rw [hR]
  have hRs : F.R.slots = 0 := by rw [hR]
  have hRl : F.R.locals = 21 := by rw [hR]
  obtain ⟨hFO, hGV, hVok⟩ := id hx
  obtain ⟨hFx, hSa, ⟨dp, hPl⟩, hFb, hFr⟩ := id hFO
  obtain ⟨hxL, hxK, hxO, hsa, hsp, hpl, hbr, hrd, hxw, hw3⟩ := id hFx
  obtain ⟨hsaL, hsaK, hsal, hsas, hsaO⟩ := id hSa
  obtain ⟨be, it, C, hgx⟩ := id hGV
  refine g_iload_n Z dX6_read_0 rfl ?_
  refine g_csI Z (c_X6_isNoSet F.l F.D F.cy F.nw _ _) 1 gX6_read_X6_isNoSet rfl (by decide +kernel) (by rw [hRf, hRl]; decide) rfl rfl (Nat.le_of_ble_eq_true rfl) dX6_read_1 (by rw [hRc, hRs]; omega) (fun r0 T0 hq0 => ?_)
  obtain ⟨rfl, hi1⟩ := hq0
  refine g_if_eq Z 10 dX6_read_4 (by decide) (fun h4 => ?_) (fun h4 => ?_)
  · have it := isIx_0 hi1 h4
    refine g_aload_n Z dX6_read_10 rfl ?_
    refine g_iconst (v := 1) Z dX6_read_11 (by decide) ?_
    refine g_cvI Z (f_X6_takeWork F.l F.D F.cy F.nw S x w hxL hxK hxw hw3 1 (by omega)) 1 gX6_read_X6_takeWork rfl (by decide +kernel) (by rw [hRf, hRl]; decide) (by assumption) (κ := 5) (by assumption) rfl (by decide) rfl rfl (Nat.le_of_ble_eq_true rfl) dX6_read_12 (by rw [hRc, hRs]; omega) (fun r1 T1 hq1 => ?_)
    refine g_if_ne Z 21 dX6_read_15 (by decide) (fun h15 => ?_) (fun h15 => ?_)
    · rcases hq1 with ⟨-, h2, -⟩ | ⟨h1, -⟩
      · exact absurd ⟨it, h2⟩ hno
      · exact absurd h1 h15
    · obtain rfl : S = T1 := by
        rcases hq1 with ⟨h1, -⟩ | ⟨-, h2, -⟩
        · rw [h1] at h15; exact absurd h15 (by decide)
        · exact h2
      refine g_bipush (v := (-5)) Z dX6_read_18 (by decide) ?_
      exact g_iret Z dX6_read_20 (by omega) (by omega) (⟨rfl, Or.inl ⟨it, rfl⟩⟩)
  · have hbad := isIx_1 (by decide) hi1 h4
    refine g_bipush (v := (-2)) Z dX6_read_7 (by decide) ?_
    exact g_iret Z dX6_read_9 (by omega) (by omega) (⟨rfl, Or.inr ⟨hbad, rfl⟩⟩)

set_option maxRecDepth 100000 in
set_option maxHeartbeats 2000000 in
/-- the bytes are cut -/
theorem f_X6_cut (l : Launch) (D : va_G) (cy : Nat → ClassId) (nw : Nat) (S : PS) (x sa pl la br h n u rd rk rt w fa : Nat) (so O : Nat → Nat) (V : Nat → Sv) (B : Nat → Nat) (hx : FX S nw x sa pl la br h n u rd rk rt w fa so O V B) (a : Int32) : kI l yX6_cut wsX6_cut 0 0 D cy nw [.ref x, .int a] S (fun r T => (∃ k, k ≤ u ∧ a = nI k ∧ r = nI (u - k) ∧ ∃ O2, FX T nw x sa pl la br h n k rd rk rt w fa so O2 V B) ∨ ((¬ ∃ k : Nat, k ≤ u ∧ a = nI k) ∧ r = -2 ∧ S = T)) 0 0 := by
  refine enterI (cc := cX6_cut) (nL := 3) (ret := (some .int)) (by decide +kernel) rfl (Nat.le_of_ble_eq_true rfl) ?_
  intro F Z hl hR hD hcy hnw hnm
  subst hl hD hcy hnw
  have hRf : F.R.frames = 0 := by rw [hR]
  have hRc : F.R.cells = 0 := by rw [hR]
  have hRs : F.R.slots = 0 := by rw [hR]
  have hRl : F.R.locals = 0 := by rw [hR]
  have in0 : ∀ w ∈ u_ws RX0 TX0 2, w ∈ wsX6_cut := by decide +kernel
  have in5 : ∀ w ∈ u_ws RX6 TX6 6, w ∈ wsX6_cut := by decide +kernel
  have lk30 : Cond.fieldLink RX6 30 (TX6 3).1 (TX6 3).2.1 (TX6 3).2.2.1 ∈ wsX6_cut := by decide +kernel
  have lk154 : Cond.fieldLink RX6 154 (TX0 1).1 (TX0 1).2.1 (TX0 1).2.2.1 ∈ wsX6_cut := by decide +kernel
  obtain ⟨hFO, hGV, hVok⟩ := id hx
  obtain ⟨hFx, hSa, ⟨dp, hPl⟩, hFb, hFr⟩ := id hFO
  obtain ⟨hxL, hxK, hxO, hsa, hsp, hpl, hbr, hrd, hxw, hw3⟩ := id hFx
  obtain ⟨hsaL, hsaK, hsal, hsas, hsaO⟩ := id hSa
  obtain ⟨be, it, C, hgx⟩ := id hGV
  obtain ⟨hBV, hbO, hhO⟩ := id hFb
  obtain ⟨⟨hbL, hbK, hbh, hhL, hhK, hhl, hn2, hbu, hun, hfit⟩, hB8⟩ := id hBV
  refine g_iload_n Z dX6_cut_0 rfl ?_
  refine g_if_lt Z 15 dX6_cut_1 (by decide) (fun h1 => ?_) (fun h1 => ?_)
  · have hbad : ¬ ∃ k : Nat, k ≤ u ∧ a = nI k := fun ⟨k, h2, h3⟩ => nI_pos (n := k) (by omega) (by rw [← h3]; exact h1)
    refine g_bipush (v := (-2)) Z dX6_cut_15 (by decide) ?_
    exact g_iret Z dX6_cut_17 (by omega) (by omega) (Or.inr ⟨hbad, rfl, rfl⟩)
  · refine g_iload_n Z dX6_cut_4 rfl ?_
    refine g_aload_n Z dX6_cut_5 rfl ?_
    refine g_getr Z 5 3 rfl (by decide) in5 lk30 dX6_cut_6 (by exact hxL) (by exact hxK) (by exact hbr) ?_
    refine g_geti Z 0 1 rfl (by decide) in0 lk154 dX6_cut_9 (by exact hbL) (by exact hbK) ?_
    rw [hbu]
    refine g_icmp_le Z 18 dX6_cut_12 (by decide) (fun h12 => ?_) (fun h12 => ?_)
    · obtain ⟨k, hk, rfl⟩ : ∃ k : Nat, k ≤ u ∧ a = nI k := nI_of2 (M := nI u) (n := u) (nI_toInt (by omega)) h1 h12
      have hb1 : ByV (S.setI br 1 (nI k)) br h n k B := ⟨⟨hbL, hbK, hbh, hhL, hhK, hhl, hn2, up2_self _ _ _ _, by omega, hfit⟩, fun i hi => hB8 i (by omega)⟩
      have hR1 : Rl Pb S (S.setI br 1 (nI k)) := Rl.rf.setI (by rw [hbK]; exact Or.inl rfl)
      refine g_aload_n Z dX6_cut_18 rfl ?_
      refine g_getr Z 5 3 rfl (by decide) in5 lk30 dX6_cut_19 (by exact hxL) (by exact hxK) (by exact hbr) ?_
      refine g_geti Z 0 1 rfl (by decide) in0 lk154 dX6_cut_22 (by exact hbL) (by exact hbK) ?_
      rw [hbu]
      refine g_iload_n Z dX6_cut_25 rfl ?_
      refine g_isub Z dX6_cut_26 ?_
      rw [nI_sb hk]
      refine g_istore_n Z dX6_cut_27 (by decide) ?_
      refine g_aload_n Z dX6_cut_28 rfl ?_
      refine g_getr Z 5 3 rfl (by decide) in5 lk30 dX6_cut_29 (by exact hxL) (by exact hxK) (by exact hbr) ?_
      refine g_iload_n Z dX6_cut_32 rfl ?_
      refine g_puti Z 0 1 rfl (by decide) tyX0 tyX0_ok nmX0 rfl in0 lk154 dX6_cut_33 rfl rfl (by exact hbL) (by exact hbK) ?_
      refine g_nw Z (fun hnT => ?_)
      obtain ⟨O2, hx2⟩ := hx.byt hR1 hb1 hnT
      refine g_iload_n Z dX6_cut_36 rfl ?_
      exact g_iret Z dX6_cut_37 (by omega) (by omega) (Or.inl ⟨k, hk, rfl, rfl, O2, hx2⟩)
    · have hbad : ¬ ∃ k : Nat, k ≤ u ∧ a = nI k := fun ⟨k, h2, h3⟩ => h12 (by rw [h3]; exact (nI_leI (by omega) (by omega)).mpr h2)
      refine g_bipush (v := (-2)) Z dX6_cut_15 (by decide) ?_
      exact g_iret Z dX6_cut_17 (by omega) (by omega) (Or.inr ⟨hbad, rfl, rfl⟩)

set_option maxRecDepth 100000 in
set_option maxHeartbeats 2000000 in
/-- bytes come -/
theorem f_X6_type_w (l : Launch) (D : va_G) (cy : Nat → ClassId) (nw : Nat) (S : PS) (x sa pl la br h n u rd rk rt w fa : Nat) (so O : Nat → Nat) (V : Nat → Sv) (B : Nat → Nat) (hx : FX S nw x sa pl la br h n u rd rk rt w fa so O V B) (v : Nat) (hv : v < 2 ^ 64) (k : Nat) (hk : k ≤ 8) (huk : u + k ≤ 60000) : kI l yX6_type wsX6_type 3 106 D cy nw [.ref x, .long (lN v), .int (nI k)] S (fun r T => ∃ h2 O2, r = nI (u + k) ∧ FX T nw x sa pl la br h2 (bN n u k) (u + k) rd rk rt w fa so O2 V (ptB B u v)) (bG n u k) (60000 * bG n u k) := by
  refine enterI (cc := cX6_type) (nL := 4) (ret := (some .int)) (by decide +kernel) rfl (Nat.le_of_ble_eq_true rfl) ?_
  intro F Z hl hR hD hcy hnw hnm
  subst hl hD hcy hnw
  have hRf : F.R.frames = 3 := by rw [hR]
  have hRc : F.R.cells = (bG n u k) := by rw [hR]
  have hRs : F.R.slots = (60000 * bG n u k) := by rw [hR]
  have hRl : F.R.locals = 106 := by rw [hR]
  have in0 : ∀ w ∈ u_ws RX0 TX0 2, w ∈ wsX6_type := by decide +kernel
  have in5 : ∀ w ∈ u_ws RX6 TX6 6, w ∈ wsX6_type := by decide +kernel
  have lk30 : Cond.fieldLink RX6 30 (TX6 3).1 (TX6 3).2.1 (TX6 3).2.2.1 ∈ wsX6_type := by decide +kernel
  have lk154 : Cond.fieldLink RX6 154 (TX0 1).1 (TX0 1).2.1 (TX0 1).2.2.1 ∈ wsX6_type := by decide +kernel
  have ct153 : Cond.constant RX6 153 (60000) ∈ wsX6_type := by decide +kernel
  obtain ⟨hFO, hGV, hVok⟩ := id hx
  obtain ⟨hFx, hSa, ⟨dp, hPl⟩, hFb, hFr⟩ := id hFO
  obtain ⟨hxL, hxK, hxO, hsa, hsp, hpl, hbr, hrd, hxw, hw3⟩ := id hFx
  obtain ⟨hsaL, hsaK, hsal, hsas, hsaO⟩ := id hSa
  obtain ⟨be, it, C, hgx⟩ := id hGV
  obtain ⟨hBV, hbO, hhO⟩ := id hFb
  obtain ⟨⟨hbL, hbK, hbh, hhL, hhK, hhl, hn2, hbu, hun, hfit⟩, hB8⟩ := id hBV
  refine g_iload_n Z dX6_type_0 rfl ?_
  refine g_if_lt Z 10 dX6_type_1 (by decide) (fun h1 => absurd h1 (nI_pos (by omega))) (fun h1 => ?_)
  refine g_iload_n Z dX6_type_4 rfl ?_
  refine g_bipush (v := 8) Z dX6_type_5 (by decide) ?_
  refine g_icmp_le Z 13 dX6_type_7 (by decide) (fun h7 => ?_) (fun h7 => absurd ((nI_leI (b := 8) (by omega) (by decide)).mpr hk) h7)
  refine g_aload_n Z dX6_type_13 rfl ?_
  refine g_getr Z 5 3 rfl (by decide) in5 lk30 dX6_type_14 (by exact hxL) (by exact hxK) (by exact hbr) ?_
  refine g_geti Z 0 1 rfl (by decide) in0 lk154 dX6_type_17 (by exact hbL) (by exact hbK) ?_
  rw [hbu]
  refine g_iload_n Z dX6_type_20 rfl ?_
  refine g_iadd Z dX6_type_21 ?_
  rw [nI_add]
  refine g_ldc (v := 60000) Z dX6_type_22 ct153 ?_
  refine g_icmp_le Z 30 dX6_type_24 (by decide) (fun h24 => ?_) (fun h24 => absurd ((nI_leI (b := 60000) (by omega) (by decide)).mpr huk) h24)
  refine g_aload_n Z dX6_type_30 rfl ?_
  refine g_getr Z 5 3 rfl (by decide) in5 lk30 dX6_type_31 (by exact hxL) (by exact hxK) (by exact hbr) ?_
  refine g_lload_n Z dX6_type_34 rfl ?_
  refine g_iload_n Z dX6_type_35 rfl ?_
  refine g_cvV Z (f_X0_put F.l F.D F.cy F.nw S br h n u B hBV v hv k hk huk) 2 gX6_type_X0_put rfl (by decide +kernel) (by rw [hRf, hRl]; decide) (by exact hbL) (κ := 0) (by exact hbK) rfl (by decide) rfl rfl (Nat.le_of_ble_eq_true rfl) dX6_type_36 (by rw [hRc, hRs]; exact ⟨Nat.le_of_eq (Nat.zero_add _), Nat.le_of_eq (Nat.zero_add _)⟩) (fun T2 hp => ?_)
  obtain ⟨hR2, h2, hb2⟩ := hp
  refine g_nw Z (fun hnT => ?_)
  obtain ⟨O2, hx2⟩ := hx.byt hR2 hb2 hnT
  obtain ⟨⟨⟨hxL2, hxK2, -, -, -, -, hbr2, -⟩, -, -, -, -⟩, -, -⟩ := id hx2
  have hbu2 := hb2.1.2.2.2.2.2.2.2.1
  refine g_aload_n Z dX6_type_39 rfl ?_
  refine g_getr Z 5 3 rfl (by decide) in5 lk30 dX6_type_40 (by exact hxL2) (by exact hxK2) (by exact hbr2) ?_
  refine g_geti Z 0 1 rfl (by decide) in0 lk154 dX6_type_43 (by exact hb2.1.1) (by exact hb2.1.2.1) ?_
  rw [hbu2]
  exact g_iret Z dX6_type_46 (by exact Nat.le_of_eq (Nat.zero_add _)) (by exact Nat.le_of_eq (Nat.zero_add _)) (⟨h2, O2, rfl, hx2⟩)

set_option maxRecDepth 100000 in
set_option maxHeartbeats 2000000 in
/-- bytes that are refused -/
theorem f_X6_type_n (l : Launch) (D : va_G) (cy : Nat → ClassId) (nw : Nat) (S : PS) (x sa pl la br h n u rd rk rt w fa : Nat) (so O : Nat → Nat) (V : Nat → Sv) (B : Nat → Nat) (hx : FX S nw x sa pl la br h n u rd rk rt w fa so O V B) (y : Int64) (a : Int32) (hno : ∀ k : Nat, a = nI k → k ≤ 8 → ¬ u + k ≤ 60000) : kI l yX6_type wsX6_type 0 0 D cy nw [.ref x, .long y, .int a] S (fun r T => S = T ∧ (((∃ k : Nat, k ≤ 8 ∧ a = nI k) ∧ r = -4) ∨ ((¬ ∃ k : Nat, k ≤ 8 ∧ a = nI k) ∧ r = -2))) 0 0 := by
  refine enterI (cc := cX6_type) (nL := 4) (ret := (some .int)) (by decide +kernel) rfl (Nat.le_of_ble_eq_true rfl) ?_
  intro F Z hl hR hD hcy hnw hnm
  subst hl hD hcy hnw
  have hRf : F.R.frames = 0 := by rw [hR]
  have hRc : F.R.cells = 0 := by rw [hR]
  have hRs : F.R.slots = 0 := by rw [hR]
  have hRl : F.R.locals = 0 := by rw [hR]
  have in0 : ∀ w ∈ u_ws RX0 TX0 2, w ∈ wsX6_type := by decide +kernel
  have in5 : ∀ w ∈ u_ws RX6 TX6 6, w ∈ wsX6_type := by decide +kernel
  have lk30 : Cond.fieldLink RX6 30 (TX6 3).1 (TX6 3).2.1 (TX6 3).2.2.1 ∈ wsX6_type := by decide +kernel
  have lk154 : Cond.fieldLink RX6 154 (TX0 1).1 (TX0 1).2.1 (TX0 1).2.2.1 ∈ wsX6_type := by decide +kernel
  have ct153 : Cond.constant RX6 153 (60000) ∈ wsX6_type := by decide +kernel
  obtain ⟨hFO, hGV, hVok⟩ := id hx
  obtain ⟨hFx, hSa, ⟨dp, hPl⟩, hFb, hFr⟩ := id hFO
  obtain ⟨hxL, hxK, hxO, hsa, hsp, hpl, hbr, hrd, hxw, hw3⟩ := id hFx
  obtain ⟨hsaL, hsaK, hsal, hsas, hsaO⟩ := id hSa
  obtain ⟨be, it, C, hgx⟩ := id hGV
  obtain ⟨hBV, hbO, hhO⟩ := id hFb
  obtain ⟨⟨hbL, hbK, hbh, hhL, hhK, hhl, hn2, hbu, hun, hfit⟩, hB8⟩ := id hBV
  refine g_iload_n Z dX6_type_0 rfl ?_
  refine g_if_lt Z 10 dX6_type_1 (by decide) (fun h1 => ?_) (fun h1 => ?_)
  · have hbad : ¬ ∃ k : Nat, k ≤ 8 ∧ a = nI k := fun ⟨k, h2, h3⟩ => nI_pos (n := k) (by omega) (by rw [← h3]; exact h1)
    refine g_bipush (v := (-2)) Z dX6_type_10 (by decide) ?_
    exact g_iret Z dX6_type_12 (by omega) (by omega) (⟨rfl, Or.inr ⟨hbad, rfl⟩⟩)
  · refine g_iload_n Z dX6_type_4 rfl ?_
    refine g_bipush (v := 8) Z dX6_type_5 (by decide) ?_
    refine g_icmp_le Z 13 dX6_type_7 (by decide) (fun h7 => ?_) (fun h7 => ?_)
    · obtain ⟨k, hk, rfl⟩ : ∃ k : Nat, k ≤ 8 ∧ a = nI k := nI_of2 (M := 8) (n := 8) (by decide) h1 h7
      refine g_aload_n Z dX6_type_13 rfl ?_
      refine g_getr Z 5 3 rfl (by decide) in5 lk30 dX6_type_14 (by exact hxL) (by exact hxK) (by exact hbr) ?_
      refine g_geti Z 0 1 rfl (by decide) in0 lk154 dX6_type_17 (by exact hbL) (by exact hbK) ?_
      rw [hbu]
      refine g_iload_n Z dX6_type_20 rfl ?_
      refine g_iadd Z dX6_type_21 ?_
      rw [nI_add]
      refine g_ldc (v := 60000) Z dX6_type_22 ct153 ?_
      refine g_icmp_le Z 30 dX6_type_24 (by decide) (fun h24 => ?_) (fun h24 => ?_)
      · exact absurd (le_t (i := u + k) (N := 60000) (by omega) (by decide) h24) (hno k rfl hk)
      · refine g_bipush (v := (-4)) Z dX6_type_27 (by decide) ?_
        exact g_iret Z dX6_type_29 (by omega) (by omega) (⟨rfl, Or.inl ⟨⟨k, hk, rfl⟩, rfl⟩⟩)
    · have hbad : ¬ ∃ k : Nat, k ≤ 8 ∧ a = nI k := fun ⟨k, h2, h3⟩ => h7 (by rw [h3]; exact (nI_leI (b := 8) (by omega) (by decide)).mpr h2)
      refine g_bipush (v := (-2)) Z dX6_type_10 (by decide) ?_
      exact g_iret Z dX6_type_12 (by omega) (by omega) (⟨rfl, Or.inr ⟨hbad, rfl⟩⟩)

set_option maxRecDepth 100000 in
set_option maxHeartbeats 2000000 in
/-- asked -/
theorem f_X6_at (l : Launch) (D : va_G) (cy : Nat → ClassId) (nw : Nat) (S : PS) (x sa pl la br h n u rd rk rt w fa : Nat) (so O : Nat → Nat) (V : Nat → Sv) (B : Nat → Nat) (hx : FX S nw x sa pl la br h n u rd rk rt w fa so O V B) (a : Int32) : kI l yX6_at wsX6_at 1 21 D cy nw [.ref x, .int a] S (fun r T => S = T ∧ ((∃ j, j < u ∧ a = nI j ∧ r = nI (B j)) ∨ ((¬ ∃ j : Nat, j < u ∧ a = nI j) ∧ r = -2))) 0 0 := by
  refine enterI (cc := cX6_at) (nL := 2) (ret := (some .int)) (by decide +kernel) rfl (Nat.le_of_ble_eq_true rfl) ?_
  intro F Z hl hR hD hcy hnw hnm
  subst hl hD hcy hnw
  have hRf : F.R.frames = 1 := by rw [hR]
  have hRc : F.R.cells = 0 := by rw [hR]
  have hRs : F.R.slots = 0 := by rw [hR]
  have hRl : F.R.locals = 21 := by rw [hR]
  have in5 : ∀ w ∈ u_ws RX6 TX6 6, w ∈ wsX6_at := by decide +kernel
  have lk30 : Cond.fieldLink RX6 30 (TX6 3).1 (TX6 3).2.1 (TX6 3).2.2.1 ∈ wsX6_at := by decide +kernel
  obtain ⟨hFO, hGV, hVok⟩ := id hx
  obtain ⟨hFx, hSa, ⟨dp, hPl⟩, hFb, hFr⟩ := id hFO
  obtain ⟨hxL, hxK, hxO, hsa, hsp, hpl, hbr, hrd, hxw, hw3⟩ := id hFx
  obtain ⟨hsaL, hsaK, hsal, hsas, hsaO⟩ := id hSa
  obtain ⟨be, it, C, hgx⟩ := id hGV
  obtain ⟨hBV, hbO, hhO⟩ := id hFb
  obtain ⟨⟨hbL, hbK, hbh, hhL, hhK, hhl, hn2, hbu, hun, hfit⟩, hB8⟩ := id hBV
  refine g_aload_n Z dX6_at_0 rfl ?_
  refine g_getr Z 5 3 rfl (by decide) in5 lk30 dX6_at_1 (by exact hxL) (by exact hxK) (by exact hbr) ?_
  refine g_iload_n Z dX6_at_4 rfl ?_
  refine g_cvI Z (c_X0_lacks F.l F.D F.cy F.nw _ br h n u hBV.1 _) 1 gX6_at_X0_lacks rfl (by decide +kernel) (by rw [hRf, hRl]; decide) (by exact hbL) (κ := 0) (by exact hbK) rfl (by decide) rfl rfl (Nat.le_of_ble_eq_true rfl) dX6_at_5 (by rw [hRc, hRs]; omega) (fun r1 T1 hq1 => ?_)
  obtain ⟨rfl, hi⟩ := hq1
  refine g_if_eq Z 16 dX6_at_8 (by decide) (fun h8 => ?_) (fun h8 => ?_)
  · obtain ⟨j, hj, rfl⟩ := isIx_0 hi h8
    refine g_aload_n Z dX6_at_16 rfl ?_
    refine g_getr Z 5 3 rfl (by decide) in5 lk30 dX6_at_17 (by exact hxL) (by exact hxK) (by exact hbr) ?_
    refine g_iload_n Z dX6_at_20 rfl ?_
    refine g_cvI Z (f_X0_byteAt F.l F.D F.cy F.nw S br h n u B hBV j hj) 1 gX6_at_X0_byteAt rfl (by decide +kernel) (by rw [hRf, hRl]; decide) (by exact hbL) (κ := 0) (by exact hbK) rfl (by decide) rfl rfl (Nat.le_of_ble_eq_true rfl) dX6_at_21 (by rw [hRc, hRs]; omega) (fun r2 T2 hq2 => ?_)
    obtain ⟨rfl, rfl⟩ := hq2
    exact g_iret Z dX6_at_24 (by omega) (by omega) (⟨rfl, by first | exact Or.inl ⟨j, hj, rfl, rfl⟩ | exact Or.inr ⟨hbad, rfl⟩⟩)
  · have hbad := isIx_1 (by omega) hi h8
    refine g_bipush (v := (-2)) Z dX6_at_11 (by decide) ?_
    refine g_goto Z 24 dX6_at_13 (by decide) ?_
    exact g_iret Z dX6_at_24 (by omega) (by omega) (⟨rfl, by first | exact Or.inl ⟨j, hj, rfl, rfl⟩ | exact Or.inr ⟨hbad, rfl⟩⟩)

set_option maxRecDepth 100000 in
set_option maxHeartbeats 2000000 in
/-- a byte is altered -/
theorem f_X6_alter (l : Launch) (D : va_G) (cy : Nat → ClassId) (nw : Nat) (S : PS) (x sa pl la br h n u rd rk rt w fa : Nat) (so O : Nat → Nat) (V : Nat → Sv) (B : Nat → Nat) (hx : FX S nw x sa pl la br h n u rd rk rt w fa so O V B) (a v : Int32) : kI l yX6_alter wsX6_alter 1 21 D cy nw [.ref x, .int a, .int v] S (fun r T => (∃ j q, j < u ∧ a = nI j ∧ q < 256 ∧ v = nI q ∧ r = nI (B j) ∧ ∃ O2, FX T nw x sa pl la br h n u rd rk rt w fa so O2 V (va_up B j q)) ∨ ((¬ ∃ j q : Nat, j < u ∧ a = nI j ∧ q < 256 ∧ v = nI q) ∧ r = -2 ∧ S = T)) 0 0 := by
  refine enterI (cc := cX6_alter) (nL := 4) (ret := (some .int)) (by decide +kernel) rfl (Nat.le_of_ble_eq_true rfl) ?_
  intro F Z hl hR hD hcy hnw hnm
  subst hl hD hcy hnw
  have hRf : F.R.frames = 1 := by rw [hR]
  have hRc : F.R.cells = 0 := by rw [hR]
  have hRs : F.R.slots = 0 := by rw [hR]
  have hRl : F.R.locals = 21 := by rw [hR]
  have in0 : ∀ w ∈ u_ws RX0 TX0 2, w ∈ wsX6_alter := by decide +kernel
  have in5 : ∀ w ∈ u_ws RX6 TX6 6, w ∈ wsX6_alter := by decide +kernel
  have lk30 : Cond.fieldLink RX6 30 (TX6 3).1 (TX6 3).2.1 (TX6 3).2.2.1 ∈ wsX6_alter := by decide +kernel
  have lk179 : Cond.fieldLink RX6 179 (TX0 0).1 (TX0 0).2.1 (TX0 0).2.2.1 ∈ wsX6_alter := by decide +kernel
  obtain ⟨hFO, hGV, hVok⟩ := id hx
  obtain ⟨hFx, hSa, ⟨dp, hPl⟩, hFb, hFr⟩ := id hFO
  obtain ⟨hxL, hxK, hxO, hsa, hsp, hpl, hbr, hrd, hxw, hw3⟩ := id hFx
  obtain ⟨hsaL, hsaK, hsal, hsas, hsaO⟩ := id hSa
  obtain ⟨be, it, C, hgx⟩ := id hGV
  obtain ⟨hBV, hbO, hhO⟩ := id hFb
  obtain ⟨⟨hbL, hbK, hbh, hhL, hhK, hhl, hn2, hbu, hun, hfit⟩, hB8⟩ := id hBV
  refine g_aload_n Z dX6_alter_0 rfl ?_
  refine g_getr Z 5 3 rfl (by decide) in5 lk30 dX6_alter_1 (by exact hxL) (by exact hxK) (by exact hbr) ?_
  refine g_iload_n Z dX6_alter_4 rfl ?_
  refine g_cvI Z (c_X0_lacks F.l F.D F.cy F.nw _ br h n u hBV.1 _) 1 gX6_alter_X0_lacks rfl (by decide +kernel) (by rw [hRf, hRl]; decide) (by exact hbL) (κ := 0) (by exact hbK) rfl (by decide) rfl rfl (Nat.le_of_ble_eq_true rfl) dX6_alter_5 (by rw [hRc, hRs]; omega) (fun r1 T1 hq1 => ?_)
  obtain ⟨rfl, hi⟩ := hq1
  refine g_if_ne Z 22 dX6_alter_8 (by decide) (fun h8 => ?_) (fun h8 => ?_)
  · have hbad : ¬ ∃ j q : Nat, j < u ∧ a = nI j ∧ q < 256 ∧ v = nI q := fun ⟨j, q, h2, h3, _⟩ => isIx_1 (by omega) hi h8 ⟨j, h2, h3⟩
    refine g_bipush (v := (-2)) Z dX6_alter_22 (by decide) ?_
    exact g_iret Z dX6_alter_24 (by omega) (by omega) (Or.inr ⟨hbad, rfl, rfl⟩)
  · obtain ⟨j, hj, rfl⟩ := isIx_0 hi h8
    have hcj : (nI j).toNatClampNeg = j := nI_clamp (by omega)
    refine g_iload_n Z dX6_alter_11 rfl ?_
    refine g_if_lt Z 22 dX6_alter_12 (by decide) (fun h12 => ?_) (fun h12 => ?_)
    · have hbad : ¬ ∃ j' q : Nat, j' < u ∧ nI j = nI j' ∧ q < 256 ∧ v = nI q := fun ⟨_, q, _, _, h4, h5⟩ => nI_pos (n := q) (by omega) (by rw [← h5]; exact h12)
      refine g_bipush (v := (-2)) Z dX6_alter_22 (by decide) ?_
      exact g_iret Z dX6_alter_24 (by omega) (by omega) (Or.inr ⟨hbad, rfl, rfl⟩)
    · refine g_iload_n Z dX6_alter_15 rfl ?_
      refine g_sipush (v := 255) Z dX6_alter_16 (by decide) ?_
      refine g_icmp_le Z 25 dX6_alter_19 (by decide) (fun h19 => ?_) (fun h19 => ?_)
      · obtain ⟨q, hq, rfl⟩ : ∃ q : Nat, q ≤ 255 ∧ v = nI q := nI_of2 (M := 255) (n := 255) (by decide) h12 h19
        have hb1 : ByV (S.rowI h (upd (S.ri h) j (vp_nar .byte (nI q).toInt8.toInt32))) br h n u (va_up B j q) := ⟨(by_alt hBV.1).1, fun i hi => by
          show va_up B j q i < 256 ∧ va_up S.ri h (upd (S.ri h) j (vp_nar .byte (nI q).toInt8.toInt32)) h i &&& 255 = nI (va_up B j q i)
          rw [va_up_self]
          by_cases e : i = j
          · subst e; rw [va_up_self, pk_us]; exact ⟨by omega, alt_nar (by omega)⟩
          · rw [va_up_ne _ _ e, pk_un e]; exact hB8 i hi⟩
        refine g_aload_n Z dX6_alter_25 rfl ?_
        refine g_getr Z 5 3 rfl (by decide) in5 lk30 dX6_alter_26 (by exact hxL) (by exact hxK) (by exact hbr) ?_
        refine g_iload_n Z dX6_alter_29 rfl ?_
        refine g_cvI Z (f_X0_byteAt F.l F.D F.cy F.nw S br h n u B hBV j hj) 1 gX6_alter_X0_byteAt rfl (by decide +kernel) (by rw [hRf, hRl]; decide) (by exact hbL) (κ := 0) (by exact hbK) rfl (by decide) rfl rfl (Nat.le_of_ble_eq_true rfl) dX6_alter_30 (by rw [hRc, hRs]; omega) (fun r2 T2 hq2 => ?_)
        obtain ⟨rfl, rfl⟩ := hq2
        refine g_istore_n Z dX6_alter_33 (by decide) ?_
        refine g_aload_n Z dX6_alter_34 rfl ?_
        refine g_getr Z 5 3 rfl (by decide) in5 lk30 dX6_alter_35 (by exact hxL) (by exact hxK) (by exact hbr) ?_
        refine g_getr Z 0 0 rfl (by decide) in0 lk179 dX6_alter_38 (by exact hbL) (by exact hbK) (by exact hbh) ?_
        refine g_iload_n Z dX6_alter_41 rfl ?_
        refine g_iload_n Z dX6_alter_42 rfl ?_
        refine g_i2b Z dX6_alter_43 ?_
        refine g_bast Z dX6_alter_44 (by exact hhL) (by exact hhK) (by exact vin_of hhl (by omega) (by omega)) ?_
        rw [hcj]
        refine g_nw Z (fun hnT => ?_)
        obtain ⟨O2, hx2⟩ := hx.byt (by_alt hBV.1).2 hb1 hnT
        refine g_iload_n Z dX6_alter_45 rfl ?_
        exact g_iret Z dX6_alter_46 (by omega) (by omega) (Or.inl ⟨j, q, hj, rfl, by omega, rfl, rfl, O2, hx2⟩)
      · have hbad : ¬ ∃ j' q : Nat, j' < u ∧ nI j = nI j' ∧ q < 256 ∧ v = nI q := fun ⟨_, q, _, _, h4, h5⟩ => h19 (by rw [h5]; exact (nI_leI (b := 255) (by omega) (by decide)).mpr (by omega))
        refine g_bipush (v := (-2)) Z dX6_alter_22 (by decide) ?_
        exact g_iret Z dX6_alter_24 (by omega) (by omega) (Or.inr ⟨hbad, rfl, rfl⟩)

set_option maxRecDepth 100000 in
set_option maxHeartbeats 2000000 in
/-- asked -/
theorem f_X6_fault (l : Launch) (D : va_G) (cy : Nat → ClassId) (nw : Nat) (S : PS) (x sa pl la br h n u rd rk rt w fa : Nat) (so O : Nat → Nat) (V : Nat → Sv) (B : Nat → Nat) (hx : FX S nw x sa pl la br h n u rd rk rt w fa so O V B) : kI l yX6_fault wsX6_fault 0 0 D cy nw [.ref x] S (fun r T => S = T ∧ r = nI fa) 0 0 := by
  refine enterI (cc := cX6_fault) (nL := 1) (ret := (some .int)) (by decide +kernel) rfl (Nat.le_of_ble_eq_true rfl) ?_
  intro F Z hl hR hD hcy hnw hnm
  subst hl hD hcy hnw
  have hRf : F.R.frames = 0 := by rw [hR]
  have hRc : F.R.cells = 0 := by rw [hR]
  have hRs : F.R.slots = 0 := by rw [hR]
  have hRl : F.R.locals = 0 := by rw [hR]
  have in4 : ∀ w ∈ u_ws RX4 TX4 10, w ∈ wsX6_fault := by decide +kernel
  have in5 : ∀ w ∈ u_ws RX6 TX6 6, w ∈ wsX6_fault := by decide +kernel
  have lk37 : Cond.fieldLink RX6 37 (TX6 4).1 (TX6 4).2.1 (TX6 4).2.2.1 ∈ wsX6_fault := by decide +kernel
  have lk166 : Cond.fieldLink RX6 166 (TX4 0).1 (TX4 0).2.1 (TX4 0).2.2.1 ∈ wsX6_fault := by decide +kernel
  obtain ⟨hFO, hGV, hVok⟩ := id hx
  obtain ⟨hFx, hSa, ⟨dp, hPl⟩, hFb, hFr⟩ := id hFO
  obtain ⟨hxL, hxK, hxO, hsa, hsp, hpl, hbr, hrd, hxw, hw3⟩ := id hFx
  obtain ⟨hsaL, hsaK, hsal, hsas, hsaO⟩ := id hSa
  obtain ⟨be, it, C, hgx⟩ := id hGV
  refine g_aload_n Z dX6_fault_0 rfl ?_
  refine g_getr Z 5 4 rfl (by decide) in5 lk37 dX6_fault_1 (by exact hxL) (by exact hxK) (by exact hrd) ?_
  refine g_geti Z 4 0 rfl (by decide) in4 lk166 dX6_fault_4 (by exact hFr.1.1) (by exact hFr.1.2.1) ?_
  rw [hFr.2.2.2.2]
  exact g_iret Z dX6_fault_7 (by omega) (by omega) (⟨rfl, rfl⟩)

set_option maxRecDepth 100000 in
set_option maxHeartbeats 2000000 in
/-- asked -/
theorem f_X6_size (l : Launch) (D : va_G) (cy : Nat → ClassId) (nw : Nat) (S : PS) (x sa pl la br h n u rd rk rt w fa : Nat) (so O : Nat → Nat) (V : Nat → Sv) (B : Nat → Nat) (hx : FX S nw x sa pl la br h n u rd rk rt w fa so O V B) : kI l yX6_size wsX6_size 0 0 D cy nw [.ref x] S (fun r T => S = T ∧ r = nI u) 0 0 := by
  refine enterI (cc := cX6_size) (nL := 1) (ret := (some .int)) (by decide +kernel) rfl (Nat.le_of_ble_eq_true rfl) ?_
  intro F Z hl hR hD hcy hnw hnm
  subst hl hD hcy hnw
  have hRf : F.R.frames = 0 := by rw [hR]
  have hRc : F.R.cells = 0 := by rw [hR]
  have hRs : F.R.slots = 0 := by rw [hR]
  have hRl : F.R.locals = 0 := by rw [hR]
  have in0 : ∀ w ∈ u_ws RX0 TX0 2, w ∈ wsX6_size := by decide +kernel
  have in5 : ∀ w ∈ u_ws RX6 TX6 6, w ∈ wsX6_size := by decide +kernel
  have lk30 : Cond.fieldLink RX6 30 (TX6 3).1 (TX6 3).2.1 (TX6 3).2.2.1 ∈ wsX6_size := by decide +kernel
  have lk154 : Cond.fieldLink RX6 154 (TX0 1).1 (TX0 1).2.1 (TX0 1).2.2.1 ∈ wsX6_size := by decide +kernel
  obtain ⟨hFO, hGV, hVok⟩ := id hx
  obtain ⟨hFx, hSa, ⟨dp, hPl⟩, hFb, hFr⟩ := id hFO
  obtain ⟨hxL, hxK, hxO, hsa, hsp, hpl, hbr, hrd, hxw, hw3⟩ := id hFx
  obtain ⟨hsaL, hsaK, hsal, hsas, hsaO⟩ := id hSa
  obtain ⟨be, it, C, hgx⟩ := id hGV
  refine g_aload_n Z dX6_size_0 rfl ?_
  refine g_getr Z 5 3 rfl (by decide) in5 lk30 dX6_size_1 (by exact hxL) (by exact hxK) (by exact hbr) ?_
  refine g_geti Z 0 1 rfl (by decide) in0 lk154 dX6_size_4 (by exact hFb.1.1.1) (by exact hFb.1.1.2.1) ?_
  rw [hFb.1.1.2.2.2.2.2.2.2.1]
  exact g_iret Z dX6_size_7 (by omega) (by omega) (⟨rfl, rfl⟩)

set_option maxRecDepth 100000 in
set_option maxHeartbeats 2000000 in
/-- asked -/
theorem f_X6_work (l : Launch) (D : va_G) (cy : Nat → ClassId) (nw : Nat) (S : PS) (x sa pl la br h n u rd rk rt w fa : Nat) (so O : Nat → Nat) (V : Nat → Sv) (B : Nat → Nat) (hx : FX S nw x sa pl la br h n u rd rk rt w fa so O V B) : kI l yX6_work wsX6_work 0 0 D cy nw [.ref x] S (fun r T => S = T ∧ r = nI w) 0 0 := by
  refine enterI (cc := cX6_work) (nL := 1) (ret := (some .int)) (by decide +kernel) rfl (Nat.le_of_ble_eq_true rfl) ?_
  intro F Z hl hR hD hcy hnw hnm
  subst hl hD hcy hnw
  have hRf : F.R.frames = 0 := by rw [hR]
  have hRc : F.R.cells = 0 := by rw [hR]
  have hRs : F.R.slots = 0 := by rw [hR]
  have hRl : F.R.locals = 0 := by rw [hR]
  have in5 : ∀ w ∈ u_ws RX6 TX6 6, w ∈ wsX6_work := by decide +kernel
  have lk41 : Cond.fieldLink RX6 41 (TX6 5).1 (TX6 5).2.1 (TX6 5).2.2.1 ∈ wsX6_work := by decide +kernel
  obtain ⟨hFO, hGV, hVok⟩ := id hx
  obtain ⟨hFx, hSa, ⟨dp, hPl⟩, hFb, hFr⟩ := id hFO
  obtain ⟨hxL, hxK, hxO, hsa, hsp, hpl, hbr, hrd, hxw, hw3⟩ := id hFx
  obtain ⟨hsaL, hsaK, hsal, hsas, hsaO⟩ := id hSa
  obtain ⟨be, it, C, hgx⟩ := id hGV
  refine g_aload_n Z dX6_work_0 rfl ?_
  refine g_geti Z 5 5 rfl (by decide) in5 lk41 dX6_work_1 (by exact hxL) (by exact hxK) ?_
  rw [hxw]
  exact g_iret Z dX6_work_4 (by omega) (by omega) (⟨rfl, rfl⟩)
