/-! READING A SET -/
theorem rdAr_le {B : Nat → Nat} {e q : Nat} {W : Nat → Int64} : ∀ (m p a : Nat) (R : Nat → Int64), p ≤ e → rdAr B e m p a R = .inr (q, W) → q ≤ e
  | 0, p, a, R, hp, h => by cases h; exact hp
  | m + 1, p, a, R, hp, h => by
    unfold rdAr at h
    by_cases h1 : p + 2 ≤ e
    · rw [if_pos h1] at h
      by_cases h2 : nuB B p 2 < a
      · rw [if_pos h2] at h; cases h
      · rw [if_neg h2] at h; exact rdAr_le m _ _ _ h1 h
    · rw [if_neg h1] at h; cases h
theorem rdRl_le {B : Nat → Nat} {e q : Nat} {W : Nat → Int64} : ∀ (m p a : Nat) (R : Nat → Int64), p ≤ e → rdRl B e m p a R = .inr (q, W) → q ≤ e
  | 0, p, a, R, hp, h => by cases h; exact hp
  | m + 1, p, a, R, hp, h => by
    unfold rdRl at h
    by_cases h1 : p + 4 ≤ e
    · rw [if_pos h1] at h
      by_cases h2 : nuB B p 2 < a ∨ 65535 < nuB B p 2 + nuB B (p + 2) 2
      · rw [if_pos h2] at h; cases h
      · rw [if_neg h2] at h; exact rdRl_le m _ _ _ h1 h
    · rw [if_neg h1] at h; cases h
theorem rdFi_in {tt q : Nat} {W : Nat → Int64} {o : Rw} (h : rdFi tt o = .inr (q, W)) : o = .inr (q, W) ∧ tot W = tt := by
  rcases o with f | ⟨p, W2⟩
  · cases h
  · have h2 : (if tot W2 = tt then Sum.inr (p, W2) else Sum.inl (8, p) : Rw) = .inr (q, W) := h
    by_cases e : tot W2 = tt
    · rw [if_pos e] at h2; cases h2; exact ⟨rfl, e⟩
    · rw [if_neg e] at h2; cases h2
theorem rdRn_le {B : Nat → Nat} {e tt p q : Nat} {R W : Nat → Int64} (h : rdRn B e tt p R = .inr (q, W)) : q ≤ e := by
  unfold rdRn at h
  by_cases h1 : p + 2 ≤ e
  · rw [if_pos h1] at h; exact rdRl_le _ _ _ _ h1 (rdFi_in h).1
  · rw [if_neg h1] at h; cases h
theorem rdBm_le {B : Nat → Nat} {e tt p q : Nat} {R W : Nat → Int64} (h : rdBm B e tt p R = .inr (q, W)) : q ≤ e := by
  unfold rdBm at h
  by_cases h1 : p + 8192 ≤ e
  · rw [if_pos h1] at h
    by_cases h2 : tot (bmU B p R 1024) = tt
    · rw [if_pos h2] at h; cases h; exact h1
    · rw [if_neg h2] at h; cases h
  · rw [if_neg h1] at h; cases h
theorem rdCo_le {B : Nat → Nat} {e rb i tt p q : Nat} {W : Nat → Int64} (hp : p ≤ e) (h : rdCo B e rb i tt p = .inr (q, W)) : q ≤ e := by
  unfold rdCo at h
  by_cases h1 : rb / 2 ^ i % 2 = 0
  · rw [if_pos h1] at h
    by_cases h2 : tt ≤ 4096
    · rw [if_pos h2] at h; exact rdAr_le _ _ _ _ hp h
    · rw [if_neg h2] at h; exact rdBm_le h
  · rw [if_neg h1] at h; exact rdRn_le h
theorem rdCt_co {B : Nat → Nat} {e rb i tt p : Nat} {pf : Option Nat} {o : Nat × (Nat → Int64)} (h : rdCt B e rb i tt p pf = .inr o) : rdCo B e rb i tt p = .inr o := by
  rcases pf with _ | q
  · exact h
  · have h2 : (if nuB B (q + 4 * i) 4 = p then rdCo B e rb i tt p else Sum.inl (6, q + 4 * i)) = .inr o := h
    by_cases e : nuB B (q + 4 * i) 4 = p
    · rw [if_pos e] at h2; exact h2
    · rw [if_neg e] at h2; cases h2
abbrev Rsv : Type := (Nat × Nat) ⊕ Sv
noncomputable def rdCs (B : Nat → Nat) (e p0 rb : Nat) (pf : Option Nat) : Nat → Nat → Nat → Sv → Rsv
  | 0, _, p, V => if p = e then .inr V else .inl (9, p)
  | m + 1, i, p, V => match rdCt B e rb i (toR B p0 i) p pf with
    | .inl f => .inl f
    | .inr (q, W) => rdCs B e p0 rb pf m (i + 1) q (V.psh (kyR B p0 i, kdR rb i (toR B p0 i), W))
theorem rdCs_f {B : Nat → Nat} {e p0 rb m i p : Nat} {pf : Option Nat} {V : Sv} {f : Nat × Nat} (h : rdCt B e rb i (toR B p0 i) p pf = .inl f) : rdCs B e p0 rb pf (m + 1) i p V = .inl f := by
  unfold rdCs
  rw [h]
theorem rdCs_y {B : Nat → Nat} {e p0 rb m i p q : Nat} {pf : Option Nat} {V : Sv} {W : Nat → Int64} (h : rdCt B e rb i (toR B p0 i) p pf = .inr (q, W)) : rdCs B e p0 rb pf (m + 1) i p V = rdCs B e p0 rb pf m (i + 1) q (V.psh (kyR B p0 i, kdR rb i (toR B p0 i), W)) := by
  conv => lhs; unfold rdCs
  rw [h]
noncomputable def rdSe (B : Nat → Nat) (e : Nat) : Rsv := match rdMk B e with
  | .inl f => .inl f
  | .inr (n, pl, rb, p) => match rdHs B e p n 0 with
    | some f => .inl f
    | none => match rdPc e (p + 4 * n) n pl with
      | .inl f => .inl f
      | .inr (q, pf) => rdCs B e p rb pf n 0 q eS
theorem rdSe_1 {B : Nat → Nat} {e : Nat} {f : Nat × Nat} (h : rdMk B e = .inl f) : rdSe B e = .inl f := by
  unfold rdSe
  rw [h]
theorem rdSe_2 {B : Nat → Nat} {e n pl rb p : Nat} {f : Nat × Nat} (h : rdMk B e = .inr (n, pl, rb, p)) (h2 : rdHs B e p n 0 = some f) : rdSe B e = .inl f := by
  unfold rdSe
  rw [h]
  show (match rdHs B e p n 0 with | some f => _ | none => _) = _
  rw [h2]
theorem rdSe_3 {B : Nat → Nat} {e n pl rb p : Nat} {f : Nat × Nat} (h : rdMk B e = .inr (n, pl, rb, p)) (h2 : rdHs B e p n 0 = none) (h3 : rdPc e (p + 4 * n) n pl = .inl f) : rdSe B e = .inl f := by
  unfold rdSe
  rw [h]
  show (match rdHs B e p n 0 with | some f => _ | none => _) = _
  rw [h2]
  show (match rdPc e (p + 4 * n) n pl with | .inl f => _ | .inr (q, pf) => _) = _
  rw [h3]
theorem rdSe_4 {B : Nat → Nat} {e n pl rb p q : Nat} {pf : Option Nat} (h : rdMk B e = .inr (n, pl, rb, p)) (h2 : rdHs B e p n 0 = none) (h3 : rdPc e (p + 4 * n) n pl = .inr (q, pf)) : rdSe B e = rdCs B e p rb pf n 0 q eS := by
  unfold rdSe
  rw [h]
  show (match rdHs B e p n 0 with | some f => _ | none => _) = _
  rw [h2]
  show (match rdPc e (p + 4 * n) n pl with | .inl f => _ | .inr (q, pf) => _) = _
  rw [h3]
theorem rdMk_ok {B : Nat → Nat} {e n pl rb p : Nat} (hB : ∀ i, i < e → B i < 256) (h : rdMk B e = .inr (n, pl, rb, p)) : n ≤ 6 ∧ (pl = 0 ∨ pl = 1) ∧ rb < 256 ∧ p ≤ e := by
  unfold rdMk at h
  by_cases h1 : 4 ≤ e
  · rw [if_pos h1] at h
    by_cases h2 : nuB B 0 4 = 12346
    · rw [if_pos h2] at h
      unfold rdPt at h
      by_cases h3 : 8 ≤ e
      · rw [if_pos h3] at h
        by_cases h4 : 6 < nuB B 4 4
        · rw [if_pos h4] at h; cases h
        · rw [if_neg h4] at h; cases h; exact ⟨by omega, Or.inr rfl, by omega, h3⟩
      · rw [if_neg h3] at h; cases h
    · rw [if_neg h2] at h
      by_cases h3 : nuB B 0 4 % 65536 = 12347
      · rw [if_pos h3] at h
        unfold rdRb at h
        by_cases h4 : 6 < nuB B 0 4 / 65536 + 1
        · rw [if_pos h4] at h; cases h
        · rw [if_neg h4] at h
          by_cases h5 : 5 ≤ e
          · rw [if_pos h5] at h
            by_cases h6 : nuB B 4 1 / 2 ^ (nuB B 0 4 / 65536 + 1) = 0
            · rw [if_pos h6] at h; cases h; exact ⟨by omega, Or.inl rfl, nuB_lt 1 (fun i hi => hB _ (by omega)), h5⟩
            · rw [if_neg h6] at h; cases h
          · rw [if_neg h5] at h; cases h
      · rw [if_neg h3] at h; cases h
  · rw [if_neg h1] at h; cases h
theorem rdHs_le {B : Nat → Nat} {e p : Nat} : ∀ (m i : Nat), p + 4 * i ≤ e → rdHs B e p m i = none → p + 4 * (i + m) ≤ e
  | 0, i, hp, _ => hp
  | m + 1, i, hp, h => by
    by_cases h1 : p + 4 * i + 2 ≤ e
    · by_cases h2 : 0 < i ∧ kyR B p i ≤ kyR B p (i - 1)
      · rw [rdHs_2 h1 h2] at h; cases h
      · by_cases h3 : p + 4 * i + 4 ≤ e
        · rw [rdHs_4 h1 h2 h3] at h
          have := rdHs_le m (i + 1) (by omega) h
          omega
        · rw [rdHs_3 h1 h2 h3] at h; cases h
    · rw [rdHs_1 h1] at h; cases h
theorem HdP.no {S : PS} {rd : Nat} {o : Rh} {r : Int32} {U : PS} (h : HdP S rd o r U) (e : r = 0) : ∃ f g v, o = .inl (f, g) ∧ U = E8 S rd v ∧ v 0 = nI f ∧ v 1 = nI g := by
  rcases o with ⟨f, g⟩ | ⟨n, pl, rb, p⟩
  · obtain ⟨-, v, h1, h2, h3⟩ := h
    exact ⟨f, g, v, rfl, h1, h2, h3⟩
  · exact absurd (h.1.symm.trans e) (by decide)
theorem HdP.yes {S : PS} {rd : Nat} {o : Rh} {r : Int32} {U : PS} (h : HdP S rd o r U) (e : ¬ r = 0) : ∃ n pl rb p v, o = .inr (n, pl, rb, p) ∧ U = E8 S rd v ∧ v 0 = S.fi rd 0 ∧ v 2 = nI p ∧ v 3 = S.fi rd 3 ∧ v 4 = nI n ∧ v 5 = nI pl ∧ v 6 = nI rb ∧ v 7 = S.fi rd 7 := by
  rcases o with ⟨f, g⟩ | ⟨n, pl, rb, p⟩
  · exact absurd h.1 e
  · obtain ⟨-, v, h1, h2, -, h3, h4, h5, h6, h7, h8⟩ := h
    exact ⟨n, pl, rb, p, v, rfl, h1, h2, h3, h4, h5, h6, h7, h8⟩
theorem HeP.no {S : PS} {rd rk rt : Nat} {B : Nat → Nat} {p k : Nat} {o : Option (Nat × Nat)} {r : Int32} {U : PS} (h : HeP S rd rk rt B p k o r U) (e : r = 0) : ∃ f g v K Y, o = some (f, g) ∧ U = H9 S rd rk rt v K Y ∧ v 0 = nI f ∧ v 1 = nI g := by
  rcases o with _ | ⟨f, g⟩
  · exact absurd (h.1.symm.trans e) (by decide)
  · obtain ⟨-, v, K, Y, h1, h2, h3⟩ := h
    exact ⟨f, g, v, K, Y, rfl, h1, h2, h3⟩
theorem HeP.yes {S : PS} {rd rk rt : Nat} {B : Nat → Nat} {p k : Nat} {o : Option (Nat × Nat)} {r : Int32} {U : PS} (h : HeP S rd rk rt B p k o r U) (e : ¬ r = 0) : o = none ∧ ∃ K Y, U = H9 S rd rk rt (va_up (S.fi rd) 2 (nI (p + 4 * k))) K Y ∧ ∀ j, j < k → K j = nI (kyR B p j) ∧ Y j = nI (toR B p j) := by
  rcases o with _ | ⟨f, g⟩
  · exact ⟨rfl, h.2⟩
  · exact absurd h.1 e
theorem PcP.no {S : PS} {rd : Nat} {o : (Nat × Nat) ⊕ (Nat × Option Nat)} {r : Int32} {U : PS} (h : PcP S rd o r U) (e : r = 0) : ∃ f g, o = .inl (f, g) ∧ U = (S.setI rd 0 (nI f)).setI rd 1 (nI g) := by
  rcases o with ⟨f, g⟩ | ⟨q, _ | p⟩
  · exact ⟨f, g, rfl, h.2⟩
  · exact absurd (h.1.symm.trans e) (by decide)
  · exact absurd (h.1.symm.trans e) (by decide)
theorem PcP.yes {S : PS} {rd e p k pl : Nat} {r : Int32} {U : PS} (h : PcP S rd (rdPc e p k pl) r U) (hp : p ≤ e) (h2 : S.fi rd 2 = nI p) (h7 : S.fi rd 7 = -1) (e0 : ¬ r = 0) : ∃ q pf v, rdPc e p k pl = .inr (q, pf) ∧ U = E8 S rd v ∧ v 0 = S.fi rd 0 ∧ v 2 = nI q ∧ v 3 = S.fi rd 3 ∧ v 4 = S.fi rd 4 ∧ v 6 = S.fi rd 6 ∧ q ≤ e ∧ ((pf = none ∧ v 7 = -1) ∨ ∃ g, pf = some g ∧ v 7 = nI g ∧ g + 4 * k ≤ e) := by
  by_cases c1 : pl = 0 ∧ k < 4
  · rw [show rdPc e p k pl = .inr (p, none) from if_pos c1] at h ⊢
    refine ⟨p, none, S.fi rd, rfl, h.2.trans (by show S = (S.L, S.K, va_up S.fi rd (S.fi rd), S.fr, S.ln, S.ri, S.rj, S.rr); rw [va_up_get]), rfl, h2, rfl, rfl, rfl, hp, Or.inl ⟨rfl, h7⟩⟩
  · by_cases c2 : p + 4 * k ≤ e
    · rw [show rdPc e p k pl = .inr (p + 4 * k, some p) from (if_neg c1).trans (if_pos c2)] at h ⊢
      refine ⟨_, _, va_up (va_up (S.fi rd) 7 (nI p)) 2 (nI (p + 4 * k)), rfl, h.2.trans (by rw [E8_of S, E8_set]), ?_, va_up_self _ _ _, ?_, ?_, ?_, c2, Or.inr ⟨p, rfl, ?_, c2⟩⟩
      · exact (va_up_ne _ _ (by decide)).trans (va_up_ne _ _ (by decide))
      · exact (va_up_ne _ _ (by decide)).trans (va_up_ne _ _ (by decide))
      · exact (va_up_ne _ _ (by decide)).trans (va_up_ne _ _ (by decide))
      · exact (va_up_ne _ _ (by decide)).trans (va_up_ne _ _ (by decide))
      · exact (va_up_ne _ _ (by decide)).trans (va_up_self _ _ _)
    · rw [show rdPc e p k pl = .inl (1, e) from (if_neg c1).trans (if_neg c2)] at h
      exact absurd h.1 e0
theorem TcP.no {S : PS} {nw : Nat} {O : Nat → Nat} {b s it : Nat} {C : Nat → Nat} {rd : Nat} {V : Sv} {key : Nat} {d : Int32} {o : Rw} {r : Int32} {U : PS} (h : TcP S nw O b s it C rd V key d o r U) (e : r = 0) : ∃ f g W, o = .inl (f, g) ∧ TcQ S nw O b s it C rd W U ∧ U.fi rd 0 = nI f ∧ U.fi rd 1 = nI g := by
  rcases o with ⟨f, g⟩ | ⟨p, W⟩
  · obtain ⟨-, ⟨W, h1⟩, h2, h3⟩ := h
    exact ⟨f, g, W, rfl, h1, h2, h3⟩
  · exact absurd (h.1.symm.trans e) (by decide)
theorem TcP.yes {S : PS} {nw : Nat} {O : Nat → Nat} {b s it : Nat} {C : Nat → Nat} {rd : Nat} {V : Sv} {key : Nat} {d : Int32} {o : Rw} {r : Int32} {U : PS} (h : TcP S nw O b s it C rd V key d o r U) (e : ¬ r = 0) : ∃ p W, o = .inr (p, W) ∧ TcQ S nw O b s it C rd (V.psh (key, d, W)) U ∧ U.fi rd = va_up (S.fi rd) 2 (nI p) := by
  rcases o with ⟨f, g⟩ | ⟨p, W⟩
  · exact absurd h.1 e
  · exact ⟨p, W, rfl, h.2.1, h.2.2⟩
/-- what may change as a set is read -/
def TsR (O : Nat → Nat) (b s rd rk rt : Nat) (a : Nat) : Prop := O a = b ∨ a = s ∨ a = rd ∨ a = rk ∨ a = rt
/-- cells that are no set's -/
def Ot (S : PS) (O : Nat → Nat) (b rd rk rt br h : Nat) : Prop := rd ∈ S.L ∧ rk ∈ S.L ∧ rt ∈ S.L ∧ br ∈ S.L ∧ h ∈ S.L ∧ O rd ≠ b ∧ O rk ≠ b ∧ O rt ≠ b ∧ O br ≠ b ∧ O h ≠ b
def TsI (S : PS) (nw : Nat) (O : Nat → Nat) (b s it : Nat) (C : Nat → Nat) (rd rk rt br h n u : Nat) (B : Nat → Nat) (U : PS) (O2 : Nat → Nat) (V : Sv) : Prop := (∀ a ∈ S.L, O2 a = O a) ∧ Kp (TsR O b s rd rk rt) S U ∧ SV U nw O2 b s it C V ∧ RdC U rd rk rt ∧ ByV U br h n u B
theorem TsI.step {S : PS} {nw : Nat} {O : Nat → Nat} {b s it : Nat} {C : Nat → Nat} {rd rk rt br h n u : Nat} {B : Nat → Nat} {U U2 : PS} {O2 : Nat → Nat} {V : Sv} (hT : TsI S nw O b s it C rd rk rt br h n u B U O2 V) (ho : Ot S O b rd rk rt br h) (hk : Kp (fun a => a = rd ∨ a = rk ∨ a = rt) U U2) (hr : RdC U2 rd rk rt) (hn : nw ∉ U2.L) : TsI S nw O b s it C rd rk rt br h n u B U2 O2 V := by
  obtain ⟨h1, h2, h3, h4, h5⟩ := hT
  obtain ⟨o1, o2, o3, o4, o5, p1, p2, p3, p4, p5⟩ := ho
  have hne : ∀ a, a = rd ∨ a = rk ∨ a = rt → O2 a ≠ b := by
    intro a ha
    rcases ha with rfl | rfl | rfl
    · rw [h1 _ o1]; exact p1
    · rw [h1 _ o2]; exact p2
    · rw [h1 _ o3]; exact p3
  have hs2 := h3.2.1
  have kn : ∀ a, (U.K a = 0 ∨ U.K a = 2 ∨ U.K a = 7) → ¬ (a = rd ∨ a = rk ∨ a = rt) := by
    intro a ha q
    have k1 := h4.2.1
    have k2 := h4.2.2.2.2.1
    have k3 := h4.2.2.2.2.2.2.2.2.1
    rcases q with rfl | rfl | rfl <;> omega
  refine ⟨h1, h2.tr (hk.mono (fun a _ q => Or.inr (Or.inr q))), SV.keep hk.1 (fun _ _ => rfl) (hk.2 s h3.1 (kn s (by omega))) (fun a ha e => hk.2 a ha (fun q => hne a q e)) hn h3, hr, ?_⟩
  exact h5.ag hk.1 (hk.2 br h5.1.1 (kn br (by have := h5.1.2.1; omega))) (hk.2 h h5.1.2.2.2.1 (kn h (by have := h5.1.2.2.2.2.1; omega)))
theorem Kp.trO {O O2 : Nat → Nat} {b s rd rk rt : Nat} {S U U2 : PS} (h1 : ∀ a ∈ S.L, O2 a = O a) (h2 : Kp (TsR O b s rd rk rt) S U) (q2 : Kp (fun a => O2 a = b ∨ a = s ∨ a = rd) U U2) : Kp (TsR O b s rd rk rt) S U2 := by
  refine ⟨fun a ha => q2.1 a (h2.1 a ha), fun a ha hn => (h2.2 a ha hn).tr (q2.2 a (h2.1 a ha) (fun q => hn ?_))⟩
  rcases q with q | q | q
  · rw [h1 a ha] at q; exact Or.inl q
  · exact Or.inr (Or.inl q)
  · exact Or.inr (Or.inr (Or.inl q))
theorem TsI.tc {S : PS} {nw : Nat} {O : Nat → Nat} {b s it : Nat} {C : Nat → Nat} {rd rk rt br h n u : Nat} {B : Nat → Nat} {U U2 : PS} {O2 : Nat → Nat} {V W : Sv} (hT : TsI S nw O b s it C rd rk rt br h n u B U O2 V) (ho : Ot S O b rd rk rt br h) (hq : TcQ U nw O2 b s it C rd W U2) : ∃ O3, TsI S nw O b s it C rd rk rt br h n u B U2 O3 W ∧ U2.ri rk = U.ri rk ∧ U2.ri rt = U.ri rt := by
  obtain ⟨h1, h2, h3, h4, h5⟩ := hT
  obtain ⟨o1, o2, o3, o4, o5, p1, p2, p3, p4, p5⟩ := ho
  obtain ⟨O3, q1, q2, q3, q4, q5⟩ := hq
  have hs2 := h3.2.1
  have k1 := h4.2.1
  have ag : ∀ a, a ∈ S.L → O a ≠ b → a ≠ rd → U.K a ≠ 2 → Ag U U2 a := by
    intro a ha e1 e2 e3
    refine q2.2 a (h2.1 a ha) (fun q => ?_)
    rcases q with q | q | q
    · rw [h1 a ha] at q; exact e1 q
    · rw [q] at e3; exact e3 hs2
    · exact e2 q
  have kk := h4.2.2.2.2.1
  have kt := h4.2.2.2.2.2.2.2.2.1
  have kb := h5.1.2.1
  have kh := h5.1.2.2.2.2.1
  have ak := ag rk o2 p2 (fun e => by rw [e, k1] at kk; omega) (by omega)
  have aT := ag rt o3 p3 (fun e => by rw [e, k1] at kt; omega) (by omega)
  have ab := ag br o4 p4 (fun e => by rw [e, k1] at kb; omega) (by omega)
  have ah := ag h o5 p5 (fun e => by rw [e, k1] at kh; omega) (by omega)
  obtain ⟨r1, r2, r3, r4, r5, r6, r7, r8, r9, r10, r11⟩ := h4
  refine ⟨O3, ⟨fun a ha => (q1 a (h2.1 a ha)).trans (h1 a ha), Kp.trO h1 h2 q2, q3, ⟨q2.1 _ r1, q4.trans r2, by rw [q5]; exact r3, q2.1 _ r4, ak.1.trans r5, ak.2.2.2.1.trans r6, by rw [q5]; exact r7, q2.1 _ r8, aT.1.trans r9, aT.2.2.2.1.trans r10, r11⟩, h5.ag q2.1 ab ah⟩, ak.2.2.2.2.1, aT.2.2.2.2.1⟩

theorem kp_E8 {U : PS} {rd rk rt : Nat} {v : Nat → Int32} : Kp (fun a => a = rd ∨ a = rk ∨ a = rt) U (E8 U rd v) := ⟨fun _ h => h, fun a _ hn => ⟨rfl, va_up_ne _ _ (fun e => hn (Or.inl e)), rfl, rfl, rfl, rfl, rfl⟩⟩
theorem kp_H9 {U : PS} {rd rk rt : Nat} {v K Y : Nat → Int32} : Kp (fun a => a = rd ∨ a = rk ∨ a = rt) U (H9 U rd rk rt v K Y) := ⟨fun _ h => h, fun a _ hn => ⟨rfl, va_up_ne _ _ (fun e => hn (Or.inl e)), rfl, rfl, (va_up_ne _ _ (fun e => hn (Or.inr (Or.inr e)))).trans (va_up_ne _ _ (fun e => hn (Or.inr (Or.inl e)))), rfl, rfl⟩⟩
def TsP (S : PS) (nw : Nat) (O : Nat → Nat) (b s it rd rk rt : Nat) (o : Rsv) (r : Int32) (U : PS) : Prop := ∃ O2 C2 W, (∀ a ∈ S.L, O2 a = O a) ∧ Kp (TsR O b s rd rk rt) S U ∧ SV U nw O2 b s it C2 W ∧ RdC U rd rk rt ∧ (match o with
  | .inl (f, g) => r = 0 ∧ U.fi rd 0 = nI f ∧ U.fi rd 1 = nI g
  | .inr V => r = 1 ∧ W = V ∧ U.fi rd 0 = nI 0)
theorem TsI.bad {S : PS} {nw : Nat} {O : Nat → Nat} {b s it : Nat} {C : Nat → Nat} {rd rk rt br h n u : Nat} {B : Nat → Nat} {U : PS} {O2 : Nat → Nat} {V : Sv} {o : Rsv} {f g : Nat} (hT : TsI S nw O b s it C rd rk rt br h n u B U O2 V) (e : o = .inl (f, g)) (h0 : U.fi rd 0 = nI f) (h1 : U.fi rd 1 = nI g) : TsP S nw O b s it rd rk rt o 0 U := by
  subst e
  exact ⟨O2, C, V, hT.1, hT.2.1, hT.2.2.1, hT.2.2.2.1, rfl, h0, h1⟩
theorem TsI.good {S : PS} {nw : Nat} {O : Nat → Nat} {b s it : Nat} {C : Nat → Nat} {rd rk rt br h n u : Nat} {B : Nat → Nat} {U : PS} {O2 : Nat → Nat} {V : Sv} {o : Rsv} (hT : TsI S nw O b s it C rd rk rt br h n u B U O2 V) (e : o = .inr V) (h0 : U.fi rd 0 = nI 0) : TsP S nw O b s it rd rk rt o 1 U := by
  subst e
  exact ⟨O2, C, V, hT.1, hT.2.1, hT.2.2.1, hT.2.2.2.1, rfl, rfl, h0⟩
/-- the reader's numbers between two containers -/
def TsN (U : PS) (rd e p k rb : Nat) (pf : Option Nat) : Prop := U.fi rd 0 = nI 0 ∧ U.fi rd 2 = nI p ∧ U.fi rd 3 = nI e ∧ U.fi rd 4 = nI k ∧ U.fi rd 6 = nI rb ∧ ((pf = none ∧ U.fi rd 7 = -1) ∨ ∃ g : Nat, pf = some g ∧ U.fi rd 7 = nI g ∧ g + 4 * k ≤ e)
abbrev ts9 (S : PS) (rd s u : Nat) : PS := ((((((((S.setI rd 0 0).setI rd 1 0).setI rd 2 0).setI rd 3 (nI u)).setI rd 4 0).setI rd 5 0).setI rd 6 0).setI rd 7 (-1)).setI s 1 0
def v9 (v : Nat → Int32) (u : Nat) : Nat → Int32 := va_up (va_up (va_up (va_up (va_up (va_up (va_up (va_up v 0 0) 1 0) 2 0) 3 (nI u)) 4 0) 5 0) 6 0) 7 (-1)
theorem ts9_eq {S : PS} {rd s u : Nat} : ts9 S rd s u = (E8 S rd (v9 (S.fi rd) u)).setI s 1 (nI 0) := by
  unfold v9
  rw [← E8_set, ← E8_set, ← E8_set, ← E8_set, ← E8_set, ← E8_set, ← E8_set, ← E8_of]
  rfl
theorem v9_at (v : Nat → Int32) (u : Nat) : v9 v u 0 = 0 ∧ v9 v u 2 = nI 0 ∧ v9 v u 3 = nI u ∧ v9 v u 5 = nI 0 ∧ v9 v u 6 = nI 0 ∧ v9 v u 7 = -1 := by
  unfold v9
  refine ⟨?_, ?_, ?_, ?_, ?_, va_up_self _ _ _⟩
  · exact (va_up_ne _ _ (by decide)).trans ((va_up_ne _ _ (by decide)).trans ((va_up_ne _ _ (by decide)).trans ((va_up_ne _ _ (by decide)).trans ((va_up_ne _ _ (by decide)).trans ((va_up_ne _ _ (by decide)).trans ((va_up_ne _ _ (by decide)).trans (va_up_self _ _ _)))))))
  · exact (va_up_ne _ _ (by decide)).trans ((va_up_ne _ _ (by decide)).trans ((va_up_ne _ _ (by decide)).trans ((va_up_ne _ _ (by decide)).trans ((va_up_ne _ _ (by decide)).trans (va_up_self _ _ _)))))
  · exact (va_up_ne _ _ (by decide)).trans ((va_up_ne _ _ (by decide)).trans ((va_up_ne _ _ (by decide)).trans ((va_up_ne _ _ (by decide)).trans (va_up_self _ _ _))))
  · exact (va_up_ne _ _ (by decide)).trans ((va_up_ne _ _ (by decide)).trans (va_up_self _ _ _))
  · exact (va_up_ne _ _ (by decide)).trans (va_up_self _ _ _)
theorem ts_st {S : PS} {nw : Nat} {O : Nat → Nat} {b s it : Nat} {C : Nat → Nat} {rd rk rt br h n u : Nat} {B : Nat → Nat} {V : Sv} (hv : SV S nw O b s it C V) (hr : RdC S rd rk rt) (hb : ByV S br h n u B) (ho : Ot S O b rd rk rt br h) (hn : nw ∉ S.L) : TsI S nw O b s it C rd rk rt br h n u B (ts9 S rd s u) O eS ∧ (ts9 S rd s u).fi rd = v9 (S.fi rd) u := by
  have h0 : TsI S nw O b s it C rd rk rt br h n u B S O V := ⟨fun _ _ => rfl, Kp.rf, hv, hr, hb⟩
  have h1 := h0.step (U2 := E8 S rd (v9 (S.fi rd) u)) ho kp_E8 hr hn
  rw [ts9_eq]
  obtain ⟨a1, a2, a3, a4, a5⟩ := h1
  have hsK := a3.2.1
  have k0 : ∀ a, a ≠ s → Ag (E8 S rd (v9 (S.fi rd) u)) ((E8 S rd (v9 (S.fi rd) u)).setI s 1 (nI 0)) a := fun a ha => ⟨rfl, va_up_ne _ _ ha, rfl, rfl, rfl, rfl, rfl⟩
  have hsr : rd ≠ s := fun e => by have := hr.2.1; rw [e] at this; have h2 := hv.2.1; omega
  obtain ⟨e1, e2⟩ := SP.used (m := 0) (j := 0) (f := eS.2) ⟨a3.1, a3.2.1, a3.2.2.1, a3.2.2.2.1, a3.2.2.2.2.2.1, fun i hi => absurd hi (Nat.not_lt_zero _)⟩ (by omega)
  refine ⟨⟨a1, a2.tr (e2.mono (fun a _ q => Or.inr (Or.inl q))), SP.sv (by omega) e1 rfl (fun i hi => rfl), a4, ?_⟩, (va_up_ne _ _ hsr).trans (E8_fi _ _ _)⟩
  refine ByV.ag (S := E8 S rd (v9 (S.fi rd) u)) (fun _ h => h) (k0 br (fun e => ?_)) (k0 h (fun e => ?_)) a5
  · have := a5.1.2.1; rw [e, hsK] at this; omega
  · have := a5.1.2.2.2.2.1; rw [e, hsK] at this; omega

theorem kp2 (U : PS) (rd rk rt : Nat) (y z : Int32) : Kp (fun a => a = rd ∨ a = rk ∨ a = rt) U ((U.setI rd 0 y).setI rd 1 z) := by
  rw [E8_of U, E8_set]
  exact kp_E8

set_option maxRecDepth 100000 in
set_option maxHeartbeats 2000000 in
/-- a set is read -/
theorem f_X4_takeSet (l : Launch) (D : va_G) (cy : Nat → ClassId) (nw : Nat) (S : PS) (rd rk rt : Nat) (hr : RdC S rd rk rt) (br h n u : Nat) (B : Nat → Nat) (hb : ByV S br h n u B) (O : Nat → Nat) (b s it : Nat) (C : Nat → Nat) (V0 : Sv) (hv : SV S nw O b s it C V0) (ho : Ot S O b rd rk rt br h) : kI l yX4_takeSet wsX4_takeSet 5 122 D cy nw [.ref rd, .ref br, .ref s] S (fun r T => TsP S nw O b s it rd rk rt (rdSe B u) r T) 6 6144 := by
  refine enterI (cc := cX4_takeSet) (nL := 4) (ret := (some .boolean)) (by decide +kernel) rfl (Nat.le_of_ble_eq_true rfl) ?_
  intro F Z hl hR hD hcy hnw hnm
  subst hl hD hcy hnw
  have hRf : F.R.frames = 5 := by rw [hR]
  have hRc : F.R.cells = 6 := by rw [hR]
  have hRs : F.R.slots = 6144 := by rw [hR]
  have hRl : F.R.locals = 122 := by rw [hR]
  have in0 : ∀ w ∈ u_ws RX0 TX0 2, w ∈ wsX4_takeSet := by decide +kernel
  have in2 : ∀ w ∈ u_ws RX2 TX2 2, w ∈ wsX4_takeSet := by decide +kernel
  have in4 : ∀ w ∈ u_ws RX4 TX4 10, w ∈ wsX4_takeSet := by decide +kernel
  have lk18 : Cond.fieldLink RX4 18 (TX4 0).1 (TX4 0).2.1 (TX4 0).2.2.1 ∈ wsX4_takeSet := by decide +kernel
  have lk22 : Cond.fieldLink RX4 22 (TX4 1).1 (TX4 1).2.1 (TX4 1).2.2.1 ∈ wsX4_takeSet := by decide +kernel
  have lk25 : Cond.fieldLink RX4 25 (TX4 2).1 (TX4 2).2.1 (TX4 2).2.2.1 ∈ wsX4_takeSet := by decide +kernel
  have lk28 : Cond.fieldLink RX4 28 (TX0 1).1 (TX0 1).2.1 (TX0 1).2.2.1 ∈ wsX4_takeSet := by decide +kernel
  have lk33 : Cond.fieldLink RX4 33 (TX4 3).1 (TX4 3).2.1 (TX4 3).2.2.1 ∈ wsX4_takeSet := by decide +kernel
  have lk36 : Cond.fieldLink RX4 36 (TX4 4).1 (TX4 4).2.1 (TX4 4).2.2.1 ∈ wsX4_takeSet := by decide +kernel
  have lk39 : Cond.fieldLink RX4 39 (TX4 5).1 (TX4 5).2.1 (TX4 5).2.2.1 ∈ wsX4_takeSet := by decide +kernel
  have lk43 : Cond.fieldLink RX4 43 (TX4 6).1 (TX4 6).2.1 (TX4 6).2.2.1 ∈ wsX4_takeSet := by decide +kernel
  have lk46 : Cond.fieldLink RX4 46 (TX4 7).1 (TX4 7).2.1 (TX4 7).2.2.1 ∈ wsX4_takeSet := by decide +kernel
  have lk49 : Cond.fieldLink RX4 49 (TX2 1).1 (TX2 1).2.1 (TX2 1).2.2.1 ∈ wsX4_takeSet := by decide +kernel
  have hu6 : u ≤ 60000 := by have h1 := hb.1.2.2.2.2.2.2.1; have h2 := hb.1.2.2.2.2.2.2.2.2.1; omega
  have hB8 : ∀ i, i < u → B i < 256 := fun i hi => (hb.2 i hi).1
  have loop : ∀ (m p k p0 rb : Nat) (pf : Option Nat) (T : PS) (O2 : Nat → Nat) (V : Sv), 8 - V.1 < m → (TsI S F.nw O b s it C rd rk rt br h n u B T O2 V ∧ TsN T rd u p k rb pf ∧ p ≤ u ∧ k ≤ 6 ∧ V.1 ≤ k ∧ rb < 256 ∧ p0 + 4 * k ≤ u ∧ (∀ j, j < k → T.ri rk j = nI (kyR B p0 j) ∧ T.ri rt j = nI (toR B p0 j)) ∧ rdCs B u p0 rb pf (k - V.1) V.1 p V = rdSe B u) → G F 4 T V.1 (1024 * V.1) (QI F (fun r T => TsP S F.nw O b s it rd rk rt (rdSe B u) r T) 6 6144) 75 [(0, .ref rd), (1, .ref br), (2, .ref s), (3, .int (nI V.1))] [] := by
    intro m
    induction m with
    | zero => intros; omega
    | succ m ih =>
      intro p k p0 rb pf T O2 V hm ⟨hI, hN, hpu, hk6, hik, hrb, hp0, hKU, hev⟩
      obtain ⟨n0, n2, n3, n4, n6, n7⟩ := id hN
      obtain ⟨i1, i2, i3, i4, i5⟩ := id hI
      have hrL := i4.1
      have hrK := i4.2.1
      have hO2 : O2 rd ≠ b := by rw [i1 _ ho.1]; exact ho.2.2.2.2.2.1
      refine g_nw Z (fun hnT => ?_)
      refine g_iload_n Z dX4_takeSet_75 rfl ?_
      refine g_aload_n Z dX4_takeSet_76 rfl ?_
      refine g_geti Z 4 4 rfl (by decide) in4 lk36 dX4_takeSet_77 (by assumption) (by assumption) ?_
      rw [n4]
      refine g_icmp_ge Z 101 dX4_takeSet_80 (by decide) (fun h80 => ?_) (fun h80 => ?_)
      · have hz : k - V.1 = 0 := by have := ge_t (i := V.1) (N := k) (by omega) (by omega) h80; omega
        rw [hz] at hev
        refine g_aload_n Z dX4_takeSet_101 rfl ?_
        refine g_geti Z 4 2 rfl (by decide) in4 lk25 dX4_takeSet_102 (by assumption) (by assumption) ?_
        rw [n2]
        refine g_aload_n Z dX4_takeSet_105 rfl ?_
        refine g_geti Z 4 3 rfl (by decide) in4 lk33 dX4_takeSet_106 (by assumption) (by assumption) ?_
        rw [n3]
        refine g_icmp_eq Z 125 dX4_takeSet_109 (by decide) (fun h109 => ?_) (fun h109 => ?_)
        · have hpe : p = u := (nI_eq (by omega) (by omega)).mp h109
          refine g_iconst (v := 1) Z dX4_takeSet_125 (by decide) ?_
          refine g_goto Z 130 dX4_takeSet_126 (by decide) ?_
          exact g_zret Z dX4_takeSet_130 (by rfl) (by omega) (by omega) (by first | exact hI.good (hev.symm.trans (if_pos hpe)) n0 | exact TsI.bad (hI.step (U2 := (T.setI rd 0 9).setI rd 1 (nI p)) ho (kp2 T rd rk rt _ _) i4 hnT) (hev.symm.trans (if_neg hpe)) ((up2_ne _ _ (Or.inr (by decide))).trans (up2_self _ _ _ _)) (up2_self _ _ _ _))
        · have hpe : ¬ p = u := fun q => h109 (by rw [q])
          refine g_aload_n Z dX4_takeSet_112 rfl ?_
          refine g_bipush (v := 9) Z dX4_takeSet_113 (by decide) ?_
          refine g_aload_n Z dX4_takeSet_115 rfl ?_
          refine g_geti Z 4 2 rfl (by decide) in4 lk25 dX4_takeSet_116 (by assumption) (by assumption) ?_
          rw [n2]
          refine g_cvI Z (f_X4_tellFault F.l F.D F.cy F.nw T rd hrL hrK _ _) 2 gX4_takeSet_X4_tellFault rfl (by decide +kernel) (by rw [hRf, hRl]; decide) (by assumption) (κ := 4) (by assumption) rfl (by decide) rfl rfl (Nat.le_of_ble_eq_true rfl) dX4_takeSet_119 (by rw [hRc, hRs]; omega) (fun r T2 hp => ?_)
          obtain ⟨rfl, rfl⟩ := hp
          refine g_if_eq Z 129 dX4_takeSet_122 (by decide) (fun h122 => ?_) (fun h122 => absurd (rfl) h122)
          refine g_iconst (v := 0) Z dX4_takeSet_129 (by decide) ?_
          exact g_zret Z dX4_takeSet_130 (by rfl) (by omega) (by omega) (by first | exact hI.good (hev.symm.trans (if_pos hpe)) n0 | exact TsI.bad (hI.step (U2 := (T.setI rd 0 9).setI rd 1 (nI p)) ho (kp2 T rd rk rt _ _) i4 hnT) (hev.symm.trans (if_neg hpe)) ((up2_ne _ _ (Or.inr (by decide))).trans (up2_self _ _ _ _)) (up2_self _ _ _ _))
      · have hlt : V.1 < k := ge_f (by omega) (by omega) h80
        obtain ⟨m2, hm2⟩ : ∃ m2, k - V.1 = m2 + 1 := ⟨k - V.1 - 1, by omega⟩
        have hm3 : k - (V.1 + 1) = m2 := by omega
        rw [hm2] at hev
        have hky : kyR B p0 V.1 < 65536 := nu2 (fun q hq => hB8 _ (by omega))
        have htt : toR B p0 V.1 ≤ 65536 := by have : nuB B (p0 + 4 * V.1 + 2) 2 < 65536 := nu2 (fun q hq => hB8 _ (by omega)); unfold toR; omega
        have hpf : (pf = none ∧ T.fi rd 7 = -1) ∨ ∃ q : Nat, pf = some q ∧ T.fi rd 7 = nI q ∧ q + 4 * V.1 + 4 ≤ u := n7.imp id (fun ⟨g, h1, h2, h3⟩ => ⟨g, h1, h2, by omega⟩)
        refine g_aload_n Z dX4_takeSet_83 rfl ?_
        refine g_aload_n Z dX4_takeSet_84 rfl ?_
        refine g_aload_n Z dX4_takeSet_85 rfl ?_
        refine g_iload_n Z dX4_takeSet_86 rfl ?_
        refine g_cvI Z (f_X4_takeContainer F.l F.D F.cy F.nw T rd rk rt u i4 n3 hu6 br h n u B i5 (Nat.le_refl u) O2 b s it C V i3 (by omega) hO2 p n2 hpu rb n6 hrb (kyR B p0 V.1) hky (hKU V.1 hlt).1 (toR B p0 V.1) htt (hKU V.1 hlt).2 pf hpf) 3 gX4_takeSet_X4_takeContainer rfl (by decide +kernel) (by rw [hRf, hRl]; decide) (by assumption) (κ := 4) (by assumption) rfl (by decide) rfl rfl (Nat.le_of_ble_eq_true rfl) dX4_takeSet_87 (by rw [hRc, hRs]; omega) (fun r T2 hp => ?_)
        have hq := hp
        refine g_if_ne Z 95 dX4_takeSet_90 (by decide) (fun h90 => ?_) (fun h90 => ?_)
        · obtain ⟨p2, W, hct, htq, hfi⟩ := hq.yes h90
          obtain ⟨O3, hI3, hrk3, hrt3⟩ := hI.tc ho htq
          rw [rdCs_y hct] at hev
          have hp2 := rdCo_le hpu (rdCt_co hct)
          have hN3 : TsN T2 rd u p2 k rb pf := by
            unfold TsN
            rw [hfi, va_up_self, va_up_ne _ _ (show (0 : Nat) ≠ 2 by decide), va_up_ne _ _ (show (3 : Nat) ≠ 2 by decide), va_up_ne _ _ (show (4 : Nat) ≠ 2 by decide), va_up_ne _ _ (show (6 : Nat) ≠ 2 by decide), va_up_ne _ _ (show (7 : Nat) ≠ 2 by decide)]
            exact ⟨n0, rfl, n3, n4, n6, n7⟩
          refine g_iinc (c := 1) Z dX4_takeSet_95 rfl (by decide) (by decide) ?_
          rw [nI_1]
          refine g_goto Z 75 dX4_takeSet_98 (by decide) ?_
          have hih := ih p2 k p0 rb pf T2 O3 (V.psh (kyR B p0 V.1, kdR rb V.1 (toR B p0 V.1), W)) (by show 8 - (V.1 + 1) < m; omega) ⟨hI3, hN3, hp2, hk6, hlt, hrb, hp0, by rw [hrk3, hrt3]; exact hKU, (congrArg (fun x => rdCs B u p0 rb pf x (V.1 + 1) p2 (V.psh (kyR B p0 V.1, kdR rb V.1 (toR B p0 V.1), W))) hm3).trans hev⟩
          exact g_widen (Nat.le_refl _) (Nat.le_of_eq (show 1024 * V.1 + 1024 = 1024 * (V.1 + 1) by omega)) (g_lv (by (repeat (first | exact trivial | refine And.intro rfl ?_)); done) hih)
        · obtain ⟨f, g, W, hct, htq, hf0, hf1⟩ := hq.no h90
          obtain ⟨O3, hI3, -, -⟩ := hI.tc ho htq
          rw [rdCs_f hct] at hev
          refine g_iconst (v := 0) Z dX4_takeSet_93 (by decide) ?_
          exact g_zret Z dX4_takeSet_94 (by rfl) (by omega) (by omega) (hI3.bad hev.symm hf0 hf1)
  refine g_nw Z (fun hnS => ?_)
  obtain ⟨hI1, hf1⟩ := ts_st hv hr hb ho hnS
  obtain ⟨hrL, hrK, hrk, hkL, hkK, hkl, hrt, htL, htK, htl, hkt⟩ := id hr
  have hbL := hb.1.1
  have hbK := hb.1.2.1
  have hbu := hb.1.2.2.2.2.2.2.2.1
  have hsL := hv.1
  have hsK := hv.2.1
  have hhK := hb.1.2.2.2.2.1
  have hbr : br ≠ rd := fun e => by rw [e, hrK] at hbK; exact absurd hbK (by decide)
  have hhk : h ≠ rk := fun e => by rw [e, hkK] at hhK; exact absurd hhK (by decide)
  have hht : h ≠ rt := fun e => by rw [e, htK] at hhK; exact absurd hhK (by decide)
  obtain ⟨w0, w2, w3, w5, w6, w7⟩ := v9_at (S.fi rd) u
  refine g_aload_n Z dX4_takeSet_0 rfl ?_
  refine g_iconst (v := 0) Z dX4_takeSet_1 (by decide) ?_
  refine g_puti Z 4 0 rfl (by decide) tyX4 tyX4_ok nmX4 rfl in4 lk18 dX4_takeSet_2 rfl rfl (by assumption) (by assumption) ?_
  refine g_aload_n Z dX4_takeSet_5 rfl ?_
  refine g_iconst (v := 0) Z dX4_takeSet_6 (by decide) ?_
  refine g_puti Z 4 1 rfl (by decide) tyX4 tyX4_ok nmX4 rfl in4 lk22 dX4_takeSet_7 rfl rfl (by assumption) (by assumption) ?_
  refine g_aload_n Z dX4_takeSet_10 rfl ?_
  refine g_iconst (v := 0) Z dX4_takeSet_11 (by decide) ?_
  refine g_puti Z 4 2 rfl (by decide) tyX4 tyX4_ok nmX4 rfl in4 lk25 dX4_takeSet_12 rfl rfl (by assumption) (by assumption) ?_
  refine g_aload_n Z dX4_takeSet_15 rfl ?_
  refine g_aload_n Z dX4_takeSet_16 rfl ?_
  refine g_geti Z 0 1 rfl (by decide) in0 lk28 dX4_takeSet_17 (by exact hbL) (by exact hbK) ?_
  rw [show PS.fi (PS.setI (PS.setI (PS.setI S rd 0 0) rd 1 0) rd 2 0) br 1 = nI u from ((up2_ne _ _ (Or.inl hbr)).trans ((up2_ne _ _ (Or.inl hbr)).trans (up2_ne _ _ (Or.inl hbr)))).trans hbu]
  refine g_puti Z 4 3 rfl (by decide) tyX4 tyX4_ok nmX4 rfl in4 lk33 dX4_takeSet_20 rfl rfl (by assumption) (by assumption) ?_
  refine g_aload_n Z dX4_takeSet_23 rfl ?_
  refine g_iconst (v := 0) Z dX4_takeSet_24 (by decide) ?_
  refine g_puti Z 4 4 rfl (by decide) tyX4 tyX4_ok nmX4 rfl in4 lk36 dX4_takeSet_25 rfl rfl (by assumption) (by assumption) ?_
  refine g_aload_n Z dX4_takeSet_28 rfl ?_
  refine g_iconst (v := 0) Z dX4_takeSet_29 (by decide) ?_
  refine g_puti Z 4 5 rfl (by decide) tyX4 tyX4_ok nmX4 rfl in4 lk39 dX4_takeSet_30 (by rfl) (by rfl) (by assumption) (by assumption) ?_
  refine g_aload_n Z dX4_takeSet_33 rfl ?_
  refine g_iconst (v := 0) Z dX4_takeSet_34 (by decide) ?_
  refine g_puti Z 4 6 rfl (by decide) tyX4 tyX4_ok nmX4 rfl in4 lk43 dX4_takeSet_35 rfl rfl (by assumption) (by assumption) ?_
  refine g_aload_n Z dX4_takeSet_38 rfl ?_
  refine g_iconst (v := (-1)) Z dX4_takeSet_39 (by decide) ?_
  refine g_puti Z 4 7 rfl (by decide) tyX4 tyX4_ok nmX4 rfl in4 lk46 dX4_takeSet_40 rfl rfl (by assumption) (by assumption) ?_
  refine g_aload_n Z dX4_takeSet_43 rfl ?_
  refine g_iconst (v := 0) Z dX4_takeSet_44 (by decide) ?_
  refine g_puti Z 2 1 rfl (by decide) tyX2 tyX2_ok nmX2 rfl in2 lk49 dX4_takeSet_45 rfl rfl (by exact hsL) (by exact hsK) ?_
  refine g_st (S2 := ts9 S rd s u) rfl ?_
  have hn1 : F.nw ∉ (ts9 S rd s u).L := hnS
  generalize ts9 S rd s u = S1 at hI1 hf1 hn1 ⊢
  rw [← hf1] at w0 w2 w3 w5 w6 w7
  have hrL1 := hI1.2.2.2.1.1
  have hrK1 := hI1.2.2.2.1.2.1
  refine g_aload_n Z dX4_takeSet_48 rfl ?_
  refine g_aload_n Z dX4_takeSet_49 rfl ?_
  refine g_cvI Z (f_X4_takeMark F.l F.D F.cy F.nw S1 rd u hrL1 hrK1 w3 hu6 br h n u B hI1.2.2.2.2 (Nat.le_refl u) w2 w5 w6) 1 gX4_takeSet_X4_takeMark rfl (by decide +kernel) (by rw [hRf, hRl]; decide) (by assumption) (κ := 4) (by assumption) rfl (by decide) rfl rfl (Nat.le_of_ble_eq_true rfl) dX4_takeSet_50 (by rw [hRc, hRs]; omega) (fun r T2 hp => ?_)
  have hq := hp
  refine g_if_eq Z 71 dX4_takeSet_53 (by decide) (fun h53 => ?_) (fun h53 => ?_)
  · obtain ⟨f, g, v, hmk, rfl, hv0, hv1⟩ := hq.no h53
    have hI2 := hI1.step (U2 := E8 S1 rd v) ho kp_E8 hI1.2.2.2.1 hn1
    refine g_iconst (v := 0) Z dX4_takeSet_71 (by decide) ?_
    exact g_zret Z dX4_takeSet_72 (by rfl) (by omega) (by omega) (by first | exact hI4.bad (rdSe_3 hmk hhs hpc) ((up2_ne _ _ (Or.inr (by decide))).trans (up2_self _ _ _ _)) (up2_self _ _ _ _) | exact hI3.bad (rdSe_2 hmk hhs) ((congrFun (H9_fi _ _ _ _ _ _ _) 0).trans hv0) ((congrFun (H9_fi _ _ _ _ _ _ _) 1).trans hv1) | exact hI2.bad (rdSe_1 hmk) ((congrFun (E8_fi _ _ _) 0).trans hv0) ((congrFun (E8_fi _ _ _) 1).trans hv1))
  · obtain ⟨k, pl, rb, p, v, hmk, rfl, y0, y2, y3, y4, y5, y6, y7⟩ := hq.yes h53
    obtain ⟨hk6, hpl, hrb, hpu⟩ := rdMk_ok hB8 hmk
    have hI2 := hI1.step (U2 := E8 S1 rd v) ho kp_E8 hI1.2.2.2.1 hn1
    have hn2 : F.nw ∉ (E8 S1 rd v).L := hn1
    have hf2 : PS.fi (E8 S1 rd v) rd = v := E8_fi _ _ _
    rw [w0] at y0
    rw [w3] at y3
    rw [w7] at y7
    rw [← hf2] at y0 y2 y3 y4 y5 y6 y7
    generalize E8 S1 rd v = S2 at hI2 hn2 hf2 y0 y2 y3 y4 y5 y6 y7 ⊢
    have hrL2 := hI2.2.2.2.1.1
    have hrK2 := hI2.2.2.2.1.2.1
    refine g_aload_n Z dX4_takeSet_56 rfl ?_
    refine g_aload_n Z dX4_takeSet_57 rfl ?_
    refine g_cvI Z (f_X4_takeHeads F.l F.D F.cy F.nw S2 rd rk rt u hI2.2.2.2.1 y3 hu6 br h n u B hI2.2.2.2.2 (Nat.le_refl u) hhk hht p y2 hpu k hk6 y4) 1 gX4_takeSet_X4_takeHeads rfl (by decide +kernel) (by rw [hRf, hRl]; decide) (by assumption) (κ := 4) (by assumption) rfl (by decide) rfl rfl (Nat.le_of_ble_eq_true rfl) dX4_takeSet_58 (by rw [hRc, hRs]; omega) (fun r3 T3 hq2 => ?_)
    have hq3 := hq2
    refine g_if_eq Z 71 dX4_takeSet_61 (by decide) (fun h61 => ?_) (fun h61 => ?_)
    · obtain ⟨f, g, v3, K, Y, hhs, rfl, hv0, hv1⟩ := hq3.no h61
      have hI3 := hI2.step (U2 := H9 S2 rd rk rt v3 K Y) ho kp_H9 hI2.2.2.2.1 hn2
      refine g_iconst (v := 0) Z dX4_takeSet_71 (by decide) ?_
      exact g_zret Z dX4_takeSet_72 (by rfl) (by omega) (by omega) (by first | exact hI4.bad (rdSe_3 hmk hhs hpc) ((up2_ne _ _ (Or.inr (by decide))).trans (up2_self _ _ _ _)) (up2_self _ _ _ _) | exact hI3.bad (rdSe_2 hmk hhs) ((congrFun (H9_fi _ _ _ _ _ _ _) 0).trans hv0) ((congrFun (H9_fi _ _ _ _ _ _ _) 1).trans hv1) | exact hI2.bad (rdSe_1 hmk) ((congrFun (E8_fi _ _ _) 0).trans hv0) ((congrFun (E8_fi _ _ _) 1).trans hv1))
    · obtain ⟨hhs, K, Y, rfl, hKY⟩ := hq3.yes h61
      have hp4 : p + 4 * k ≤ u := by have := rdHs_le k 0 (by omega) hhs; omega
      have hI3 := hI2.step (U2 := H9 S2 rd rk rt (va_up (S2.fi rd) 2 (nI (p + 4 * k))) K Y) ho kp_H9 hI2.2.2.2.1 hn2
      have hn3 : F.nw ∉ (H9 S2 rd rk rt (va_up (S2.fi rd) 2 (nI (p + 4 * k))) K Y).L := hn2
      have x2 : PS.fi (H9 S2 rd rk rt (va_up (S2.fi rd) 2 (nI (p + 4 * k))) K Y) rd 2 = nI (p + 4 * k) := H9_2
      have xo : ∀ i, i ≠ 2 → PS.fi (H9 S2 rd rk rt (va_up (S2.fi rd) 2 (nI (p + 4 * k))) K Y) rd i = S2.fi rd i := fun i hi => H9_o hi
      have xk : PS.ri (H9 S2 rd rk rt (va_up (S2.fi rd) 2 (nI (p + 4 * k))) K Y) rk = K := H9_rk hkt
      have xt : PS.ri (H9 S2 rd rk rt (va_up (S2.fi rd) 2 (nI (p + 4 * k))) K Y) rt = Y := H9_rt
      generalize H9 S2 rd rk rt (va_up (S2.fi rd) 2 (nI (p + 4 * k))) K Y = S3 at hI3 hn3 x2 xo xk xt ⊢
      have x0 := (xo 0 (by decide)).trans y0
      have x3 := (xo 3 (by decide)).trans y3
      have x4 := (xo 4 (by decide)).trans y4
      have x5 := (xo 5 (by decide)).trans y5
      have x6 := (xo 6 (by decide)).trans y6
      have x7 := (xo 7 (by decide)).trans y7
      have hrL3 := hI3.2.2.2.1.1
      have hrK3 := hI3.2.2.2.1.2.1
      refine g_aload_n Z dX4_takeSet_64 rfl ?_
      refine g_cvI Z (f_X4_takePlaces F.l F.D F.cy F.nw S3 rd u hrL3 hrK3 x3 hu6 (p + 4 * k) x2 hp4 k hk6 x4 pl hpl x5) 0 gX4_takeSet_X4_takePlaces rfl (by decide +kernel) (by rw [hRf, hRl]; decide) (by assumption) (κ := 4) (by assumption) rfl (by decide) rfl rfl (Nat.le_of_ble_eq_true rfl) dX4_takeSet_65 (by rw [hRc, hRs]; omega) (fun r4 T4 hq4 => ?_)
      have hq5 := hq4
      refine g_if_ne Z 73 dX4_takeSet_68 (by decide) (fun h68 => ?_) (fun h68 => ?_)
      · obtain ⟨q, pf, v4, hpc, rfl, z0, z2, z3, z4, z6, hqu, z7⟩ := hq5.yes hp4 x2 x7 h68
        have hI4 := hI3.step (U2 := E8 S3 rd v4) ho kp_E8 hI3.2.2.2.1 hn3
        have hN4 : TsN (E8 S3 rd v4) rd u q k rb pf := by
          unfold TsN
          rw [E8_fi]
          exact ⟨z0.trans x0, z2, z3.trans x3, z4.trans x4, z6.trans x6, z7⟩
        refine g_iconst (v := 0) Z dX4_takeSet_73 (by decide) ?_
        refine g_istore_n Z dX4_takeSet_74 (by decide) ?_
        have hl := loop 9 q k p rb pf (E8 S3 rd v4) O eS (by show 8 - 0 < 9; omega) ⟨hI4, hN4, hqu, hk6, Nat.zero_le _, hrb, hp4, fun j hj => ⟨(congrFun xk j).trans (hKY j hj).1, (congrFun xt j).trans (hKY j hj).2⟩, (rdSe_4 hmk hhs hpc).symm⟩
        exact g_lv (by (repeat (first | exact trivial | refine And.intro rfl ?_)); done) hl
      · obtain ⟨f, g, hpc, rfl⟩ := hq5.no h68
        have hI4 := hI3.step (U2 := (S3.setI rd 0 (nI f)).setI rd 1 (nI g)) ho (kp2 S3 rd rk rt _ _) hI3.2.2.2.1 hn3
        refine g_iconst (v := 0) Z dX4_takeSet_71 (by decide) ?_
        exact g_zret Z dX4_takeSet_72 (by rfl) (by omega) (by omega) (by first | exact hI4.bad (rdSe_3 hmk hhs hpc) ((up2_ne _ _ (Or.inr (by decide))).trans (up2_self _ _ _ _)) (up2_self _ _ _ _) | exact hI3.bad (rdSe_2 hmk hhs) ((congrFun (H9_fi _ _ _ _ _ _ _) 0).trans hv0) ((congrFun (H9_fi _ _ _ _ _ _ _) 1).trans hv1) | exact hI2.bad (rdSe_1 hmk) ((congrFun (E8_fi _ _ _) 0).trans hv0) ((congrFun (E8_fi _ _ _) 1).trans hv1))
