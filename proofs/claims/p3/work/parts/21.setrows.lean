theorem rowR_step (S : PS) (w i : Nat) (f : Nat → Option Nat) (v : Option Nat) : (S.rowR w f).rowR w (va_up ((S.rowR w f).rr w) i v) = S.rowR w (va_up f i v) := by
  show (_, _, _, _, _, _, _, va_up (va_up S.rr w f) w (va_up (va_up S.rr w f w) i v)) = (_, _, _, _, _, _, _, va_up S.rr w (va_up f i v))
  rw [bx_uu, va_up_self]
theorem rowR_self (S : PS) (w : Nat) : S.rowR w (S.rr w) = S := by
  show (S.L, S.K, S.fi, S.fr, S.ln, S.ri, S.rj, va_up S.rr w (S.rr w)) = S
  rw [va_up_get]
/-- rows move up by one behind k, up to u -/
def shf (f : Nat → Option Nat) (k u : Nat) : Nat → Option Nat := fun i => if k < i ∧ i ≤ u then f (i - 1) else f i
theorem shf_0 (f : Nat → Option Nat) (u : Nat) : shf f u u = f := by
  funext i; unfold shf; rw [if_neg (by omega)]
theorem shf_s (f : Nat → Option Nat) {k u : Nat} (h0 : 0 < k) (hk : k ≤ u) : va_up (shf f k u) k (f (k - 1)) = shf f (k - 1) u := by
  funext i
  unfold va_up shf
  by_cases h : i = k
  · subst h; rw [if_pos rfl, if_pos (by omega)]
  · rw [if_neg h]
    by_cases h2 : k < i ∧ i ≤ u
    · rw [if_pos h2, if_pos (by omega)]
    · rw [if_neg h2, if_neg (by omega)]
theorem shf_lo (f : Nat → Option Nat) {k u i : Nat} (h : i ≤ k) : shf f k u i = f i := by unfold shf; rw [if_neg (by omega)]
/-- rows move down by one from j on, up to k -/
def shd (f : Nat → Option Nat) (j k : Nat) : Nat → Option Nat := fun i => if j ≤ i ∧ i < k then f (i + 1) else f i
theorem shd_0 (f : Nat → Option Nat) (j : Nat) : shd f j j = f := by
  funext i; unfold shd; rw [if_neg (by omega)]
theorem shd_s (f : Nat → Option Nat) {j k : Nat} (hk : j ≤ k) : va_up (shd f j k) k (f (k + 1)) = shd f j (k + 1) := by
  funext i
  unfold va_up shd
  by_cases h : i = k
  · subst h; rw [if_pos rfl, if_pos (by omega)]
  · rw [if_neg h]
    by_cases h2 : j ≤ i ∧ i < k
    · rw [if_pos h2, if_pos (by omega)]
    · rw [if_neg h2, if_neg (by omega)]
theorem shd_hi (f : Nat → Option Nat) {j k i : Nat} (h : k ≤ i) : shd f j k i = f i := by unfold shd; rw [if_neg (by omega)]
/-- a row of containers of one set is laid anew, and its used: what the sets are behind it -/
theorem row_post {nw s it u v : Nat} {S T : PS} {g : Nat → Option Nat} (hs : SetAt S nw s it u) (hv : v ≤ 7) (hE : Ex nw ((S.rowR it g).setI s 1 (nI v)) T)
    (hg : ∀ i, i < 7 → ∃ d, g i = some d ∧ Cw S nw d) (hr : ∀ i, i < v → ∃ d, g i = some d ∧ Cr T d) (ho : ∀ u' : Nat, (∀ i, i < u' → ∃ d, S.rr it i = some d ∧ Cr S d) → ∀ i, i < u' → ∃ d, g i = some d ∧ Cr T d) : Es nw S T := by
  have cw2 : ∀ c, Cw S nw c → Cw ((S.rowR it g).setI s 1 (nI v)) nw c := fun c => cw_same (S := S) rfl rfl rfl (fun _ => ⟨rfl, up2_ne _ _ (Or.inr (by decide))⟩)
  have cr2 : ∀ c, Cr S c → Cr ((S.rowR it g).setI s 1 (nI v)) c := fun c => cr_same (S := S) rfl rfl rfl (fun _ => ⟨rfl, up2_ne _ _ (Or.inr (by decide))⟩)
  refine ⟨fun a ha => ?_, fun c h => hE.2.1 c (cw2 c h), fun c h => hE.2.2 c (cr2 c h), fun s' ⟨it', u', hs'⟩ => ?_⟩
  · obtain ⟨a1, a2, a3, a4, a5⟩ := hE.1 a ha
    refine ⟨a1, a2, a3, fun p q => ⟨(a4 p).1.trans (va_up_ne _ _ (fun e => q (by rw [e]; exact hs.2.1))), (a4 p).2⟩, fun p => (a5 p).1, fun p q => (a5 p).2.trans (va_up_ne _ _ (fun e => q (by rw [e]; exact hs.2.2.2.2.1)))⟩
  · obtain ⟨g1, g2, g3, g4, g5, g6, g7, g8, g9, g10⟩ := hs'
    obtain ⟨a1, a2, -, a4, -⟩ := hE.1 s' g1
    obtain ⟨b1, b2, b3, -, b5⟩ := hE.1 it' g4
    obtain ⟨a5, a6⟩ := a4 (show S.K s' ≠ 1 by rw [g2]; decide)
    obtain ⟨-, b6⟩ := b5 (show S.K it' ≠ 9 by rw [g5]; decide)
    by_cases e : s' = s
    · subst e
      have hit : it' = it := by have := hs.2.2.1; rw [g3] at this; exact Option.some.inj this
      subst hit
      refine ⟨it', v, a1, a2.trans g2, by rw [a6]; exact g3, b1, b2.trans g5, b3.trans g6, by rw [a5]; exact up2_self _ _ _ _, hv, fun i hi => ?_, fun i hi => ?_⟩
      · obtain ⟨d, d1, d2⟩ := hg i hi
        exact ⟨d, by rw [b6]; show va_up S.rr it' g it' i = _; rw [va_up_self]; exact d1, hE.2.1 d (cw2 d d2)⟩
      · obtain ⟨d, d1, d2⟩ := hr i hi
        exact ⟨d, by rw [b6]; show va_up S.rr it' g it' i = _; rw [va_up_self]; exact d1, d2⟩
    · refine ⟨it', u', a1, a2.trans g2, by rw [a6]; exact g3, b1, b2.trans g5, b3.trans g6, by rw [a5]; exact (up2_ne _ _ (Or.inl e)).trans g7, g8, ?_, ?_⟩
      · intro i hi
        by_cases e2 : it' = it
        · subst e2
          obtain ⟨d, d1, d2⟩ := hg i hi
          exact ⟨d, by rw [b6]; show va_up S.rr it' g it' i = _; rw [va_up_self]; exact d1, hE.2.1 d (cw2 d d2)⟩
        · obtain ⟨d, d1, d2⟩ := g9 i hi
          exact ⟨d, by rw [b6]; show va_up S.rr it g it' i = _; rw [va_up_ne _ _ e2]; exact d1, hE.2.1 d (cw2 d d2)⟩
      · intro i hi
        by_cases e2 : it' = it
        · subst e2
          obtain ⟨d, d1, d2⟩ := ho u' g10 i hi
          exact ⟨d, by rw [b6]; show va_up S.rr it' g it' i = _; rw [va_up_self]; exact d1, d2⟩
        · obtain ⟨d, d1, d2⟩ := g10 i hi
          exact ⟨d, by rw [b6]; show va_up S.rr it g it' i = _; rw [va_up_ne _ _ e2]; exact d1, hE.2.2 d (cr2 d d2)⟩
theorem fom_post {nw s it u j c : Nat} {S T : PS} (hs : SetAt S nw s it u) (hu : u < 7) (hj : j ≤ u) (hc : S.rr it u = some c) (hE : Ex nw ((S.rowR it (va_up (shf (S.rr it) j u) j (some c))).setI s 1 (nI (u + 1))) T) (hcr : Cr T c) : Es nw S T := by
  have hval : ∀ i, va_up (shf (S.rr it) j u) j (some c) i = some c ∨ (va_up (shf (S.rr it) j u) j (some c) i = S.rr it i ∧ (i < j ∨ u < i)) ∨ (va_up (shf (S.rr it) j u) j (some c) i = S.rr it (i - 1) ∧ j < i ∧ i ≤ u) := by
    intro i
    unfold va_up shf
    by_cases h : i = j
    · rw [if_pos h]; exact Or.inl rfl
    · rw [if_neg h]
      by_cases h2 : j < i ∧ i ≤ u
      · rw [if_pos h2]; exact Or.inr (Or.inr ⟨rfl, h2⟩)
      · rw [if_neg h2]; exact Or.inr (Or.inl ⟨rfl, by omega⟩)
  have crT : ∀ d, Cr S d → Cr T d := fun d h => hE.2.2 d (cr_same (S := S) rfl rfl rfl (fun _ => ⟨rfl, up2_ne _ _ (Or.inr (by decide))⟩) h)
  refine row_post hs (by omega) hE (fun i hi => ?_) (fun i hi => ?_) (fun u' hu' i hi => ?_)
  · rcases hval i with e | ⟨e, -⟩ | ⟨e, h1, h2⟩
    · obtain ⟨d, d1, d2⟩ := hs.cw hu
      rw [hc] at d1; cases d1
      exact ⟨c, e, d2⟩
    · obtain ⟨d, d1, d2⟩ := hs.cw hi; exact ⟨d, by rw [e]; exact d1, d2⟩
    · obtain ⟨d, d1, d2⟩ := hs.cw (i := i - 1) (by omega); exact ⟨d, by rw [e]; exact d1, d2⟩
  · rcases hval i with e | ⟨e, h1⟩ | ⟨e, h1, h2⟩
    · exact ⟨c, e, hcr⟩
    · obtain ⟨d, d1, d2⟩ := hs.cr (i := i) (by omega); exact ⟨d, by rw [e]; exact d1, crT d d2⟩
    · obtain ⟨d, d1, d2⟩ := hs.cr (i := i - 1) (by omega); exact ⟨d, by rw [e]; exact d1, crT d d2⟩
  · rcases hval i with e | ⟨e, h1⟩ | ⟨e, h1, h2⟩
    · exact ⟨c, e, hcr⟩
    · obtain ⟨d, d1, d2⟩ := hu' i hi; exact ⟨d, by rw [e]; exact d1, crT d d2⟩
    · obtain ⟨d, d1, d2⟩ := hu' (i - 1) (by omega); exact ⟨d, by rw [e]; exact d1, crT d d2⟩
theorem lo_post {nw s it u j : Nat} {S : PS} (hs : SetAt S nw s it u) (hj : j < u) : Es nw S ((S.rowR it (va_up (shd (S.rr it) j (u - 1)) (u - 1) (S.rr it j))).setI s 1 (nI (u - 1))) := by
  have hu7 : u ≤ 7 := hs.2.2.2.2.2.2.2.1
  have hval : ∀ i, (i < u ∧ ∃ i', i' < u ∧ va_up (shd (S.rr it) j (u - 1)) (u - 1) (S.rr it j) i = S.rr it i') ∨ (u ≤ i ∧ va_up (shd (S.rr it) j (u - 1)) (u - 1) (S.rr it j) i = S.rr it i) := by
    intro i
    unfold va_up shd
    by_cases h : i = u - 1
    · rw [if_pos h]; exact Or.inl ⟨by omega, j, hj, rfl⟩
    · rw [if_neg h]
      by_cases h2 : j ≤ i ∧ i < u - 1
      · rw [if_pos h2]; exact Or.inl ⟨by omega, i + 1, by omega, rfl⟩
      · rw [if_neg h2]
        by_cases h3 : i < u
        · exact Or.inl ⟨h3, i, h3, rfl⟩
        · exact Or.inr ⟨by omega, rfl⟩
  have crT : ∀ d, Cr S d → Cr ((S.rowR it (va_up (shd (S.rr it) j (u - 1)) (u - 1) (S.rr it j))).setI s 1 (nI (u - 1))) d := fun d h => cr_same (S := S) rfl rfl rfl (fun _ => ⟨rfl, up2_ne _ _ (Or.inr (by decide))⟩) h
  refine row_post hs (by omega) Ex.rf (fun i hi => ?_) (fun i hi => ?_) (fun u' hu' i hi => ?_)
  · rcases hval i with ⟨h1, i', h2, e⟩ | ⟨h1, e⟩
    · obtain ⟨d, d1, d2⟩ := hs.cw (i := i') (by omega); exact ⟨d, by rw [e]; exact d1, d2⟩
    · obtain ⟨d, d1, d2⟩ := hs.cw hi; exact ⟨d, by rw [e]; exact d1, d2⟩
  · rcases hval i with ⟨h1, i', h2, e⟩ | ⟨h1, e⟩
    · obtain ⟨d, d1, d2⟩ := hs.cr h2; exact ⟨d, by rw [e]; exact d1, crT d d2⟩
    · omega
  · rcases hval i with ⟨h1, i', h2, e⟩ | ⟨h1, e⟩
    · obtain ⟨d, d1, d2⟩ := hs.cr h2; exact ⟨d, by rw [e]; exact d1, crT d d2⟩
    · obtain ⟨d, d1, d2⟩ := hu' i hi; exact ⟨d, by rw [e]; exact d1, crT d d2⟩
theorem swap_IR (S : PS) (s it i : Nat) (v : Int32) (g : Nat → Option Nat) : (S.setI s i v).rowR it g = (S.rowR it g).setI s i v := rfl
/-- two sets change what they hold -/
theorem xch_post {nw a b ia ib ua ub : Nat} {S : PS} (ha : SetAt S nw a ia ua) (hb : SetAt S nw b ib ub) : Es nw S ((((S.setR b 0 (some ia)).setI b 1 (nI ua)).setR a 0 (some ib)).setI a 1 (nI ub)) := by
  have hcw : ∀ c, Cw S nw c → Cw ((((S.setR b 0 (some ia)).setI b 1 (nI ua)).setR a 0 (some ib)).setI a 1 (nI ub)) nw c := fun c => cw_same (S := S) rfl rfl rfl (fun h => ⟨(up2_ne _ _ (Or.inr (by decide))).trans (up2_ne _ _ (Or.inr (by decide))), (up2_ne _ _ (Or.inr (by decide))).trans (up2_ne _ _ (Or.inr (by decide)))⟩)
  have hcr : ∀ c, Cr S c → Cr ((((S.setR b 0 (some ia)).setI b 1 (nI ua)).setR a 0 (some ib)).setI a 1 (nI ub)) c := fun c => cr_same (S := S) rfl rfl rfl (fun h => ⟨(up2_ne _ _ (Or.inr (by decide))).trans (up2_ne _ _ (Or.inr (by decide))), (up2_ne _ _ (Or.inr (by decide))).trans (up2_ne _ _ (Or.inr (by decide)))⟩)
  have nea : ∀ x, S.K x ≠ 2 → x ≠ a := fun x h e => h (by rw [e]; exact ha.2.1)
  have neb : ∀ x, S.K x ≠ 2 → x ≠ b := fun x h e => h (by rw [e]; exact hb.2.1)
  refine Es.step rfl rfl rfl (fun x hx => ⟨(va_up_ne _ _ (nea x hx)).trans (va_up_ne _ _ (neb x hx)), (va_up_ne _ _ (nea x hx)).trans (va_up_ne _ _ (neb x hx))⟩) rfl (fun _ _ => rfl) (fun s' ⟨it', u', hs'⟩ => ?_)
  have rows : ∀ (t : Nat) (q v : Nat), SetAt S nw t q v → ∀ s', s' ∈ S.L → S.K s' = 2 → ((((S.setR b 0 (some ia)).setI b 1 (nI ua)).setR a 0 (some ib)).setI a 1 (nI ub)).fr s' 0 = some q → ((((S.setR b 0 (some ia)).setI b 1 (nI ua)).setR a 0 (some ib)).setI a 1 (nI ub)).fi s' 1 = nI v → SetOK ((((S.setR b 0 (some ia)).setI b 1 (nI ua)).setR a 0 (some ib)).setI a 1 (nI ub)) nw s' := by
    intro t q v ht s' h1 h2 h3 h4
    obtain ⟨-, -, -, g4, g5, g6, -, g8, g9, g10⟩ := ht
    refine ⟨q, v, h1, h2, h3, g4, g5, g6, h4, g8, fun i hi => ?_, fun i hi => ?_⟩
    · obtain ⟨d, d1, d2⟩ := g9 i hi; exact ⟨d, d1, hcw d d2⟩
    · obtain ⟨d, d1, d2⟩ := g10 i hi; exact ⟨d, d1, hcr d d2⟩
  by_cases e : s' = a
  · subst e
    exact rows b ib ub hb s' hs'.1 hs'.2.1 (up2_self _ _ _ _) (up2_self _ _ _ _)
  · by_cases e2 : s' = b
    · subst e2
      exact rows a ia ua ha s' hs'.1 hs'.2.1 ((up2_ne _ _ (Or.inl e)).trans (up2_self _ _ _ _)) ((up2_ne _ _ (Or.inl e)).trans (up2_self _ _ _ _))
    · exact rows s' it' u' hs' s' hs'.1 hs'.2.1 (((up2_ne _ _ (Or.inl e)).trans (up2_ne _ _ (Or.inl e2))).trans hs'.2.2.1) (((up2_ne _ _ (Or.inl e)).trans (up2_ne _ _ (Or.inl e2))).trans hs'.2.2.2.2.2.2.1)
