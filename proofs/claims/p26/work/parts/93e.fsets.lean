/-- the static's array is none of the pool's cells -/
theorem g_nw {F : Fx} {cc : ByteArray} {nL : Nat} {own : String} {Ts : List Cond} {ret : Option FieldType} {S : PS} {kc ks : Nat} {Q : State → Prop} {pc : Nat} {lv : List (Nat × Value)} {st : List Value} (Z : Cx F cc nL own Ts ret) (k : F.nw ∉ S.L → G F nL S kc ks Q pc lv st) : G F nL S kc ks Q pc lv st := by
  intro H locs ls hP hD hS hl
  refine k (fun h => ?_) H locs ls hP hD hS hl
  obtain ⟨i, hi⟩ := ww_at F.cy S h
  exact Z.2.2.2.2.2.2.2.2.2.1.2.2.1 (hD.2 i _ hi)
/-! SETS AS VALUES: how many containers; of each its key, its kind, its words -/
abbrev Cn : Type := Nat × Int32 × (Nat → Int64)
abbrev Sv : Type := Nat × (Nat → Cn)
def Sv.put (V : Sv) (i : Nat) (a : Cn) : Sv := (V.1, fun k => if k = i then a else V.2 k)
def Sv.ins (V : Sv) (i : Nat) (a : Cn) : Sv := (V.1 + 1, fun k => if k < i then V.2 k else if k = i then a else V.2 (k - 1))
def Sv.del (V : Sv) (i : Nat) : Sv := (V.1 - 1, fun k => if k < i then V.2 k else V.2 (k + 1))
def Sv.psh (V : Sv) (a : Cn) : Sv := (V.1 + 1, fun k => if k = V.1 then a else V.2 k)
/-- where a key is, or would come in -/
def IsIx (V : Sv) (key i : Nat) : Prop := i ≤ V.1 ∧ (∀ j, j < i → (V.2 j).1 < key) ∧ (i < V.1 → key ≤ (V.2 i).1)
def Srt (V : Sv) : Prop := ∀ i j, i < j → j < V.1 → (V.2 i).1 < (V.2 j).1
/-- a set that a call leaves -/
def Vok (V : Sv) : Prop := V.1 ≤ 6 ∧ Srt V ∧ ∀ i, i < V.1 → (V.2 i).1 < 65536 ∧ 0 < tot (V.2 i).2.2 ∧ ((V.2 i).2.1 = 0 ∨ (V.2 i).2.1 = 1 ∨ (V.2 i).2.1 = 2)
theorem IsIx.uniq {V : Sv} (hs : Srt V) {key i k : Nat} (h : IsIx V key i) (hk : k < V.1) (e : (V.2 k).1 = key) : i = k := by
  rcases Nat.lt_trichotomy i k with h1 | h1 | h1
  · have a := hs i k h1 hk
    have b := h.2.2 (by omega)
    omega
  · exact h1
  · have := h.2.1 k h1
    omega
theorem IsIx.det {V : Sv} (hs : Srt V) {key i k : Nat} (h : IsIx V key i) (g : IsIx V key k) : i = k := by
  rcases Nat.lt_trichotomy i k with h1 | h1 | h1
  · have a := g.2.1 i h1
    have b := h.2.2 (by have := g.1; omega)
    omega
  · exact h1
  · have a := h.2.1 k h1
    have b := g.2.2 (by have := h.1; omega)
    omega
/-- a container that holds a value -/
def Cv (S : PS) (c : Nat) (a : Cn) : Prop := ∃ w, Cq S c w ∧ S.fi c 0 = nI a.1 ∧ a.1 < 65536 ∧ S.fi c 1 = a.2.1 ∧ S.fi c 2 = nI (tot a.2.2) ∧ ∀ j, j < 1024 → S.rj w j = a.2.2 j
theorem Cv.cr {S : PS} {c : Nat} {a : Cn} (h : Cv S c a) : Cr S c := by
  obtain ⟨w, ⟨h1, h2, h3, h4, h5, h6⟩, h7, h8, -⟩ := h
  exact ⟨h1, h2, ⟨_, h8, h7⟩, w, h3, h4, h5, h6⟩
/-- seven containers of an owner's, apart from each other -/
def Bn (S : PS) (nw : Nat) (O : Nat → Nat) (b it : Nat) (C : Nat → Nat) : Prop :=
  it ∈ S.L ∧ S.K it = 10 ∧ S.ln it = 7 ∧ O it = b ∧ (∀ i, i < 7 → S.rr it i = some (C i) ∧ Cw S nw (C i) ∧ O (C i) = b ∧ ∀ w, S.fr (C i) 3 = some w → w ∈ S.L → O w = b) ∧ (∀ i j, i < 7 → j < 7 → C i = C j → i = j) ∧ ∀ i j w, i < 7 → j < 7 → w ∈ S.L → S.fr (C i) 3 = some w → S.fr (C j) 3 = some w → i = j
def SV (S : PS) (nw : Nat) (O : Nat → Nat) (b s it : Nat) (C : Nat → Nat) (V : Sv) : Prop :=
  s ∈ S.L ∧ S.K s = 2 ∧ S.fr s 0 = some it ∧ S.fi s 1 = nI V.1 ∧ V.1 ≤ 7 ∧ Bn S nw O b it C ∧ ∀ i, i < V.1 → Cv S (C i) (V.2 i)
theorem SV.at {S : PS} {nw : Nat} {O : Nat → Nat} {b s it : Nat} {C : Nat → Nat} {V : Sv} (h : SV S nw O b s it C V) : SetAt S nw s it V.1 := by
  obtain ⟨h1, h2, h3, h4, h5, ⟨g1, g2, g3, g4, g5, g6, g7⟩, h7⟩ := h
  exact ⟨h1, h2, h3, g1, g2, g3, h4, h5, fun i hi => ⟨C i, (g5 i hi).1, (g5 i hi).2.1⟩, fun i hi => ⟨C i, (g5 i (by omega)).1, (h7 i hi).cr⟩⟩
/-- only cells of a kind may have changed -/
def Kp (P : Nat → Prop) (S T : PS) : Prop := (∀ a ∈ S.L, a ∈ T.L) ∧ ∀ a ∈ S.L, ¬ P a → Ag S T a
theorem Kp.rf {P : Nat → Prop} {S : PS} : Kp P S S := ⟨fun _ h => h, fun _ _ _ => Ag.rf⟩
theorem Kp.tr {P : Nat → Prop} {S T U : PS} (h : Kp P S T) (k : Kp P T U) : Kp P S U := ⟨fun a ha => k.1 a (h.1 a ha), fun a ha hn => (h.2 a ha hn).tr (k.2 a (h.1 a ha) hn)⟩
theorem Kp.mono {P Q : Nat → Prop} {S T : PS} (h : Kp P S T) (hpq : ∀ a ∈ S.L, P a → Q a) : Kp Q S T := ⟨h.1, fun a ha hn => h.2 a ha (fun p => hn (hpq a ha p))⟩
theorem Cv.keep {S T : PS} {c : Nat} {a : Cn} (hL : ∀ a ∈ S.L, a ∈ T.L) (h1 : Ag S T c) (h2 : ∀ w, S.fr c 3 = some w → w ∈ S.L → Ag S T w) (h : Cv S c a) : Cv T c a := by
  obtain ⟨w, hq, k1, k2, k3, k4, k5⟩ := h
  have hw := h2 w hq.2.2.1 hq.2.2.2.1
  exact ⟨w, Ag.cq hL h1 ⟨hw.1, hw.2.2.2.1⟩ hq, by rw [h1.2.1]; exact k1, k2, by rw [h1.2.1]; exact k3, by rw [h1.2.1]; exact k4, fun j hj => by rw [hw.2.2.2.2.2.1]; exact k5 j hj⟩
theorem Cw.keep {S T : PS} {nw c : Nat} (hL : ∀ a ∈ S.L, a ∈ T.L) (h1 : Ag S T c) (h2 : ∀ w, S.fr c 3 = some w → w ∈ S.L → T.K w = S.K w ∧ T.ln w = S.ln w) (h : Cw S nw c) : Cw T nw c := by
  obtain ⟨k1, k2, ⟨k, k3, k4⟩, k5⟩ := h
  refine ⟨hL c k1, h1.1.trans k2, ⟨k, k3, by rw [h1.2.1]; exact k4⟩, ?_⟩
  rcases k5 with k5 | ⟨w, k5, k6, k7, k8⟩
  · exact Or.inl (by rw [h1.2.2.1]; exact k5)
  · obtain ⟨e1, e2⟩ := h2 w k5 k6
    exact Or.inr ⟨w, by rw [h1.2.2.1]; exact k5, hL w k6, e1.trans k7, e2.trans k8⟩
/-- a set whose cells have not changed -/
theorem SV.keep {S T : PS} {nw : Nat} {O O' : Nat → Nat} {b s it : Nat} {C : Nat → Nat} {V : Sv} (hL : ∀ a ∈ S.L, a ∈ T.L) (hO : ∀ a ∈ S.L, O' a = O a) (hs : Ag S T s) (hA : ∀ a ∈ S.L, O a = b → Ag S T a) (hN : nw ∉ T.L) (h : SV S nw O b s it C V) : SV T nw O' b s it C V := by
  obtain ⟨h1, h2, h3, h4, h5, ⟨g1, g2, g3, g4, g5, g6, g7⟩, h7⟩ := h
  have ai := hA it g1 g4
  have ac : ∀ i, i < 7 → Ag S T (C i) := fun i hi => hA _ (g5 i hi).2.1.1 (g5 i hi).2.2.1
  have aw : ∀ i, i < 7 → ∀ w, S.fr (C i) 3 = some w → w ∈ S.L → Ag S T w := fun i hi w hw hwL => hA w hwL ((g5 i hi).2.2.2 w hw hwL)
  have back : ∀ i, i < 7 → ∀ w, T.fr (C i) 3 = some w → w ∈ T.L → S.fr (C i) 3 = some w ∧ w ∈ S.L := by
    intro i hi w hw hwT
    rw [(ac i hi).2.2.1] at hw
    rcases (g5 i hi).2.1.2.2.2 with h | ⟨v, h, hv, -⟩
    · rw [hw] at h; cases h; exact absurd hwT hN
    · rw [hw] at h; cases h; exact ⟨hw, hv⟩
  refine ⟨hL s h1, hs.1.trans h2, by rw [hs.2.2.1]; exact h3, by rw [hs.2.1]; exact h4, h5, ⟨hL it g1, ai.1.trans g2, ai.2.2.2.1.trans g3, (hO it g1).trans g4, fun i hi => ?_, g6, fun i j w hi hj hwT hw1 hw2 => ?_⟩, fun i hi => Cv.keep hL (ac i (by omega)) (aw i (by omega)) (h7 i hi)⟩
  · obtain ⟨e1, e2, e3, e4⟩ := g5 i hi
    refine ⟨by rw [ai.2.2.2.2.2.2]; exact e1, Cw.keep hL (ac i hi) (fun w hw hwL => ⟨(aw i hi w hw hwL).1, (aw i hi w hw hwL).2.2.2.1⟩) e2, (hO _ e2.1).trans e3, fun w hw hwT => ?_⟩
    obtain ⟨p1, p2⟩ := back i hi w hw hwT
    exact (hO w p2).trans (e4 w p1 p2)
  · obtain ⟨p1, p2⟩ := back i hi w hw1 hwT
    obtain ⟨q1, -⟩ := back j hj w hw2 hwT
    exact g7 i j w hi hj p2 p1 q1
theorem SV.rr {S : PS} {nw : Nat} {O : Nat → Nat} {b s it : Nat} {C : Nat → Nat} {V : Sv} (h : SV S nw O b s it C V) {j : Nat} (hj : j < 7) : S.rr it j = some (C j) := (h.2.2.2.2.2.1.2.2.2.2.1 j hj).1
theorem SV.cv {S : PS} {nw : Nat} {O : Nat → Nat} {b s it : Nat} {C : Nat → Nat} {V : Sv} (h : SV S nw O b s it C V) {j : Nat} (hj : j < V.1) : Cv S (C j) (V.2 j) := h.2.2.2.2.2.2 j hj
theorem SV.cw {S : PS} {nw : Nat} {O : Nat → Nat} {b s it : Nat} {C : Nat → Nat} {V : Sv} (h : SV S nw O b s it C V) {j : Nat} (hj : j < 7) : Cw S nw (C j) := (h.2.2.2.2.2.1.2.2.2.2.1 j hj).2.1
theorem Cw.ww {S : PS} {nw c : Nat} (h : Cw S nw c) : S.fr c 3 = some nw ∨ ∃ w, Cq S c w := by
  obtain ⟨k1, k2, -, k5⟩ := h
  rcases k5 with k5 | ⟨w, k5, k6, k7, k8⟩
  · exact Or.inl k5
  · exact Or.inr ⟨w, k1, k2, k5, k6, k7, k8⟩
/-- a set's row and how many it has are laid anew -/
theorem RS.ag {S : PS} {it s : Nat} {g : Nat → Option Nat} {v : Int32} {a : Nat} (h1 : a ≠ it) (h2 : a ≠ s) : Ag S ((S.rowR it g).setI s 1 v) a := ⟨rfl, va_up_ne _ _ h2, rfl, rfl, rfl, rfl, va_up_ne _ _ h1⟩
theorem Bn.perm {S : PS} {nw : Nat} {O : Nat → Nat} {b s it : Nat} {C : Nat → Nat} {g : Nat → Option Nat} {v : Int32} (h : Bn S nw O b it C) (h2 : S.K s = 2) (p : Nat → Nat) (hp : ∀ i, i < 7 → p i < 7) (hpi : ∀ i j, i < 7 → j < 7 → p i = p j → i = j) (hg : ∀ i, i < 7 → g i = S.rr it (p i)) :
    Bn ((S.rowR it g).setI s 1 v) nw O b it (fun i => C (p i)) ∧ (∀ j, j < 7 → ∀ a, Cv S (C j) a → Cv ((S.rowR it g).setI s 1 v) (C j) a) ∧ Kp (fun a => O a = b ∨ a = s) S ((S.rowR it g).setI s 1 v) := by
  obtain ⟨g1, g2, g3, g4, g5, g6, g7⟩ := h
  have hL : ∀ a ∈ S.L, a ∈ ((S.rowR it g).setI s 1 v).L := fun a h => h
  have hcs : ∀ j, j < 7 → Ag S ((S.rowR it g).setI s 1 v) (C j) := fun j hj => RS.ag (fun e => by have := (g5 j hj).2.1.2.1; rw [e, g2] at this; exact absurd this (by decide)) (fun e => by have := (g5 j hj).2.1.2.1; rw [e, h2] at this; exact absurd this (by decide))
  refine ⟨⟨g1, g2, g3, g4, fun i hi => ?_, fun i j hi hj e => hpi i j hi hj (g6 _ _ (hp i hi) (hp j hj) e), fun i j w hi hj hw h1 h2 => hpi i j hi hj (g7 _ _ w (hp i hi) (hp j hj) hw h1 h2)⟩, fun j hj a ha => ?_, hL, fun a ha hn => RS.ag (fun e => hn (Or.inl (by rw [e]; exact g4))) (fun e => hn (Or.inr e))⟩
  · obtain ⟨e1, e2, e3, e4⟩ := g5 (p i) (hp i hi)
    refine ⟨?_, Cw.keep hL (hcs _ (hp i hi)) (fun w _ _ => ⟨rfl, rfl⟩) e2, e3, e4⟩
    show va_up S.rr it g it i = _
    rw [va_up_self, hg i hi]
    exact e1
  · refine Cv.keep hL (hcs j hj) (fun w hw hwL => ?_) ha
    obtain ⟨w', hq, -⟩ := ha
    have : w' = w := by have := hq.2.2.1; rw [hw] at this; cases this; rfl
    subst this
    have hk9 := hq.2.2.2.2.1
    exact RS.ag (fun e => by rw [e, g2] at hk9; exact absurd hk9 (by decide)) (fun e => by rw [e, h2] at hk9; exact absurd hk9 (by decide))
/-- one container of a set has been written -/
theorem Bn.chg {S S1 : PS} {nw : Nat} {O : Nat → Nat} {b s it : Nat} {C : Nat → Nat} {i w k : Nat} {d v : Int32} {R : Nat → Int64} (h : Bn S nw O b it C) (h1 : s ∈ S.L) (h2 : S.K s = 2) (hi : i < 7) (hrm : Rm nw S (C i) S1 w) (hk : k < 65536) (hnT : nw ∉ (CS S1 (C i) w (nI k) d v R).L) :
    (∀ a ∈ S.L, va_up O w b a = O a) ∧ Kp (fun a => O a = b) S (CS S1 (C i) w (nI k) d v R) ∧ Bn (CS S1 (C i) w (nI k) d v R) nw (va_up O w b) b it C ∧ Cq (CS S1 (C i) w (nI k) d v R) (C i) w ∧ (∀ j, j < 7 → j ≠ i → ∀ a, Cv S (C j) a → Cv (CS S1 (C i) w (nI k) d v R) (C j) a) ∧ (s ∈ (CS S1 (C i) w (nI k) d v R).L ∧ Ag S (CS S1 (C i) w (nI k) d v R) s) := by
  obtain ⟨g1, g2, g3, g4, g5, g6, g7⟩ := h
  obtain ⟨e1, e2, e3, e4⟩ := g5 i hi
  have hq1 : Cq S1 (C i) w := hrm.cq e2.1 e2.2.1
  have hold : w ∈ S.L → S.fr (C i) 3 = some w ∧ S.K w = 9 := by
    intro hw
    rcases id hrm with ⟨-, hq⟩ | ⟨-, hq, -⟩
    · exact ⟨hq.2.2.1, hq.2.2.2.2.1⟩
    · exact absurd hw hq
  have hOw : ∀ a ∈ S.L, va_up O w b a = O a := by
    intro a ha
    by_cases e : a = w
    · subst e
      rw [va_up_self]
      exact (e4 a (hold ha).1 ha).symm
    · exact va_up_ne _ _ e
  have hL : ∀ a ∈ S.L, a ∈ (CS S1 (C i) w (nI k) d v R).L := hrm.L
  have ag : ∀ a ∈ S.L, a ≠ C i → S.K a ≠ 9 → Ag S (CS S1 (C i) w (nI k) d v R) a := by
    intro a ha h1 h2
    exact (hrm.ag ha h1).tr (CS.ag h1 (fun e => by subst e; exact h2 (hold ha).2))
  have kln : ∀ a ∈ S.L, (CS S1 (C i) w (nI k) d v R).K a = S.K a ∧ (CS S1 (C i) w (nI k) d v R).ln a = S.ln a := by
    intro a ha
    by_cases e : a = C i
    · subst e
      rcases id hrm with ⟨rfl, -⟩ | ⟨-, hq, rfl⟩
      · exact ⟨rfl, rfl⟩
      · exact ⟨va_up_ne _ _ (ne_mem hq ha), va_up_ne _ _ (ne_mem hq ha)⟩
    · exact ⟨(hrm.ag ha e).1, (hrm.ag ha e).2.2.2.1⟩
  have hcw : ∀ j, j < 7 → j ≠ i → Ag S (CS S1 (C i) w (nI k) d v R) (C j) := fun j hj hne => ag _ (g5 j hj).2.1.1 (fun e => hne (g6 j i hj hi e)) (by rw [(g5 j hj).2.1.2.1]; decide)
  have agw : ∀ j, j < 7 → j ≠ i → ∀ u, S.fr (C j) 3 = some u → u ∈ S.L → Ag S (CS S1 (C i) w (nI k) d v R) u := by
    intro j hj hne u hu huL
    have huK : S.K u = 9 := by
      rcases (g5 j hj).2.1.2.2.2 with h | ⟨x, h, hx, hk9, -⟩
      · rw [hu] at h; cases h; exact absurd (hL _ huL) hnT
      · rw [hu] at h; cases h; exact hk9
    have huc : u ≠ C i := fun e => by rw [e, e2.2.1] at huK; exact absurd huK (by decide)
    refine (hrm.ag huL huc).tr (CS.ag huc (fun e => ?_))
    subst e
    exact hne (g7 j i u hj hi huL hu (hold huL).1)
  have hit : Ag S (CS S1 (C i) w (nI k) d v R) it := ag it g1 (fun e => by rw [e, e2.2.1] at g2; exact absurd g2 (by decide)) (by rw [g2]; decide)
  have back : ∀ j, j < 7 → j ≠ i → ∀ u, (CS S1 (C i) w (nI k) d v R).fr (C j) 3 = some u → u ∈ (CS S1 (C i) w (nI k) d v R).L → S.fr (C j) 3 = some u ∧ u ∈ S.L := by
    intro j hj hne u hu huT
    rw [(hcw j hj hne).2.2.1] at hu
    rcases (g5 j hj).2.1.2.2.2 with h | ⟨x, h, hx, -⟩
    · rw [hu] at h; cases h; exact absurd huT hnT
    · rw [hu] at h; cases h; exact ⟨hu, hx⟩
  refine ⟨hOw, ⟨hL, fun a ha hn => ?_⟩, ⟨hL it g1, hit.1.trans g2, hit.2.2.2.1.trans g3, (hOw it g1).trans g4, fun j hj => ?_, g6, fun j j2 u hj hj2 huT hu hu2 => ?_⟩, hq1, fun j hj hne a ha => ?_, hL s h1, ag s h1 (fun e => by rw [e, e2.2.1] at h2; exact absurd h2 (by decide)) (by rw [h2]; decide)⟩
  · have hac : a ≠ C i := fun e => hn (by rw [e]; exact e3)
    refine (hrm.ag ha hac).tr (CS.ag hac (fun e => ?_))
    subst e
    exact hn (e4 a (hold ha).1 ha)
  · obtain ⟨d1, d2, d3, d4⟩ := g5 j hj
    by_cases e : j = i
    · subst e
      refine ⟨by rw [hit.2.2.2.2.2.2]; exact d1, ⟨hq1.1, hq1.2.1, ⟨k, hk, CS_g0⟩, Or.inr ⟨w, hq1.2.2⟩⟩, (hOw _ d2.1).trans d3, fun u hu _ => ?_⟩
      have : some w = some u := hq1.2.2.1.symm.trans hu
      cases this
      exact va_up_self _ _ _
    · refine ⟨by rw [hit.2.2.2.2.2.2]; exact d1, Cw.keep hL (hcw j hj e) (fun u hu huL => kln u huL) d2, (hOw _ d2.1).trans d3, fun u hu huT => ?_⟩
      obtain ⟨p1, p2⟩ := back j hj e u hu huT
      exact (hOw u p2).trans (d4 u p1 p2)
  · by_cases e : j = i
    · by_cases e' : j2 = i
      · rw [e, e']
      · subst e
        have hw : some w = some u := hq1.2.2.1.symm.trans hu
        cases hw
        obtain ⟨p1, p2⟩ := back j2 hj2 e' w hu2 huT
        exact (g7 j2 j w hj2 hj p2 p1 (hold p2).1).symm
    · by_cases e' : j2 = i
      · subst e'
        have hw : some w = some u := hq1.2.2.1.symm.trans hu2
        cases hw
        obtain ⟨p1, p2⟩ := back j hj e w hu huT
        exact g7 j j2 w hj hj2 p2 p1 (hold p2).1
      · obtain ⟨p1, p2⟩ := back j hj e u hu huT
        obtain ⟨q1, -⟩ := back j2 hj2 e' u hu2 huT
        exact g7 j j2 u hj hj2 p2 p1 q1
  · exact Cv.keep hL (hcw j hj hne) (agw j hj hne) ha
