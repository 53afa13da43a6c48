/-! A SET, LOOKED AT -/
def SQ (S : PS) (nw s it : Nat) (V : Sv) : Prop := SetAt S nw s it V.1 ∧ ∀ i, i < V.1 → ∃ c, S.rr it i = some c ∧ Cv S c (V.2 i)
theorem SV.sq {S : PS} {nw : Nat} {O : Nat → Nat} {b s it : Nat} {C : Nat → Nat} {V : Sv} (h : SV S nw O b s it C V) : SQ S nw s it V := ⟨h.at, fun i hi => ⟨C i, h.rr (by have := h.2.2.2.2.1; omega), h.cv hi⟩⟩
theorem Rl.sq {S T : PS} (h : Rl Pb S T) {nw s it : Nat} {V : Sv} (k : SQ S nw s it V) : SQ T nw s it V := ⟨h.set nPb1 nPb2 nPb10 k.1, fun i hi => by
  obtain ⟨c, h1, h2⟩ := k.2 i hi
  exact ⟨c, by rw [h.rr10 k.1.2.2.2.1 k.1.2.2.2.2.1]; exact h1, h.cv nPb1 nPb9 h2⟩⟩
theorem SQ.cv {S : PS} {nw s it : Nat} {V : Sv} (k : SQ S nw s it V) {i c : Nat} (hi : i < V.1) (hc : S.rr it i = some c) : Cv S c (V.2 i) := by
  obtain ⟨c2, h1, h2⟩ := k.2 i hi
  rw [hc] at h1
  cases h1
  exact h2
/-- how many containers are of a kind -/
def kN (V : Sv) (x : Int32) : Nat → Nat
  | 0 => 0
  | i + 1 => if (V.2 i).2.1 = x then kN V x i + 1 else kN V x i
theorem kN_le (V : Sv) (x : Int32) : ∀ k, kN V x k ≤ k
  | 0 => Nat.le_refl _
  | k + 1 => by
    have := kN_le V x k
    show (if (V.2 k).2.1 = x then kN V x k + 1 else kN V x k) ≤ k + 1
    split <;> omega
theorem Cv.kd {S : PS} {c : Nat} {a : Cn} (h : Cv S c a) : S.fi c 1 = a.2.1 := by
  obtain ⟨w, -, -, -, h, -⟩ := h
  exact h
theorem Cv.tt {S : PS} {c : Nat} {a : Cn} (h : Cv S c a) : S.fi c 2 = nI (tot a.2.2) := by
  obtain ⟨w, -, -, -, -, h, -⟩ := h
  exact h
theorem Cv.ky {S : PS} {c : Nat} {a : Cn} (h : Cv S c a) : S.fi c 0 = nI a.1 ∧ a.1 < 65536 := by
  obtain ⟨w, -, h1, h2, -⟩ := h
  exact ⟨h1, h2⟩
theorem SQ.tk {S : PS} {nw s it : Nat} {V : Sv} (k : SQ S nw s it V) (x : Int32) : ∀ i, i ≤ V.1 → tkF S it x i = nI (kN V x i)
  | 0, _ => rfl
  | i + 1, hi => by
    obtain ⟨c, h1, h2⟩ := k.2 i (by omega)
    show (if kdF S it i = x then tkF S it x i + 1 else tkF S it x i) = nI (if (V.2 i).2.1 = x then kN V x i + 1 else kN V x i)
    rw [kdF_at h1, h2.kd, k.tk x i (by omega)]
    by_cases e : (V.2 i).2.1 = x
    · rw [if_pos e, if_pos e]
      exact nI_add _ 1
    · rw [if_neg e, if_neg e]
def hsR (V : Sv) : Nat := if 0 < kN V 2 V.1 then 1 else 0
theorem hsR_le (V : Sv) : hsR V ≤ 1 := by unfold hsR; split <;> omega
abbrev hsP (V : Sv) : Prop := hsR V = 0 ∨ 4 ≤ V.1
/-- how many bytes the head has -/
def hdN (V : Sv) : Nat := (if hsR V = 0 then 8 else 5) + 4 * V.1 + (if hsP V then 4 * V.1 else 0)
theorem SQ.le {S : PS} {nw s it : Nat} {V : Sv} (k : SQ S nw s it V) : V.1 ≤ 7 := k.1.2.2.2.2.2.2.2.1
theorem SQ.hr {S : PS} {nw s it : Nat} {V : Sv} (k : SQ S nw s it V) : hrF S it V.1 = nI (hsR V) := by
  have h1 := kN_le V 2 V.1
  have h2 := k.le
  unfold hrF hsR
  rw [k.tk 2 _ (Nat.le_refl _)]
  by_cases e : 0 < kN V 2 V.1
  · rw [if_pos e, if_neg (fun q => by have := (nI_leI (a := kN V 2 V.1) (b := 0) (by omega) (by decide)).mp q; omega)]
    rfl
  · rw [if_neg e, if_pos (show nI (kN V 2 V.1) ≤ 0 from (nI_leI (a := kN V 2 V.1) (b := 0) (by omega) (by decide)).mpr (by omega))]
    rfl
theorem hsR_0 {V : Sv} : nI (hsR V) = 0 ↔ hsR V = 0 := by
  have := hsR_le V
  exact ⟨fun h => (nI_eq (b := 0) (by omega) (by decide)).mp h, fun h => by rw [h]; rfl⟩
theorem SQ.hp {S : PS} {nw s it : Nat} {V : Sv} (k : SQ S nw s it V) : hpF S it V.1 = if hsP V then 1 else 0 := by
  unfold hpF
  rw [k.hr]
  by_cases e : hsR V = 0
  · rw [if_pos (hsR_0.mpr e), if_pos (Or.inl e)]
  · rw [if_neg (fun q => e (hsR_0.mp q))]
    by_cases e2 : V.1 < 4
    · rw [if_pos e2, if_neg (by omega)]
    · rw [if_neg e2, if_pos (by omega)]
theorem hsR_pos {V : Sv} (h : ¬ hsR V = 0) : 1 ≤ V.1 := by
  have := kN_le V 2 V.1
  apply Nat.pos_of_ne_zero
  intro e
  apply h
  unfold hsR
  rw [if_neg (by omega)]
theorem SQ.hb {S : PS} {nw s it : Nat} {V : Sv} (k : SQ S nw s it V) : hbF S it V.1 = nI (hdN V) := by
  have h7 := k.le
  have a1 : (if hrF S it V.1 = 0 then (8 : Int32) else 4 + (nI V.1 + 7) / 8) = nI (if hsR V = 0 then 8 else 5) := by
    rw [k.hr]
    by_cases e : hsR V = 0
    · rw [if_pos (hsR_0.mpr e), if_pos e]; rfl
    · have := hsR_pos e
      rw [if_neg (fun q => e (hsR_0.mp q)), if_neg e, show nI V.1 + 7 = nI (V.1 + 7) from nI_add V.1 7, show nI (V.1 + 7) / 8 = nI ((V.1 + 7) / 8) from pk_div (a := V.1 + 7) (d := 8) (by omega) (by decide) (by decide), show (V.1 + 7) / 8 = 1 by omega]
      rfl
  have a2 : (if hpF S it V.1 = 0 then (4 : Int32) else 8) * nI V.1 = nI (4 * V.1 + (if hsP V then 4 * V.1 else 0)) := by
    rw [k.hp]
    by_cases e : hsP V
    · rw [if_pos e, if_pos e, if_neg (by decide), show (8 : Int32) * nI V.1 = nI (8 * V.1) from pk_mul 8 _, show 8 * V.1 = 4 * V.1 + 4 * V.1 by omega]
    · rw [if_neg e, if_neg e, if_pos rfl]
      exact pk_mul 4 _
  unfold hbF hdN
  rw [a1, a2, nI_add, Nat.add_assoc]
def boS (V : Sv) (g : Cn → Nat) : Nat → Nat
  | 0 => 0
  | k + 1 => boS V g k + g (V.2 k)
theorem Cv.bb {S : PS} {c : Nat} {a : Cn} (h : Cv S c a) : bbF S c = nI (boN a) := by
  have h1 := h.kd
  have h2 := h.tt
  obtain ⟨w, hq, -, -, -, -, hrow⟩ := h
  unfold bbF boN
  rw [hq.2.2.1]
  show (if S.fi c 1 = 0 then 2 * S.fi c 2 else if S.fi c 1 = 1 then 8192 else 2 + 4 * trF (S.rj w) 1024) = _
  rw [h1, h2, trF_rnT, rnT_congr hrow]
  by_cases e0 : a.2.1 = 0
  · rw [if_pos e0, if_pos e0]
    exact pk_mul 2 _
  · by_cases e1 : a.2.1 = 1
    · rw [if_neg e0, if_pos e1, if_neg e0, if_pos e1]
      rfl
    · rw [if_neg e0, if_neg e1, if_neg e0, if_neg e1, show (4 : Int32) * nI (rnT a.2.2) = nI (4 * rnT a.2.2) from pk_mul 4 _]
      exact nI_add 2 _
theorem SQ.bo {S : PS} {nw s it : Nat} {V : Sv} (k : SQ S nw s it V) : ∀ i, i ≤ V.1 → boF S it V.1 i = nI (hdN V + boS V boN i)
  | 0, _ => k.hb
  | i + 1, hi => by
    obtain ⟨c, h1, h2⟩ := k.2 i (by omega)
    show boF S it V.1 i + bbF S ((S.rr it i).getD 0) = _
    rw [k.bo i (by omega), h1, Option.getD_some, h2.bb, nI_add, Nat.add_assoc]
    rfl
theorem boN_le (a : Cn) : boN a ≤ 131074 := by
  have h1 := tot_le a.2.2
  have h2 := rnT_le a.2.2
  unfold boN
  split
  · omega
  · split <;> omega
theorem boS_mono (V : Sv) (g : Cn → Nat) {i j : Nat} (h : i ≤ j) : boS V g i ≤ boS V g j := by
  induction j with
  | zero => rw [Nat.le_zero.mp h]; exact Nat.le_refl _
  | succ j ih =>
    by_cases e : i = j + 1
    · rw [e]; exact Nat.le_refl _
    · exact Nat.le_trans (ih (by omega)) (Nat.le_add_right _ _)
theorem boS_le (V : Sv) : ∀ k, boS V boN k ≤ 131074 * k
  | 0 => Nat.le_refl _
  | k + 1 => by
    have h1 := boS_le V k
    have h2 := boN_le (V.2 k)
    show boS V boN k + boN (V.2 k) ≤ _
    omega
theorem hdN_le {V : Sv} (h : V.1 ≤ 7) : hdN V ≤ 64 := by
  unfold hdN
  split <;> split <;> omega
/-- the bytes of runs, how many -/
theorem rnP_len (W : Nat → Int64) : ∀ l, l ≤ 65536 → (rnP W l).length + 4 * (if l < 65536 then pv W 0 l * cb W 0 l else 0) = 4 * rn W 0 l
  | 0, _ => by rw [if_pos (by decide)]; show 0 + 4 * (0 * _) = 0; omega
  | l + 1, hl => by
    have ih := rnP_len W l (by omega)
    rw [if_pos (by omega)] at ih
    have h1 := cb_le W 0 l
    have h2 := pv_le W 0 l
    have hn : rn W 0 (l + 1) = rn W 0 l + cb W 0 l * (1 - pv W 0 l) := rfl
    have hv : pv W 0 (l + 1) = cb W 0 l := rfl
    rw [hn, hv]
    by_cases e : cb W 0 l = 1
    · rw [e] at ih ⊢
      by_cases e2 : l = 65535 ∨ ¬ cb W 0 (l + 1) = 1
      · have hp : rnP W (l + 1) = rnP W l ++ (byL (rs W l) 2 ++ byL (l - rs W l) 2) := if_pos ⟨e, e2⟩
        have h0 : (if l + 1 < 65536 then 1 * cb W 0 (l + 1) else 0) = 0 := by
          by_cases g : l + 1 < 65536
          · rw [if_pos g]
            have := cb_le W 0 (l + 1)
            rcases e2 with e2 | e2
            · omega
            · omega
          · rw [if_neg g]
        rw [hp, h0, List.length_append, List.length_append, byL_len, byL_len]
        omega
      · have hp : rnP W (l + 1) = rnP W l := if_neg (fun q => e2 q.2)
        have e3 : ¬ l = 65535 := fun q => e2 (Or.inl q)
        have e4 : cb W 0 (l + 1) = 1 := Classical.byContradiction (fun q => e2 (Or.inr q))
        rw [hp, if_pos (by omega), e4]
        omega
    · have e0 : cb W 0 l = 0 := by omega
      have hp : rnP W (l + 1) = rnP W l := if_neg (fun q => e q.1)
      have h0 : (if l + 1 < 65536 then 0 * cb W 0 (l + 1) else 0) = 0 := by
        rw [Nat.zero_mul]
        split <;> rfl
      rw [e0] at ih
      rw [hp, e0, h0, Nat.zero_mul]
      omega
theorem boL_len (a : Cn) : (boL a).length = boN a := by
  unfold boL boN
  by_cases e0 : a.2.1 = 0
  · rw [if_pos e0, if_pos e0, arL_len]
  · by_cases e1 : a.2.1 = 1
    · rw [if_neg e0, if_neg e0, if_pos e1, if_pos e1]
      unfold bmL
      rw [bmP_len, N10_eq]
    · rw [if_neg e0, if_neg e0, if_neg e1, if_neg e1, List.length_append, byL_len]
      have h := rnP_len a.2.2 65536 (Nat.le_refl _)
      rw [if_neg (Nat.lt_irrefl _)] at h
      unfold rnL
      rw [N16_eq, rnT_eq]
      omega
theorem WL.app {S T U : PS} {br n : Nat} {D E G : List Nat} (hun : D.length ≤ n) (hn : n ≤ 60000) (hlen : D.length + E.length ≤ 60000) (h : WL S br n D E T) (hp : WL T br (bN n D.length E.length) (D ++ E) G U) : WL S br n D (E ++ G) U := by
  obtain ⟨e1, -, -⟩ := bb_n (k := E.length) (m := G.length) hun hn
  rw [bU_in hlen] at e1
  obtain ⟨h1, h2, h3⟩ := hp
  refine ⟨h.1.tr h1, h2, ?_⟩
  rw [List.length_append] at h3
  rw [List.length_append, ← e1, ← List.append_assoc]
  exact h3
theorem wl_widG {n m : Nat} {D E G : List Nat} (hun : D.length ≤ n) (hn : n ≤ 60000) (h6 : D.length + E.length ≤ 60000) (hm : G.length = m) : bG n D.length E.length + bG (bN n D.length E.length) (D ++ E).length m ≤ bG n D.length (E ++ G).length ∧ 60000 * bG n D.length E.length + 60000 * bG (bN n D.length E.length) (D ++ E).length m ≤ 60000 * bG n D.length (E ++ G).length := wl_room hun hn h6 (by rw [List.length_append, hm]; exact Nat.le_refl _)
/-! THE BYTES OF A SET -/
def rbN (V : Sv) : Nat → Nat
  | 0 => 0
  | i + 1 => if (V.2 i).2.1 = 2 then rbN V i + 1 * 2 ^ i else rbN V i
theorem rbN_lt (V : Sv) : ∀ k, rbN V k < 2 ^ k
  | 0 => Nat.zero_lt_one
  | k + 1 => by
    have := rbN_lt V k
    show (if (V.2 k).2.1 = 2 then rbN V k + 1 * 2 ^ k else rbN V k) < _
    rw [Nat.pow_succ]
    split <;> omega
theorem rb_st {V : Sv} {i : Nat} (hi : i < 8) : lN (rbN V i) ||| (1 : Int64) <<< ((nI i).toInt64 &&& 63) = lN (rbN V i + 1 * 2 ^ i) := by
  have h := rbN_lt V i
  have hle : 2 ^ i ≤ 2 ^ 7 := Nat.pow_le_pow_right (by decide) (by omega)
  rw [show (1 : Int64) = lN 1 from rfl, wb_shl 1 (by omega), wb_or (by omega) (by omega), num_or h]
def mkL (V : Sv) : List Nat := if hsR V = 0 then byL 12346 4 ++ byL V.1 4 else byL 12347 2 ++ byL (V.1 - 1) 2 ++ byL (rbN V V.1) 1
theorem mkL_len (V : Sv) : (mkL V).length = if hsR V = 0 then 8 else 5 := by
  unfold mkL
  by_cases e : hsR V = 0
  · rw [if_pos e, if_pos e]; simp only [List.length_append, byL_len]
  · rw [if_neg e, if_neg e]; simp only [List.length_append, byL_len]
noncomputable def kyP (V : Sv) : Nat → List Nat
  | 0 => []
  | i + 1 => kyP V i ++ (byL (V.2 i).1 2 ++ byL (tot (V.2 i).2.2 - 1) 2)
theorem kyP_len (V : Sv) : ∀ k, (kyP V k).length = 4 * k
  | 0 => rfl
  | k + 1 => by
    show (kyP V k ++ (byL (V.2 k).1 2 ++ byL (tot (V.2 k).2.2 - 1) 2)).length = _
    simp only [List.length_append, byL_len, kyP_len V k]
    omega
noncomputable def plP (V : Sv) : Nat → List Nat
  | 0 => []
  | i + 1 => plP V i ++ byL (hdN V + boS V boN i) 4
theorem plP_len (V : Sv) : ∀ k, (plP V k).length = 4 * k
  | 0 => rfl
  | k + 1 => by
    show (plP V k ++ byL (hdN V + boS V boN k) 4).length = _
    simp only [List.length_append, byL_len, plP_len V k]
    omega
noncomputable def bdP (V : Sv) : Nat → List Nat
  | 0 => []
  | i + 1 => bdP V i ++ boL (V.2 i)
theorem bdP_len (V : Sv) : ∀ k, (bdP V k).length = boS V boN k
  | 0 => rfl
  | k + 1 => by
    show (bdP V k ++ boL (V.2 k)).length = _
    rw [List.length_append, bdP_len V k, boL_len]
    rfl
noncomputable def seL (V : Sv) : List Nat := mkL V ++ kyP V V.1 ++ (if hsP V then plP V V.1 else []) ++ bdP V V.1
theorem seL_len (V : Sv) : (seL V).length = hdN V + boS V boN V.1 := by
  unfold seL hdN
  rw [List.length_append, List.length_append, List.length_append, mkL_len, kyP_len, bdP_len]
  by_cases e : hsP V
  · rw [if_pos e, if_pos e, plP_len]
  · rw [if_neg e, if_neg e]
    rfl
