/-! WRITING: bytes as lists -/
def byL (v k : Nat) : List Nat := (List.range k).map (bys v)
theorem byL_len (v k : Nat) : (byL v k).length = k := by simp [byL]
def ByL (S : PS) (br h n : Nat) (D : List Nat) : Prop := ByV S br h n D.length (fun i => D.getD i 0)
theorem byL_get (D : List Nat) (v k i : Nat) (h : i < D.length + k) : (D ++ byL v k).getD i 0 = ptB (fun i => D.getD i 0) D.length v i := by
  unfold ptB
  by_cases e : i < D.length
  · rw [if_pos e]
    show _ = D.getD i 0
    rw [List.getD_eq_getElem?_getD, List.getD_eq_getElem?_getD, List.getElem?_append_left e]
  · rw [if_neg e, List.getD_eq_getElem?_getD, List.getElem?_append_right (by omega)]
    unfold byL
    rw [List.getElem?_map, List.getElem?_range (by omega)]
    rfl
/-- the bytes E have been put behind D -/
def WL (S : PS) (br n : Nat) (D E : List Nat) (T : PS) : Prop := Rl Pb S T ∧ ∃ h2, ByL T br h2 (bN n D.length E.length) (D ++ E)
theorem WL.rf {S : PS} {br h n : Nat} {D : List Nat} (hb : ByL S br h n D) : WL S br n D [] S := by
  have hun : D.length ≤ n := hb.1.2.2.2.2.2.2.2.2.1
  refine ⟨Rl.rf, h, ?_⟩
  rw [List.append_nil, show bN n D.length ([] : List Nat).length = n by unfold bN; rw [if_pos (by show D.length + 0 ≤ n; omega)]]
  exact hb
theorem bU_in {u k : Nat} (h : u + k ≤ 60000) : bU u k = u + k := by unfold bU; omega
theorem WL.put {S T U : PS} {br n v m : Nat} {D E : List Nat} (hun : D.length ≤ n) (hn : n ≤ 60000) (hlen : D.length + E.length + m ≤ 60000) (h : WL S br n D E T) (hp : Rl Pb T U ∧ ∃ h2, ByV U br h2 (bN (bN n D.length E.length) (D ++ E).length m) ((D ++ E).length + m) (ptB (fun i => (D ++ E).getD i 0) (D ++ E).length v)) : WL S br n D (E ++ byL v m) U := by
  obtain ⟨e1, -, -⟩ := bb_n (k := E.length) (m := m) hun hn
  rw [bU_in (by omega)] at e1
  obtain ⟨h1, h2, h3⟩ := hp
  refine ⟨h.1.tr h1, h2, ?_⟩
  unfold ByL
  rw [← List.append_assoc, List.length_append (bs := byL v m), List.length_append (bs := byL v m), byL_len, ← e1]
  rw [List.length_append] at h3 ⊢
  exact h3.of (fun i hi => by rw [byL_get _ _ _ _ (by rw [List.length_append]; omega), List.length_append])
theorem wl_room {n m K : Nat} {D E : List Nat} (hun : D.length ≤ n) (hn : n ≤ 60000) (h6 : D.length + E.length ≤ 60000) (h : E.length + m ≤ K) : bG n D.length E.length + bG (bN n D.length E.length) (D ++ E).length m ≤ bG n D.length K ∧ 60000 * bG n D.length E.length + 60000 * bG (bN n D.length E.length) (D ++ E).length m ≤ 60000 * bG n D.length K := by
  have := w_room (u := D.length) (k := E.length) (m := m) (K := K) hun hn h
  rw [bU_in h6] at this
  rw [List.length_append]
  exact this
theorem wl_wid {n m v : Nat} {D E : List Nat} (hun : D.length ≤ n) (hn : n ≤ 60000) (h6 : D.length + E.length ≤ 60000) : bG n D.length E.length + bG (bN n D.length E.length) (D ++ E).length m ≤ bG n D.length (E ++ byL v m).length ∧ 60000 * bG n D.length E.length + 60000 * bG (bN n D.length E.length) (D ++ E).length m ≤ 60000 * bG n D.length (E ++ byL v m).length := wl_room hun hn h6 (by rw [List.length_append, byL_len]; exact Nat.le_refl _)
theorem Rl.ag {P : Nat → Prop} {S T : PS} (h : Rl P S T) {a : Nat} (ha : a ∈ S.L) (hP : ¬ P (S.K a)) : Ag S T a := by
  obtain ⟨-, h2, h3, h4⟩ := h a ha
  obtain ⟨e1, e2, e3, e4, e5⟩ := h4 hP
  exact ⟨h2, e1, e2, h3, e3, e4, e5⟩
theorem Rl.cv {P : Nat → Prop} {S T : PS} (h : Rl P S T) (h1 : ¬ P 1) (h9 : ¬ P 9) {c : Nat} {a : Cn} (k : Cv S c a) : Cv T c a := by
  refine Cv.keep (fun b hb => (h b hb).1) (h.ag k.cr.1 (by rw [k.cr.2.1]; exact h1)) (fun w hw hwL => h.ag hwL ?_) k
  obtain ⟨w2, hq, -⟩ := k
  have : w2 = w := by have := hq.2.2.1; rw [hw] at this; cases this; rfl
  subst this
  rw [hq.2.2.2.2.1]
  exact h9
/-- 1024, out of the reach of reduction -/
noncomputable def N10 : Nat := Classical.choose (⟨1024, rfl⟩ : ∃ N : Nat, N = 1024)
theorem N10_eq : N10 = 1024 := Classical.choose_spec (⟨1024, rfl⟩ : ∃ N : Nat, N = 1024)
/-- a bitmap's bytes, an array's, those of runs -/
def bmP (W : Nat → Int64) : Nat → List Nat
  | 0 => []
  | j + 1 => bmP W j ++ byL (wv (W j)) 8
theorem bmP_len (W : Nat → Int64) : ∀ j, (bmP W j).length = 8 * j
  | 0 => rfl
  | j + 1 => by
    show (bmP W j ++ byL (wv (W j)) 8).length = _
    rw [List.length_append, byL_len, bmP_len W j]
    omega
noncomputable def bmL (W : Nat → Int64) : List Nat := bmP W N10
def arP (W : Nat → Int64) : Nat → List Nat
  | 0 => []
  | l + 1 => if cb W 0 l = 1 then arP W l ++ byL l 2 else arP W l
theorem arP_hit {W : Nat → Int64} {l : Nat} (h : cb W 0 l = 1) : arP W (l + 1) = arP W l ++ byL l 2 := if_pos h
theorem arP_miss {W : Nat → Int64} {l : Nat} (h : ¬ cb W 0 l = 1) : arP W (l + 1) = arP W l := if_neg h
theorem arP_len (W : Nat → Int64) : ∀ l, (arP W l).length = 2 * ct W 0 l
  | 0 => rfl
  | l + 1 => by
    have h1 := arP_len W l
    have h2 : ct W 0 (l + 1) = ct W 0 l + cb W 0 l := rfl
    have h3 := cb_le W 0 l
    by_cases e : cb W 0 l = 1
    · rw [arP_hit e, List.length_append, byL_len]
      omega
    · rw [arP_miss e]
      omega
theorem arP_flat {W : Nat → Int64} {i : Nat} : ∀ r, i ≤ r → (∀ l, i ≤ l → l < r → ¬ cb W 0 l = 1) → arP W r = arP W i
  | 0, h, _ => by rw [Nat.le_zero.mp h]
  | r + 1, h, h2 => by
    by_cases e : i = r + 1
    · rw [e]
    · rw [arP_miss (h2 r (by omega) (by omega))]
      exact arP_flat r (by omega) (fun l a b => h2 l a (by omega))
noncomputable def arL (W : Nat → Int64) : List Nat := arP W N16
theorem arL_len (W : Nat → Int64) : (arL W).length = 2 * tot W := arP_len W N16
/-- where the run that a low is in begins -/
def rs (W : Nat → Int64) : Nat → Nat
  | 0 => 0
  | l + 1 => if cb W 0 l = 1 then rs W l else l + 1
def rnP (W : Nat → Int64) : Nat → List Nat
  | 0 => []
  | l + 1 => if cb W 0 l = 1 ∧ (l = 65535 ∨ ¬ cb W 0 (l + 1) = 1) then rnP W l ++ (byL (rs W l) 2 ++ byL (l - rs W l) 2) else rnP W l
noncomputable def rnL (W : Nat → Int64) : List Nat := rnP W N16
theorem rnP_out {W : Nat → Int64} {i : Nat} : ∀ r, i ≤ r → (∀ l, i ≤ l → l < r → ¬ cb W 0 l = 1) → rnP W r = rnP W i ∧ rn W 0 r = rn W 0 i
  | 0, h, _ => by rw [Nat.le_zero.mp h]; exact ⟨rfl, rfl⟩
  | r + 1, h, h2 => by
    by_cases e : i = r + 1
    · rw [e]; exact ⟨rfl, rfl⟩
    · obtain ⟨h3, h4⟩ := rnP_out r (by omega) (fun l a b => h2 l a (by omega))
      have h5 := h2 r (by omega) (by omega)
      have h6 := cb_le W 0 r
      refine ⟨(if_neg (fun q => h5 q.1)).trans h3, ?_⟩
      show rn W 0 r + cb W 0 r * (1 - pv W 0 r) = _
      rw [show cb W 0 r = 0 by omega, Nat.zero_mul]
      exact h4
theorem rnP_mid {W : Nat → Int64} {f : Nat} (hs : rs W f = f) (hp : pv W 0 f = 0) : ∀ q, f < q → q ≤ 65536 → (∀ l, f ≤ l → l ≤ q → l < 65536 → cb W 0 l = 1) → (q < 65536 → rnP W q = rnP W f) ∧ rs W q = f ∧ rn W 0 q = rn W 0 f + 1
  | 0, h, _, _ => absurd h (Nat.not_lt_zero _)
  | q + 1, h, hq, h2 => by
    have hc : cb W 0 q = 1 := h2 q (by omega) (by omega) (by omega)
    have hr : rs W (q + 1) = rs W q := if_pos hc
    have hn : rn W 0 (q + 1) = rn W 0 q + cb W 0 q * (1 - pv W 0 q) := rfl
    have hl : q + 1 < 65536 → rnP W (q + 1) = rnP W q := fun g => if_neg (fun e => by
      rcases e.2 with e | e
      · omega
      · exact e (h2 (q + 1) (by omega) (by omega) g))
    by_cases e : f = q
    · subst e
      rw [hc, hp] at hn
      exact ⟨hl, hr.trans hs, hn⟩
    · obtain ⟨i1, i2, i3⟩ := rnP_mid hs hp q (by omega) (by omega) (fun l a b c => h2 l a (by omega) c)
      have hv : pv W 0 q = 1 := by
        obtain ⟨d, rfl⟩ : ∃ d, q = d + 1 := ⟨q - 1, by omega⟩
        exact h2 d (by omega) (by omega) (by omega)
      rw [hv, Nat.mul_zero] at hn
      exact ⟨fun g => (hl g).trans (i1 (by omega)), hr.trans i2, hn.trans i3⟩
theorem rnP_run {W : Nat → Int64} {f q : Nat} (hz : f = 0 ∨ ¬ cb W 0 (f - 1) = 1) (hfq : f < q) (hq : q ≤ 65536) (h1 : ∀ l, f ≤ l → l < q → cb W 0 l = 1) (h2 : q < 65536 → ¬ cb W 0 q = 1) : rnP W q = rnP W f ++ (byL f 2 ++ byL (q - f - 1) 2) ∧ rn W 0 q = rn W 0 f + 1 := by
  have hs : rs W f = f := by
    cases f with
    | zero => rfl
    | succ d =>
      rcases hz with e | e
      · exact absurd e (Nat.succ_ne_zero _)
      · exact if_neg e
  have hp : pv W 0 f = 0 := by
    cases f with
    | zero => rfl
    | succ d =>
      rcases hz with e | e
      · exact absurd e (Nat.succ_ne_zero _)
      · have := cb_le W 0 d
        show cb W 0 d = 0
        have e2 : ¬ cb W 0 d = 1 := e
        omega
  obtain ⟨d, rfl⟩ : ∃ d, q = d + 1 := ⟨q - 1, by omega⟩
  have hc : cb W 0 d = 1 := h1 d (by omega) (by omega)
  have hn : rn W 0 (d + 1) = rn W 0 d + cb W 0 d * (1 - pv W 0 d) := rfl
  have hl : rnP W (d + 1) = rnP W d ++ (byL (rs W d) 2 ++ byL (d - rs W d) 2) := if_pos ⟨hc, by
    by_cases g : d + 1 < 65536
    · exact Or.inr (h2 g)
    · exact Or.inl (by omega)⟩
  by_cases e : f = d
  · subst e
    rw [hl, hs, hn, hc, hp]
    exact ⟨by rw [show f + 1 - f - 1 = f - f by omega], rfl⟩
  · obtain ⟨i1, i2, i3⟩ := rnP_mid hs hp d (by omega) (by omega) (fun l a b c => h1 l a (by omega))
    have hv : pv W 0 d = 1 := by
      obtain ⟨d2, rfl⟩ : ∃ d2, d = d2 + 1 := ⟨d - 1, by omega⟩
      exact h1 d2 (by omega) (by omega)
    rw [hv, Nat.mul_zero] at hn
    rw [hl, i2, i1 (by omega), hn, i3]
    exact ⟨by rw [show d + 1 - f - 1 = d - f by omega], rfl⟩
/-- a container's bytes -/
noncomputable def boL (a : Cn) : List Nat := if a.2.1 = 0 then arL a.2.2 else if a.2.1 = 1 then bmL a.2.2 else byL (rnT a.2.2) 2 ++ rnL a.2.2
noncomputable def boN (a : Cn) : Nat := if a.2.1 = 0 then 2 * tot a.2.2 else if a.2.1 = 1 then 8192 else 2 + 4 * rnT a.2.2

set_option maxRecDepth 100000 in
set_option maxHeartbeats 2000000 in
/-- static -/
theorem f_X5_putBitmap (l : Launch) (D : va_G) (cy : Nat → ClassId) (nw : Nat) (S : PS) (c : Nat) (a : Cn) (hc : Cv S c a) (br h n : Nat) (Y : List Nat) (hb : ByL S br h n Y) (hlen : Y.length + 8192 ≤ 60000) : kV l yX5_putBitmap wsX5_putBitmap 3 106 D cy nw [.ref c, .ref br] S (fun T => WL S br n Y (bmL a.2.2) T) (bG n Y.length 8192) (60000 * bG n Y.length 8192) := by
  refine enterV (cc := cX5_putBitmap) (nL := 3) (ret := none) (by decide +kernel) rfl (Nat.le_of_ble_eq_true rfl) ?_
  intro F Z hl hR hD hcy hnw hnm
  subst hl hD hcy hnw
  have hRf : F.R.frames = 3 := by rw [hR]
  have hRc : F.R.cells = (bG n Y.length 8192) := by rw [hR]
  have hRs : F.R.slots = (60000 * bG n Y.length 8192) := by rw [hR]
  have hRl : F.R.locals = 106 := by rw [hR]
  have in1 : ∀ w ∈ u_ws RX1 TX1 4, w ∈ wsX5_putBitmap := by decide +kernel
  have lk85 : Cond.fieldLink RX5 85 (TX1 3).1 (TX1 3).2.1 (TX1 3).2.2.1 ∈ wsX5_putBitmap := by decide +kernel
  have hun : Y.length ≤ n := hb.1.2.2.2.2.2.2.2.2.1
  have hn6 : n ≤ 60000 := by have := hb.1.2.2.2.2.2.2.1; omega
  have loop : ∀ (m j : Nat) (T : PS), 1024 - j < m → (WL S br n Y (bmP a.2.2 j) T ∧ j ≤ 1024) → G F 3 T (bG n Y.length (bmP a.2.2 j).length) (60000 * bG n Y.length (bmP a.2.2 j).length) (QV F (fun T => WL S br n Y (bmL a.2.2) T) (bG n Y.length 8192) (60000 * bG n Y.length 8192)) 2 [(0, .ref c), (1, .ref br), (2, .int (nI j))] [] := by
    intro m
    induction m with
    | zero => intros; omega
    | succ m ih =>
      intro j T hm ⟨hW, hj⟩
      have hcT := hW.1.cv nPb1 nPb9 hc
      obtain ⟨w, ⟨hcL, hcK, hww, hwL, hwK, hwl⟩, hk0, hk0b, hk1, hk2, hrow⟩ := id hcT
      have hbl := bmP_len a.2.2 j
      refine g_iload_n Z dX5_putBitmap_2 rfl ?_
      refine g_sipush (v := 1024) Z dX5_putBitmap_3 (by decide) ?_
      refine g_icmp_ge Z 27 dX5_putBitmap_6 (by decide) (fun h6 => ?_) (fun h6 => ?_)
      · have he : j = 1024 := by have := ge_t (i := j) (N := 1024) (by omega) (by decide) h6; omega
        have e8 : (bmP a.2.2 j).length = 8192 := by omega
        have eL : bmP a.2.2 j = bmL a.2.2 := by unfold bmL; rw [N10_eq, he]
        exact g_vret Z dX5_putBitmap_27 (by rw [e8]; exact Nat.le_refl _) (by rw [e8]; exact Nat.le_refl _) (by rw [← eL]; exact hW)
      · have hlt : j < 1024 := ge_f (by omega) (by decide) h6
        refine g_aload_n Z dX5_putBitmap_9 rfl ?_
        refine g_aload_n Z dX5_putBitmap_10 rfl ?_
        refine g_getr Z 1 3 rfl (by decide) in1 lk85 dX5_putBitmap_11 (by assumption) (by assumption) (by assumption) ?_
        refine g_iload_n Z dX5_putBitmap_14 rfl ?_
        refine g_lald Z dX5_putBitmap_15 (by assumption) (by assumption) (by exact vin_of hwl hlt (by decide)) ?_
        rw [nI_clamp (by omega), hrow j hlt, ← lN_wv (a.2.2 j)]
        refine g_bipush (v := 8) Z dX5_putBitmap_16 (by decide) ?_
        refine g_cvV Z (f_X0_put F.l F.D F.cy F.nw _ br _ _ _ _ (hW.2.choose_spec) (wv (a.2.2 j)) (wv_lt _) 8 (by omega) (by first | omega | (simp only [List.length_append, byL_len]; omega))) 2 gX5_putBitmap_X0_put rfl (by decide +kernel) (by rw [hRf, hRl]; decide) (by exact hW.2.choose_spec.1.1) (κ := 0) (by exact hW.2.choose_spec.1.2.1) rfl (by decide) rfl rfl (Nat.le_of_ble_eq_true rfl) dX5_putBitmap_18 (by rw [hRc, hRs]; exact wl_room hun hn6 (by first | omega | (simp only [List.length_append, byL_len]; omega)) (by first | omega | (simp only [List.length_append, byL_len]; omega))) (fun U hp => ?_)
        have hW2 := hW.put hun hn6 (by first | omega | (simp only [List.length_append, byL_len]; omega)) hp
        refine g_widen (wl_wid (v := (wv (a.2.2 j))) hun hn6 (by first | omega | (simp only [List.length_append, byL_len]; omega))).1 (wl_wid (v := (wv (a.2.2 j))) hun hn6 (by first | omega | (simp only [List.length_append, byL_len]; omega))).2 ?_
        refine g_iinc (c := 1) Z dX5_putBitmap_21 rfl (by decide) (by decide) ?_
        rw [nI_1]
        refine g_goto Z 2 dX5_putBitmap_24 (by decide) ?_
        exact g_lv (by (repeat (first | exact trivial | refine And.intro rfl ?_)); done) (ih (j + 1) U (by omega) ⟨hW2, by omega⟩)
  refine g_iconst (v := 0) Z dX5_putBitmap_0 (by decide) ?_
  refine g_istore_n Z dX5_putBitmap_1 (by decide) ?_
  exact g_widen (Nat.zero_le _) (Nat.zero_le _) (g_lv (by (repeat (first | exact trivial | refine And.intro rfl ?_)); done) (loop 1025 0 S (by omega) ⟨WL.rf hb, by omega⟩))

theorem pN_mn (n : Nat) {p q : Nat} (h : p ≤ q) : pN n p ≤ pN n q := by
  induction q with
  | zero => rw [Nat.le_zero.mp h]; exact Nat.le_refl _
  | succ q ih =>
    by_cases e : p = q + 1
    · rw [e]; exact Nat.le_refl _
    · exact Nat.le_trans (ih (by omega)) (Nat.le_add_right _ _)
theorem pN_over {n p d : Nat} (h1 : p ≤ d) (h2 : d < 64) (h3 : n / 2 ^ d % 2 = 1) (h4 : pN n p = pN n 64) : False := by
  have a := pN_mn n h1
  have b := pN_mn n (show d + 1 ≤ 64 by omega)
  have e : pN n (d + 1) = pN n d + n / 2 ^ d % 2 := rfl
  omega

set_option maxRecDepth 100000 in
set_option maxHeartbeats 2000000 in
/-- static -/
theorem f_X5_putArray (l : Launch) (D : va_G) (cy : Nat → ClassId) (nw : Nat) (S : PS) (c : Nat) (a : Cn) (hc : Cv S c a) (br h n : Nat) (Y : List Nat) (hb : ByL S br h n Y) (hlen : Y.length + 2 * tot a.2.2 ≤ 60000) : kV l yX5_putArray wsX5_putArray 3 106 D cy nw [.ref c, .ref br] S (fun T => WL S br n Y (arL a.2.2) T) (bG n Y.length (2 * tot a.2.2)) (60000 * bG n Y.length (2 * tot a.2.2)) := by
  refine enterV (cc := cX5_putArray) (nL := 7) (ret := none) (by decide +kernel) rfl (Nat.le_of_ble_eq_true rfl) ?_
  intro F Z hl hR hD hcy hnw hnm
  subst hl hD hcy hnw
  have hRf : F.R.frames = 3 := by rw [hR]
  have hRc : F.R.cells = (bG n Y.length (2 * tot a.2.2)) := by rw [hR]
  have hRs : F.R.slots = (60000 * bG n Y.length (2 * tot a.2.2)) := by rw [hR]
  have hRl : F.R.locals = 106 := by rw [hR]
  have in1 : ∀ w ∈ u_ws RX1 TX1 4, w ∈ wsX5_putArray := by decide +kernel
  have lk85 : Cond.fieldLink RX5 85 (TX1 3).1 (TX1 3).2.1 (TX1 3).2.2.1 ∈ wsX5_putArray := by decide +kernel
  have hun : Y.length ≤ n := hb.1.2.2.2.2.2.2.2.2.1
  have hn6 : n ≤ 60000 := by have := hb.1.2.2.2.2.2.2.1; omega
  have mono : ∀ l, l ≤ 65536 → (arP a.2.2 l).length ≤ 2 * tot a.2.2 := fun l hl => by rw [arP_len, tot_ct]; exact Nat.mul_le_mul_left 2 (ct_mono' a.2.2 0 hl)
  have loop : ∀ (m j : Nat) (T : PS), 1024 - j < m → (WL S br n Y (arP a.2.2 (64 * j)) T ∧ j ≤ 1024) → G F 7 T (bG n Y.length (arP a.2.2 (64 * j)).length) (60000 * bG n Y.length (arP a.2.2 (64 * j)).length) (QV F (fun T => WL S br n Y (arL a.2.2) T) (bG n Y.length (2 * tot a.2.2)) (60000 * bG n Y.length (2 * tot a.2.2))) 2 [(0, .ref c), (1, .ref br), (2, .int (nI j))] [] := by
    intro m
    induction m with
    | zero => intros; omega
    | succ m ih =>
      intro j T hm ⟨hW, hj⟩
      have hcT := hW.1.cv nPb1 nPb9 hc
      obtain ⟨w, ⟨hcL, hcK, hww, hwL, hwK, hwl⟩, hk0, hk0b, hk1, hk2, hrow⟩ := id hcT
      refine g_iload_n Z dX5_putArray_2 rfl ?_
      refine g_sipush (v := 1024) Z dX5_putArray_3 (by decide) ?_
      refine g_icmp_ge Z 65 dX5_putArray_6 (by decide) (fun h6 => ?_) (fun h6 => ?_)
      · have he : j = 1024 := by have := ge_t (i := j) (N := 1024) (by omega) (by decide) h6; omega
        have eL : arP a.2.2 (64 * j) = arL a.2.2 := by unfold arL; rw [N16_eq, he]
        have e8 : (arP a.2.2 (64 * j)).length = 2 * tot a.2.2 := by rw [eL, arL_len]
        exact g_vret Z dX5_putArray_65 (by rw [e8]; exact Nat.le_refl _) (by rw [e8]; exact Nat.le_refl _) (by rw [← eL]; exact hW)
      · have hlt : j < 1024 := ge_f (by omega) (by decide) h6
        have inner : ∀ (m2 q p : Nat) (v : Int64) (T : PS), pc (a.2.2 j) - q < m2 → (WL S br n Y (arP a.2.2 (64 * j + p)) T ∧ q ≤ pc (a.2.2 j) ∧ p ≤ 64 ∧ Cl (a.2.2 j) p v ∧ pN (wv (a.2.2 j)) p = q) → G F 7 T (bG n Y.length (arP a.2.2 (64 * j + p)).length) (60000 * bG n Y.length (arP a.2.2 (64 * j + p)).length) (QV F (fun T => WL S br n Y (arL a.2.2) T) (bG n Y.length (2 * tot a.2.2)) (60000 * bG n Y.length (2 * tot a.2.2))) 25 [(0, .ref c), (1, .ref br), (2, .int (nI j)), (3, .long v), (5, .int (nI (pc (a.2.2 j)))), (6, .int (nI q))] [] := by
          intro m2
          induction m2 with
          | zero => intros; omega
          | succ m2 ih2 =>
            intro q p v T hm2 ⟨hW, hq, hp64, hcl, hpn⟩
            have hpc2 : pc (a.2.2 j) ≤ 64 := pN_le (wv (a.2.2 j)) 64
            refine g_iload Z dX5_putArray_25 rfl ?_
            refine g_iload Z dX5_putArray_27 rfl ?_
            refine g_icmp_ge Z 59 dX5_putArray_29 (by decide) (fun h29 => ?_) (fun h29 => ?_)
            · have he : q = pc (a.2.2 j) := by have := ge_t (i := q) (N := pc (a.2.2 j)) (by omega) (by omega) h29; omega
              have hfl : arP a.2.2 (64 * (j + 1)) = arP a.2.2 (64 * j + p) := arP_flat _ (by omega) (fun l h1 h2 => by
                obtain ⟨d, rfl⟩ : ∃ d, l = 64 * j + d := ⟨l - 64 * j, by omega⟩
                rw [cbz_at _ (by omega)]
                intro e1
                exact pN_over (n := wv (a.2.2 j)) (p := p) (show p ≤ d by omega) (show d < 64 by omega) e1 (hpn.trans he))
              refine g_iinc (c := 1) Z dX5_putArray_59 rfl (by decide) (by decide) ?_
              rw [nI_1]
              refine g_goto Z 2 dX5_putArray_62 (by decide) ?_
              rw [← hfl] at hW ⊢
              exact g_lv (by (repeat (first | exact trivial | refine And.intro rfl ?_)); done) (ih (j + 1) T (by omega) ⟨hW, by omega⟩)
            · have hlt2 : q < pc (a.2.2 j) := ge_f (by omega) (by omega) h29
              obtain ⟨t, ht1, ht2, ht3, ht4, ht5, ht6⟩ := hcl.step hp64 (by omega)
              have hfl : arP a.2.2 (64 * j + t) = arP a.2.2 (64 * j + p) := arP_flat _ (by omega) (fun l h1 h2 => by
                obtain ⟨d, rfl⟩ : ∃ d, l = 64 * j + d := ⟨l - 64 * j, by omega⟩
                have h3 := ht3.bit (show d < t by omega)
                rw [hcl d (by omega), if_pos (by omega)] at h3
                rw [cbz_at _ (by omega), h3]
                decide)
              have hht : cb a.2.2 0 (64 * j + t) = 1 := by rw [cbz_at _ ht2]; exact ht4
              have hhit := arP_hit hht
              rw [hfl] at hhit
              have hm2b := mono (64 * j + t + 1) (by omega)
              rw [hhit, List.length_append, byL_len] at hm2b
              have hpn2 : pN (wv (a.2.2 j)) (t + 1) = pN (wv (a.2.2 j)) t + wv (a.2.2 j) / 2 ^ t % 2 := rfl
              refine g_aload_n Z dX5_putArray_32 rfl ?_
              refine g_iload_n Z dX5_putArray_33 rfl ?_
              refine g_bipush (v := 6) Z dX5_putArray_34 (by decide) ?_
              refine g_ishl Z dX5_putArray_36 ?_
              rw [shl6 (by omega)]
              refine g_lload_n Z dX5_putArray_37 rfl ?_
              refine g_csI Z (f_J13_numberOfTrailingZeros_95d88 F.l F.D F.cy F.nw T v t ht2 ht3) 1 gX5_putArray_J13_numberOfTrailingZeros_95d88 rfl (by decide +kernel) (by rw [hRf, hRl]; decide) rfl rfl (Nat.le_of_ble_eq_true rfl) dX5_putArray_38 (by rw [hRc, hRs]; exact w_room0 (by omega)) (fun r V hp => ?_)
              obtain ⟨rfl, rfl⟩ := hp
              refine g_iadd Z dX5_putArray_41 ?_
              rw [nI_add, show j * 2 ^ 6 + t = 64 * j + t by omega]
              refine g_i2l Z dX5_putArray_42 ?_
              rw [nI_l (by omega)]
              refine g_iconst (v := 2) Z dX5_putArray_43 (by decide) ?_
              refine g_cvV Z (f_X0_put F.l F.D F.cy F.nw _ br _ _ _ _ (hW.2.choose_spec) (64 * j + t) (by omega) 2 (by omega) (by first | omega | (simp only [List.length_append, byL_len]; omega))) 2 gX5_putArray_X0_put rfl (by decide +kernel) (by rw [hRf, hRl]; decide) (by exact hW.2.choose_spec.1.1) (κ := 0) (by exact hW.2.choose_spec.1.2.1) rfl (by decide) rfl rfl (Nat.le_of_ble_eq_true rfl) dX5_putArray_44 (by rw [hRc, hRs]; exact wl_room hun hn6 (by first | omega | (simp only [List.length_append, byL_len]; omega)) (by first | omega | (simp only [List.length_append, byL_len]; omega))) (fun V hp => ?_)
              have hW2 := hW.put hun hn6 (by first | omega | (simp only [List.length_append, byL_len]; omega)) hp
              refine g_widen (wl_wid (v := (64 * j + t)) hun hn6 (by first | omega | (simp only [List.length_append, byL_len]; omega))).1 (wl_wid (v := (64 * j + t)) hun hn6 (by first | omega | (simp only [List.length_append, byL_len]; omega))).2 ?_
              refine g_lload_n Z dX5_putArray_47 rfl ?_
              refine g_lload_n Z dX5_putArray_48 rfl ?_
              refine g_lconst (v := 1) Z dX5_putArray_49 (by decide) ?_
              refine g_lsub Z dX5_putArray_50 ?_
              refine g_land Z dX5_putArray_51 ?_
              refine g_lstore_n Z dX5_putArray_52 (by decide) ?_
              refine g_iinc (c := 1) Z dX5_putArray_53 rfl (by decide) (by decide) ?_
              rw [nI_1]
              refine g_goto Z 25 dX5_putArray_56 (by decide) ?_
              rw [← hhit] at hW2 ⊢
              exact g_lv (by (repeat (first | exact trivial | refine And.intro rfl ?_)); done) (ih2 (q + 1) (t + 1) _ V (by omega) ⟨hW2, by omega, by omega, ht6, by omega⟩)
        refine g_aload_n Z dX5_putArray_9 rfl ?_
        refine g_getr Z 1 3 rfl (by decide) in1 lk85 dX5_putArray_10 (by assumption) (by assumption) (by assumption) ?_
        refine g_iload_n Z dX5_putArray_13 rfl ?_
        refine g_lald Z dX5_putArray_14 (by assumption) (by assumption) (by exact vin_of hwl hlt (by decide)) ?_
        rw [nI_clamp (by omega), hrow j hlt]
        refine g_lstore_n Z dX5_putArray_15 (by decide) ?_
        refine g_lload_n Z dX5_putArray_16 rfl ?_
        refine g_csI Z (c_J13_bitCount_95d88 F.l F.D F.cy F.nw _ _) 1 gX5_putArray_J13_bitCount_95d88 rfl (by decide +kernel) (by rw [hRf, hRl]; decide) rfl rfl (Nat.le_of_ble_eq_true rfl) dX5_putArray_17 (by rw [hRc, hRs]; exact w_room0 (mono _ (by omega))) (fun r U hp => ?_)
        obtain ⟨rfl, rfl⟩ := hp
        rw [bcF_pc]
        refine g_istore Z dX5_putArray_20 (by decide) ?_
        refine g_iconst (v := 0) Z dX5_putArray_22 (by decide) ?_
        refine g_istore Z dX5_putArray_23 (by decide) ?_
        exact g_lv (by (repeat (first | exact trivial | refine And.intro rfl ?_)); done) (inner 65 0 0 _ T (by have : pc (a.2.2 j) ≤ 64 := pN_le (wv (a.2.2 j)) 64; omega) ⟨hW, by omega, by omega, Cl.rf _, rfl⟩)
  refine g_iconst (v := 0) Z dX5_putArray_0 (by decide) ?_
  refine g_istore_n Z dX5_putArray_1 (by decide) ?_
  exact g_widen (Nat.zero_le _) (Nat.zero_le _) (g_lv (by (repeat (first | exact trivial | refine And.intro rfl ?_)); done) (loop 1025 0 S (by omega) ⟨WL.rf hb, by omega⟩))
