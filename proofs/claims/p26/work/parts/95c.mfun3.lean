theorem row_eq {f g : Nat → Int64} (h : ∀ l, cb f 0 l = cb g 0 l) : f = g := by
  funext j
  have := row_ext (f := fun i => f (j + i)) (g := fun i => g (j + i)) (fun l _ => by
    have e := h (64 * j + l)
    rw [cbz, cbz] at e
    rw [cbz, cbz]
    rw [show (64 * j + l) / 64 = j + l / 64 by omega, show (64 * j + l) % 64 = l % 64 by omega] at e
    exact e) 0 (by omega)
  exact this
/-- lows one by one -/
def sw (h : Int32) (W : Nat → Int64) (f q : Nat) : Nat → Nat → Int64
  | 0 => W
  | n + 1 => rg h (f + q * n) (f + q * n) (sw h W f q n)
theorem sw_bit {h : Int32} {W : Nat → Int64} {f q n l : Nat} (hb : f + q * n < 65536) : cb (sw h W f q (n + 1)) 0 l = if l = f + q * n then bH h (cb (sw h W f q n) 0 (f + q * n)) else cb (sw h W f q n) 0 l := rg1_bit h hb _ l
theorem sw_hi {h : Int32} {W : Nat → Int64} {f q : Nat} (hq : 1 ≤ q) : ∀ n, (∀ i, i < n → f + q * i < 65536) → ∀ l, (∀ i, i < n → l ≠ f + q * i) → cb (sw h W f q n) 0 l = cb W 0 l
  | 0, _, _, _ => rfl
  | n + 1, hb, l, hl => by
    rw [sw_bit (hb n (by omega)), if_neg (hl n (by omega))]
    exact sw_hi hq n (fun i hi => hb i (by omega)) l (fun i hi => hl i (by omega))
theorem qn_lt {q i n : Nat} (hq : 1 ≤ q) (h : i < n) : q * i < q * n := Nat.mul_lt_mul_of_pos_left h hq
theorem sw_at {h : Int32} {W : Nat → Int64} {f q : Nat} (hq : 1 ≤ q) : ∀ n, (∀ i, i < n → f + q * i < 65536) → ∀ i, i < n → cb (sw h W f q n) 0 (f + q * i) = bH h (cb W 0 (f + q * i))
  | 0, _, i, hi => absurd hi (Nat.not_lt_zero _)
  | n + 1, hb, i, hi => by
    rw [sw_bit (hb n (by omega))]
    by_cases e : i = n
    · subst e
      rw [if_pos rfl, sw_hi hq i (fun j hj => hb j (by omega)) _ (fun j hj => by have := qn_lt hq hj; omega)]
    · have := qn_lt hq (show i < n by omega)
      rw [if_neg (by omega)]
      exact sw_at hq n (fun j hj => hb j (by omega)) i (by omega)
theorem sw_rg {h : Int32} {f t : Nat} (hft : f ≤ t) (ht : t < 65536) (W : Nat → Int64) : sw h W f 1 (t - f + 1) = rg h f t W := by
  refine row_eq (fun l => ?_)
  rw [rg_bit h (by omega)]
  by_cases e : f ≤ l ∧ l ≤ t
  · rw [if_pos e]
    have := sw_at (h := h) (W := W) (f := f) (q := 1) (Nat.le_refl _) (t - f + 1) (fun i hi => by omega) (l - f) (by omega)
    rw [show f + 1 * (l - f) = l by omega] at this
    exact this
  · rw [if_neg e]
    exact sw_hi (Nat.le_refl _) _ (fun i hi => by omega) l (fun i hi => by omega)
theorem sw_st {f q : Nat} (W : Nat → Int64) : ∀ n, (∀ i, i < n → f + q * i ≤ 65535) → sw 0 W f q n = stR W f q n
  | 0, _ => rfl
  | n + 1, hb => by
    have h1 := hb n (by omega)
    show rg 0 (f + q * n) (f + q * n) (sw 0 W f q n) = orb (stR W f q n) (f + q * n)
    rw [sw_st W n (fun i hi => hb i (by omega))]
    refine row_eq (fun l => ?_)
    rw [rg1_bit 0 (by omega), orb_bit _ (by omega)]
    rfl
/-- whether bits have changed, of those below a place -/
def FlB (ch : Int32) (W R : Nat → Int64) (L : Nat) : Prop := (ch = 0 ∧ ∀ l, l < 65536 → cb R 0 l = cb W 0 l) ∨ (ch = 1 ∧ ∃ l, l < 65536 ∧ l < L ∧ cb R 0 l ≠ cb W 0 l)
theorem FlB.skip {ch h : Int32} {W : Nat → Int64} {f q n : Nat} (hq : 1 ≤ q) (hb : f + q * n < 65536) (h1 : FlB ch W (sw h W f q n) (f + q * n)) (e : bH h (cb (sw h W f q n) 0 (f + q * n)) = cb (sw h W f q n) 0 (f + q * n)) : FlB ch W (sw h W f q (n + 1)) (f + q * (n + 1)) := by
  have hm : q * (n + 1) = q * n + q := Nat.mul_succ q n
  have hs : ∀ l, cb (sw h W f q (n + 1)) 0 l = cb (sw h W f q n) 0 l := by
    intro l
    rw [sw_bit hb]
    by_cases q : l = f + q * n
    · rw [if_pos q, q]; exact e
    · rw [if_neg q]
  rcases h1 with ⟨h2, h3⟩ | ⟨h2, l, h3, h4, h5⟩
  · exact Or.inl ⟨h2, fun l hl => (hs l).trans (h3 l hl)⟩
  · exact Or.inr ⟨h2, l, h3, by omega, by rw [hs]; exact h5⟩
theorem FlB.flip {h : Int32} {W : Nat → Int64} {f q n : Nat} (hq : 1 ≤ q) (hB : ∀ i, i < n → f + q * i < 65536) (hb : f + q * n < 65536) (e : bH h (cb (sw h W f q n) 0 (f + q * n)) ≠ cb (sw h W f q n) 0 (f + q * n)) : FlB 1 W (sw h W f q (n + 1)) (f + q * (n + 1)) := by
  have hm : q * (n + 1) = q * n + q := Nat.mul_succ q n
  refine Or.inr ⟨rfl, f + q * n, hb, by omega, ?_⟩
  rw [sw_bit hb, if_pos rfl]
  rw [sw_hi hq n hB _ (fun i hi => by have := qn_lt hq hi; omega)] at e ⊢
  exact e
theorem Ms.cg {E : C5} {s j k : Nat} {V : Sv} {d : Int32} {W W2 : Nat → Int64} (h : Ms E s (V.put j (k, d, W))) (e : ∀ i, i < 1024 → W i = W2 i) : Ms E s (V.put j (k, d, W2)) := by
  refine ⟨h.1, h.2.1, fun i hi => ?_⟩
  have := h.2.2 i hi
  have e2 : (V.put j (k, d, W)).2 i = if i = j then (k, d, W) else V.2 i := rfl
  show Mc E (6 * s + i) (if i = j then (k, d, W2) else V.2 i)
  rw [e2] at this
  by_cases q : i = j
  · rw [if_pos q] at this ⊢; exact this.congr rfl rfl e
  · rw [if_neg q] at this ⊢; exact this
theorem put_self {V : Sv} {j : Nat} : V.put j ((V.2 j).1, (V.2 j).2.1, (V.2 j).2.2) = V := by
  refine sv_ext rfl (fun k => ?_)
  show (if k = j then V.2 j else V.2 k) = V.2 k
  by_cases q : k = j
  · rw [if_pos q, q]
  · rw [if_neg q]
theorem bH_h2 {h : Int32} (e : h = 2) (y : Nat) (hy : y ≤ 1) : bH h y ≠ y := by
  subst e
  show 1 - y ≠ y
  omega
theorem bH_le (h : Int32) (y : Nat) (hy : y ≤ 1) : bH h y ≤ 1 := by
  unfold bH
  by_cases e : h = 0
  · rw [if_pos e]; omega
  · rw [if_neg e]
    by_cases e2 : h = 1
    · rw [if_pos e2]; omega
    · rw [if_neg e2]; omega
theorem bH_n1 {h : Int32} (hh : h = 0 ∨ h = 1 ∨ h = 2) (h1 : ¬ h = 1) : bH h 0 = 1 := by
  rcases hh with rfl | rfl | rfl
  · rfl
  · exact absurd rfl h1
  · rfl
theorem sk_0 {h : Int32} {y : Nat} (hh : h = 0 ∨ h = 1 ∨ h = 2) (h2 : ¬ h = 2) (h1 : ¬ h = 1) (hy : y ≤ 1) (e : ¬ nI y = 0) : bH h y = y := by
  rcases hh with rfl | rfl | rfl
  · have : ¬ y = 0 := fun q => e (by rw [q]; rfl)
    show 1 = y
    omega
  · exact absurd rfl h1
  · exact absurd rfl h2
theorem sk_1 {h : Int32} {y : Nat} (h1 : h = 1) (hy : y ≤ 1) (e : ¬ nI y = 1) : bH h y = y := by
  subst h1
  have : ¬ y = 1 := fun q => e (by rw [q]; rfl)
  show 0 = y
  omega
theorem fp_0 {h : Int32} {y : Nat} (hh : h = 0 ∨ h = 1 ∨ h = 2) (h2 : ¬ h = 2) (h1 : ¬ h = 1) (hy : y ≤ 1) (e : nI y = 0) : bH h y ≠ y := by
  have : y = 0 := nI_z (by omega) e
  subst this
  rw [bH_n1 hh h1]
  decide
theorem fp_1 {h : Int32} {y : Nat} (h1 : h = 1) (hy : y ≤ 1) (e : nI y = 1) : bH h y ≠ y := by
  subst h1
  have : y = 1 := (nI_eq (b := 1) (by omega) (by decide)).mp e
  subst this
  decide
theorem sw_ne {h : Int32} {W : Nat → Int64} {f q N : Nat} (h1 : FlB 1 W (sw h W f q N) (f + q * N)) : ∃ j, j < 1024 ∧ sw h W f q N j ≠ W j := by
  rcases h1 with ⟨e, -⟩ | ⟨-, l, hl, -, hne⟩
  · exact absurd e (by decide)
  · refine ⟨l / 64, by omega, fun q => hne ?_⟩
    rw [cbz, cbz, q]
theorem sw_old {V : Sv} {j key f q N : Nat} {h : Int32} (hj : j < V.1) (hk : (V.2 j).1 = key) : ((FlB 0 (V.2 j).2.2 (sw h (V.2 j).2.2 f q N) (f + q * N) → ∃ r0, ¬ r0 = -3 ∧ Chg V key (h = 1) (fun W => sw h W f q N) r0 V) ∧ (FlB 1 (V.2 j).2.2 (sw h (V.2 j).2.2 f q N) (f + q * N) → ∃ r0, ¬ r0 = -3 ∧ Chg V key (h = 1) (fun W => sw h W f q N) r0 (if 0 < tot (sw h (V.2 j).2.2 f q N) then V.put j ((V.2 j).1, plK (nI (tot (sw h (V.2 j).2.2 f q N))), sw h (V.2 j).2.2 f q N) else V.del j))) := by
  refine ⟨fun h0 => ⟨0, by decide, Or.inl ⟨j, hj, hk, Or.inl ⟨rfl, rfl, ?_⟩⟩⟩, fun h1 => ⟨1, by decide, Or.inl ⟨j, hj, hk, Or.inr ⟨rfl, sw_ne h1, chg_if hk⟩⟩⟩⟩
  rcases h0 with ⟨-, e⟩ | ⟨e, -⟩
  · exact row_ext e
  · exact absurd e (by decide)
theorem sw_new {V : Sv} {j key f q N : Nat} {h : Int32} (hix : IsIx V key j) (hno : j < V.1 → (V.2 j).1 ≠ key) (h1 : ¬ h = 1) (h6 : V.1 < 6) (hpos : 0 < tot (sw h zW f q N)) : ((FlB 0 zW (sw h zW f q N) (f + q * N) → ∃ r0, ¬ r0 = -3 ∧ Chg V key (h = 1) (fun W => sw h W f q N) r0 (V.ins j (key, 0, zW))) ∧ (FlB 1 zW (sw h zW f q N) (f + q * N) → ∃ r0, ¬ r0 = -3 ∧ Chg V key (h = 1) (fun W => sw h W f q N) r0 (if 0 < tot (sw h zW f q N) then (V.ins j (key, 0, zW)).put j (key, plK (nI (tot (sw h zW f q N))), sw h zW f q N) else (V.ins j (key, 0, zW)).del j))) := by
  refine ⟨fun h0 => ?_, fun _ => ⟨1, by decide, Or.inr ⟨j, hix, hno, Or.inr (Or.inr ⟨h1, h6, rfl, hpos, by rw [if_pos hpos, ins_put]⟩)⟩⟩⟩
  rcases h0 with ⟨-, e⟩ | ⟨e, -⟩
  · rw [tot_congr (row_ext e), tot_zW] at hpos
    exact absurd hpos (Nat.lt_irrefl _)
  · exact absurd e (by decide)

set_option maxRecDepth 100000 in
set_option maxHeartbeats 2000000 in
/-- numbers are put in, taken out, turned -/
theorem f_X7_sweep (l : Launch) (D : va_G) (cy : Nat → ClassId) (nw : Nat) (A : Nat → Nat) (x : Nat) (ho : mOk A x) (C : C5) (R : MR) (V : Nat → Sv) (hM : MV C V) (hV : ∀ s, s < 8 → Vok (V s)) (s : Nat) (hs : s < 8) (key : Nat) (hkey : key < 65536) (f t q N : Nat) (hf : f < 65536) (ht : t < 65536) (hft : f ≤ t) (hq : 1 ≤ q) (hq2 : q < 65536) (hN : t < f + q * N) (hN2 : ∀ i, i < N → f + q * i ≤ t) (h : Int32) (hh : h = 0 ∨ h = 1 ∨ h = 2) : kI l yX7_sweep wsX7_sweep 2 48 D cy nw [.ref x, .int (nI s), .int (nI key), .int (nI f), .int (nI t), .int (nI q), .int h] (mP A x (C, R)) (fun r T => ∃ W2 r0 E, mP A x (E, R) = T ∧ Chg (V s) key (h = 1) (fun W => sw h W f q N) r0 W2 ∧ r = (if r0 = -3 then -3 else nI (sT W2 W2.1)) ∧ MV E (va_up V s W2)) 0 0 := by
  refine enterI (cc := cX7_sweep) (nL := 11) (ret := (some .int)) (by decide +kernel) rfl (Nat.le_of_ble_eq_true rfl) ?_
  intro F Z hl hR hD hcy hnw hnm
  subst hl hD hcy hnw
  have hRf : F.R.frames = 2 := by rw [hR]
  have hRc : F.R.cells = 0 := by rw [hR]
  have hRs : F.R.slots = 0 := by rw [hR]
  have hRl : F.R.locals = 48 := by rw [hR]
  have in6 : ∀ w ∈ u_ws RX7 TX7 16, w ∈ wsX7_sweep := by decide +kernel
  have lk7 : Cond.fieldLink RX7 7 (TX7 0).1 (TX7 0).2.1 (TX7 0).2.2.1 ∈ wsX7_sweep := by decide +kernel
  have lk19 : Cond.fieldLink RX7 19 (TX7 3).1 (TX7 3).2.1 (TX7 3).2.2.1 ∈ wsX7_sweep := by decide +kernel
  have hBi : ∀ i, i < N → f + q * i < 65536 := fun i hi => by have := hN2 i hi; omega
  have hN1 : 0 < N := by
    rcases Nat.eq_zero_or_pos N with e | e
    · rw [e] at hN; omega
    · exact e
  have done : ∀ (D : C5) (W2 : Sv) (r0 : Int32), Me s C D → Ms D s W2 → Chg (V s) key (h = 1) (fun W => sw h W f q N) r0 W2 → ¬ r0 = -3 → G F 11 (mP A x (D, R)) 0 0 (QI F (fun r T => ∃ W2 r0 E, mP A x (E, R) = T ∧ Chg (V s) key (h = 1) (fun W => sw h W f q N) r0 W2 ∧ r = (if r0 = -3 then -3 else nI (sT W2 W2.1)) ∧ MV E (va_up V s W2)) 0 0) 163 [(0, .ref x), (1, .int (nI s))] [] := by
    intro D W2 r0 hS2 hW2 hch hr0
    refine g_aload_n Z dX7_sweep_163 rfl ?_
    refine g_iload_n Z dX7_sweep_164 rfl ?_
    refine g_cvI Z (f_X7_all F.l F.D F.cy F.nw A x ho _ _ s (by omega) W2 hW2) 1 gX7_sweep_X7_all rfl (by decide +kernel) (by rw [hRf, hRl]; decide) (by exact mP_x) (κ := 6) (by exact mP_Kx) rfl (by decide) rfl rfl (Nat.le_of_ble_eq_true rfl) dX7_sweep_165 (by rw [hRc, hRs]; omega) (fun r T hp => ?_)
    obtain ⟨rfl, rfl⟩ := hp
    exact g_iret Z dX7_sweep_168 (by omega) (by omega) (⟨W2, r0, D, rfl, hch, by rw [if_neg hr0], hM.one hS2 hW2⟩)
  have loop : ∀ (n j : Nat) (V1 : Sv), V1.1 ≤ 6 → j < V1.1 → ((FlB 0 (V1.2 j).2.2 (sw h (V1.2 j).2.2 f q N) (f + q * N) → ∃ r0, ¬ r0 = -3 ∧ Chg (V s) key (h = 1) (fun W => sw h W f q N) r0 V1) ∧ (FlB 1 (V1.2 j).2.2 (sw h (V1.2 j).2.2 f q N) (f + q * N) → ∃ r0, ¬ r0 = -3 ∧ Chg (V s) key (h = 1) (fun W => sw h W f q N) r0 (if 0 < tot (sw h (V1.2 j).2.2 f q N) then V1.put j ((V1.2 j).1, plK (nI (tot (sw h (V1.2 j).2.2 f q N))), sw h (V1.2 j).2.2 f q N) else V1.del j))) → ∀ (k : Nat) (E : C5) (ch : Int32), N - k < n → (k ≤ N ∧ Me s C E ∧ Ms E s (V1.put j ((V1.2 j).1, (V1.2 j).2.1, (sw h (V1.2 j).2.2 f q k))) ∧ FlB ch (V1.2 j).2.2 (sw h (V1.2 j).2.2 f q k) (f + q * k)) → G F 11 (mP A x (E, R)) 0 0 (QI F (fun r T => ∃ W2 r0 E, mP A x (E, R) = T ∧ Chg (V s) key (h = 1) (fun W => sw h W f q N) r0 W2 ∧ r = (if r0 = -3 then -3 else nI (sT W2 W2.1)) ∧ MV E (va_up V s W2)) 0 0) 71 [(0, .ref x), (1, .int (nI s)), (4, .int (nI t)), (5, .int (nI q)), (6, .int h), (7, .int (nI (6 * s + j))), (8, .int ch), (9, .int (nI (f + q * k)))] [] := by
    intro n j V1 hn1 hj ⟨hf0, hf1⟩
    induction n with
    | zero => intros; omega
    | succ n ih =>
      intro k E ch hn ⟨hk, hS, hE, hfl⟩
      have hbd : f + q * k < 2 ^ 31 := by
        rcases Nat.eq_zero_or_pos k with e | e
        · rw [e]; omega
        · have h1 := hBi (k - 1) (by omega)
          have h2 : q * k = q * (k - 1) + q := by
            conv => lhs; rw [show k = (k - 1) + 1 by omega]
            exact Nat.mul_succ q (k - 1)
          omega
      have hmc : Mc E (6 * s + j) ((V1.2 j).1, (V1.2 j).2.1, (sw h (V1.2 j).2.2 f q k)) := by have := hE.mc (i := j) hj; rw [pt_at] at this; exact this
      have next : ∀ (D : C5) (ch2 y : Int32), k < N → Me s C D → Ms D s (V1.put j ((V1.2 j).1, (V1.2 j).2.1, (sw h (V1.2 j).2.2 f q (k + 1)))) → FlB ch2 (V1.2 j).2.2 (sw h (V1.2 j).2.2 f q (k + 1)) (f + q * (k + 1)) → G F 11 (mP A x (D, R)) 0 0 (QI F (fun r T => ∃ W2 r0 E, mP A x (E, R) = T ∧ Chg (V s) key (h = 1) (fun W => sw h W f q N) r0 W2 ∧ r = (if r0 = -3 then -3 else nI (sT W2 W2.1)) ∧ MV E (va_up V s W2)) 0 0) 141 [(0, .ref x), (1, .int (nI s)), (4, .int (nI t)), (5, .int (nI q)), (6, .int h), (7, .int (nI (6 * s + j))), (8, .int ch2), (9, .int (nI (f + q * k))), (10, .int y)] [] := by
        intro D ch2 y hkN hS2 hE2 hfl2
        refine g_iload Z dX7_sweep_141 rfl ?_
        refine g_iload Z dX7_sweep_143 rfl ?_
        refine g_iadd Z dX7_sweep_145 ?_
        rw [nI_add, show f + q * k + q = f + q * (k + 1) by rw [Nat.mul_succ]; omega]
        refine g_istore Z dX7_sweep_146 (by decide) ?_
        refine g_goto Z 71 dX7_sweep_148 (by decide) ?_
        exact g_lv (by (repeat (first | exact trivial | refine And.intro rfl ?_)); done) (ih (k + 1) D ch2 (by omega) ⟨by omega, hS2, hE2, hfl2⟩)
      have flip : k < N → bH h (cb (sw h (V1.2 j).2.2 f q k) 0 (f + q * k)) ≠ cb (sw h (V1.2 j).2.2 f q k) 0 (f + q * k) → G F 11 (mP A x (E, R)) 0 0 (QI F (fun r T => ∃ W2 r0 E, mP A x (E, R) = T ∧ Chg (V s) key (h = 1) (fun W => sw h W f q N) r0 W2 ∧ r = (if r0 = -3 then -3 else nI (sT W2 W2.1)) ∧ MV E (va_up V s W2)) 0 0) 110 [(0, .ref x), (1, .int (nI s)), (4, .int (nI t)), (5, .int (nI q)), (6, .int h), (7, .int (nI (6 * s + j))), (8, .int ch), (9, .int (nI (f + q * k))), (10, .int (nI (cb E.wd (6 * s + j) (f + q * k))))] [] := by
        intro hkN hne
        have hb := hBi k hkN
        have hbt := hmc.2.2.2 _ hb
        have hbits : ∀ l, l < 65536 → cb (sw h (V1.2 j).2.2 f q (k + 1)) 0 l = if l = f + q * k then 1 - cb (sw h (V1.2 j).2.2 f q k) 0 (f + q * k) else cb (sw h (V1.2 j).2.2 f q k) 0 l := fun l _ => by
          rw [sw_bit hb]
          by_cases e : l = f + q * k
          · rw [if_pos e, if_pos e]
            have h1 := cb_le (sw h (V1.2 j).2.2 f q k) 0 (f + q * k)
            have h2 : bH h (cb (sw h (V1.2 j).2.2 f q k) 0 (f + q * k)) ≤ 1 := bH_le _ _ h1
            omega
          · rw [if_neg e, if_neg e]
        have hfl2 : FlB 1 (V1.2 j).2.2 (sw h (V1.2 j).2.2 f q (k + 1)) (f + q * (k + 1)) := FlB.flip hq (fun i hi => hBi i (by omega)) hb hne
        refine g_aload_n Z dX7_sweep_110 rfl ?_
        refine g_iload Z dX7_sweep_111 rfl ?_
        refine g_iload Z dX7_sweep_113 rfl ?_
        refine g_cvV Z (c_X7_turn F.l F.D F.cy F.nw A x ho _ _ _ _ (by omega) hb) 2 gX7_sweep_X7_turn rfl (by decide +kernel) (by rw [hRf, hRl]; decide) (by exact mP_x) (κ := 6) (by exact mP_Kx) rfl (by decide) rfl rfl (Nat.le_of_ble_eq_true rfl) dX7_sweep_115 (by rw [hRc, hRs]; omega) (fun T hp => ?_)
        obtain ⟨g, rfl, hT⟩ := hp
        refine g_aload_n Z dX7_sweep_118 rfl ?_
        refine m_ref_sz Z in6 lk19 dX7_sweep_119 ?_
        refine g_iload Z dX7_sweep_122 rfl ?_
        refine g_dup2 Z dX7_sweep_124 rfl rfl ?_
        refine m_ald_sz Z ho dX7_sweep_125 (by exact vp_in_nI (by omega) (by decide)) ?_
        rw [nI_clamp (by omega)]
        refine g_iload Z dX7_sweep_126 rfl ?_
        refine g_if_eq Z 135 dX7_sweep_128 (by decide) (fun h128 => ?_) (fun h128 => ?_)
        · obtain ⟨g1, g2⟩ := mc_turn hT hb hmc (Or.inl ⟨cb0 h128, rfl⟩) hbits
          have hms := hE.put hj g2 g1
          rw [put_put] at hms
          refine g_iconst (v := 1) Z dX7_sweep_135 (by decide) ?_
          refine g_iadd Z dX7_sweep_136 ?_
          refine m_ast_sz Z ho dX7_sweep_137 (by exact vp_in_nI (by omega) (by decide)) ?_
          rw [nI_clamp (by omega)]
          refine g_iconst (v := 1) Z dX7_sweep_138 (by decide) ?_
          refine g_istore Z dX7_sweep_139 (by decide) ?_
          exact g_lv (by (repeat (first | exact trivial | refine And.intro rfl ?_)); done) (next _ _ _ hkN (hS.tr (g2.me (by omega))) hms hfl2)
        · obtain ⟨g1, g2⟩ := mc_turn hT hb hmc (Or.inr ⟨cb1 h128, rfl⟩) hbits
          have hms := hE.put hj g2 g1
          rw [put_put] at hms
          refine g_iconst (v := (-1)) Z dX7_sweep_131 (by decide) ?_
          refine g_goto Z 136 dX7_sweep_132 (by decide) ?_
          refine g_iadd Z dX7_sweep_136 ?_
          refine m_ast_sz Z ho dX7_sweep_137 (by exact vp_in_nI (by omega) (by decide)) ?_
          rw [nI_clamp (by omega)]
          refine g_iconst (v := 1) Z dX7_sweep_138 (by decide) ?_
          refine g_istore Z dX7_sweep_139 (by decide) ?_
          exact g_lv (by (repeat (first | exact trivial | refine And.intro rfl ?_)); done) (next _ _ _ hkN (hS.tr (g2.me (by omega))) hms hfl2)
      have skip : ∀ y : Int32, k < N → bH h (cb (sw h (V1.2 j).2.2 f q k) 0 (f + q * k)) = cb (sw h (V1.2 j).2.2 f q k) 0 (f + q * k) → G F 11 (mP A x (E, R)) 0 0 (QI F (fun r T => ∃ W2 r0 E, mP A x (E, R) = T ∧ Chg (V s) key (h = 1) (fun W => sw h W f q N) r0 W2 ∧ r = (if r0 = -3 then -3 else nI (sT W2 W2.1)) ∧ MV E (va_up V s W2)) 0 0) 141 [(0, .ref x), (1, .int (nI s)), (4, .int (nI t)), (5, .int (nI q)), (6, .int h), (7, .int (nI (6 * s + j))), (8, .int ch), (9, .int (nI (f + q * k))), (10, .int y)] [] := by
        intro y hkN he
        have hb := hBi k hkN
        exact next E ch y hkN hS (hE.cg (fun i hi => (rgr hb he i hi).symm)) (FlB.skip hq hb hfl he)
      refine g_iload Z dX7_sweep_71 rfl ?_
      refine g_iload Z dX7_sweep_73 rfl ?_
      refine g_icmp_gt Z 151 dX7_sweep_75 (by decide) (fun h75 => ?_) (fun h75 => ?_)
      · have hgt : t < f + q * k := by have := (nI_ltI (a := t) (b := f + q * k) (by omega) (by omega)).mp h75; exact this
        have hke : k = N := Nat.le_antisymm hk (Nat.le_of_not_lt (fun q2 => by have := hN2 k q2; omega))
        subst hke
        refine g_iload Z dX7_sweep_151 rfl ?_
        refine g_if_eq Z 163 dX7_sweep_153 (by decide) (fun h153 => ?_) (fun h153 => ?_)
        · have hc0 : ch = 0 := h153
          subst hc0
          obtain ⟨r0, hr0, hch⟩ := hf0 hfl
          have hsame : Ms E s V1 := by
            rcases hfl with ⟨-, hs0⟩ | ⟨hc, -⟩
            · have := hE.cg (W2 := (V1.2 j).2.2) (row_ext hs0)
              rw [put_self] at this
              exact this
            · exact absurd hc (by decide)
          first | exact g_lv (by (repeat (first | exact trivial | refine And.intro rfl ?_)); done) (done E V1 r0 hS hsame hch hr0) | exact g_lv (by (repeat (first | exact trivial | refine And.intro rfl ?_)); done) (done E3 _ r0 (hS.tr k1) k2 hch hr0)
        · have hc1 : ch = 1 := by
            rcases hfl with ⟨e, -⟩ | ⟨e, -⟩
            · exact absurd e h153
            · exact e
          subst hc1
          obtain ⟨r0, hr0, hch⟩ := hf1 hfl
          refine g_aload_n Z dX7_sweep_156 rfl ?_
          refine g_iload_n Z dX7_sweep_157 rfl ?_
          refine g_iload Z dX7_sweep_158 rfl ?_
          refine g_cvV Z (f_X7_changed F.l F.D F.cy F.nw A x ho _ _ s (by omega) _ hE j hj) 2 gX7_sweep_X7_changed rfl (by decide +kernel) (by rw [hRf, hRl]; decide) (by exact mP_x) (κ := 6) (by exact mP_Kx) rfl (by decide) rfl rfl (Nat.le_of_ble_eq_true rfl) dX7_sweep_160 (by rw [hRc, hRs]; omega) (fun T hp => ?_)
          obtain ⟨E3, rfl, k1, k2, -⟩ := hp
          rw [pt_at, put_put, put_del] at k2
          first | exact g_lv (by (repeat (first | exact trivial | refine And.intro rfl ?_)); done) (done E V1 r0 hS hsame hch hr0) | exact g_lv (by (repeat (first | exact trivial | refine And.intro rfl ?_)); done) (done E3 _ r0 (hS.tr k1) k2 hch hr0)
      · have hbt : f + q * k ≤ t := gt_f (by omega) (by omega) h75
        have hkN : k < N := Nat.lt_of_le_of_ne hk (fun e => by rw [e] at hbt; omega)
        have hb := hBi k hkN
        have hbit := hmc.2.2.2 _ hb
        have hb1 := cb_le (sw h (V1.2 j).2.2 f q k) 0 (f + q * k)
        refine g_aload_n Z dX7_sweep_78 rfl ?_
        refine g_iload Z dX7_sweep_79 rfl ?_
        refine g_iload Z dX7_sweep_81 rfl ?_
        refine g_cvI Z (c_X7_hasLow F.l F.D F.cy F.nw A x ho _ _ _ _ (by omega) hb) 2 gX7_sweep_X7_hasLow rfl (by decide +kernel) (by rw [hRf, hRl]; decide) (by exact mP_x) (κ := 6) (by exact mP_Kx) rfl (by decide) rfl rfl (Nat.le_of_ble_eq_true rfl) dX7_sweep_83 (by rw [hRc, hRs]; omega) (fun r T hp => ?_)
        obtain ⟨rfl, rfl⟩ := hp
        refine g_istore Z dX7_sweep_86 (by decide) ?_
        refine g_iload Z dX7_sweep_88 rfl ?_
        refine g_iconst (v := 2) Z dX7_sweep_90 (by decide) ?_
        refine g_icmp_eq Z 110 dX7_sweep_91 (by decide) (fun h91 => ?_) (fun h91 => ?_)
        · have hfp : bH h (cb (sw h (V1.2 j).2.2 f q k) 0 (f + q * k)) ≠ cb (sw h (V1.2 j).2.2 f q k) 0 (f + q * k) := bH_h2 h91 _ hb1
          exact g_lv (by (repeat (first | exact trivial | refine And.intro rfl ?_)); done) (flip hkN hfp)
        · refine g_iload Z dX7_sweep_94 rfl ?_
          refine g_iload Z dX7_sweep_96 rfl ?_
          refine g_iconst (v := 1) Z dX7_sweep_98 (by decide) ?_
          refine g_icmp_ne Z 106 dX7_sweep_99 (by decide) (fun h99 => ?_) (fun h99 => ?_)
          · refine g_iconst (v := 0) Z dX7_sweep_106 (by decide) ?_
            refine g_icmp_ne Z 141 dX7_sweep_107 (by decide) (fun h107 => ?_) (fun h107 => ?_)
            · have hsk : bH h (cb (sw h (V1.2 j).2.2 f q k) 0 (f + q * k)) = cb (sw h (V1.2 j).2.2 f q k) 0 (f + q * k) := by
                rw [← hbit] at hb1 ⊢
                first | exact sk_0 hh h91 h99 hb1 h107 | exact sk_1 h99 hb1 h107
              exact g_lv (by (repeat (first | exact trivial | refine And.intro rfl ?_)); done) (skip _ hkN hsk)
            · have hfp : bH h (cb (sw h (V1.2 j).2.2 f q k) 0 (f + q * k)) ≠ cb (sw h (V1.2 j).2.2 f q k) 0 (f + q * k) := by
                rw [← hbit] at hb1 ⊢
                first | exact fp_0 hh h91 h99 hb1 h107 | exact fp_1 h99 hb1 h107
              exact g_lv (by (repeat (first | exact trivial | refine And.intro rfl ?_)); done) (flip hkN hfp)
          · refine g_iconst (v := 1) Z dX7_sweep_102 (by decide) ?_
            refine g_goto Z 107 dX7_sweep_103 (by decide) ?_
            refine g_icmp_ne Z 141 dX7_sweep_107 (by decide) (fun h107 => ?_) (fun h107 => ?_)
            · have hsk : bH h (cb (sw h (V1.2 j).2.2 f q k) 0 (f + q * k)) = cb (sw h (V1.2 j).2.2 f q k) 0 (f + q * k) := by
                rw [← hbit] at hb1 ⊢
                first | exact sk_0 hh h91 h99 hb1 h107 | exact sk_1 h99 hb1 h107
              exact g_lv (by (repeat (first | exact trivial | refine And.intro rfl ?_)); done) (skip _ hkN hsk)
            · have hfp : bH h (cb (sw h (V1.2 j).2.2 f q k) 0 (f + q * k)) ≠ cb (sw h (V1.2 j).2.2 f q k) 0 (f + q * k) := by
                rw [← hbit] at hb1 ⊢
                first | exact fp_0 hh h91 h99 hb1 h107 | exact fp_1 h99 hb1 h107
              exact g_lv (by (repeat (first | exact trivial | refine And.intro rfl ?_)); done) (flip hkN hfp)
  refine g_aload_n Z dX7_sweep_0 rfl ?_
  refine g_iload_n Z dX7_sweep_1 rfl ?_
  refine g_iload_n Z dX7_sweep_2 rfl ?_
  refine g_cvI Z (f_X7_containerOf F.l F.D F.cy F.nw A x ho _ _ s (by omega) (V s) (hM s hs) (fun i hi => ((hV s hs).2.2 i hi).1) key hkey) 2 gX7_sweep_X7_containerOf rfl (by decide +kernel) (by rw [hRf, hRl]; decide) (by exact mP_x) (κ := 6) (by exact mP_Kx) rfl (by decide) rfl rfl (Nat.le_of_ble_eq_true rfl) dX7_sweep_3 (by rw [hRc, hRs]; omega) (fun r T hp => ?_)
  obtain ⟨rfl, hr⟩ := hp
  rcases hr with ⟨rfl, hno⟩ | ⟨j, hj, hkj, rfl⟩
  · obtain ⟨i0, hix0⟩ := ix_ex (V s) (hV s hs).2.1 key
    refine g_istore Z dX7_sweep_6 (by decide) ?_
    refine g_iload Z dX7_sweep_8 rfl ?_
    refine g_iconst (v := (-1)) Z dX7_sweep_10 (by decide) ?_
    refine g_icmp_ne Z 26 dX7_sweep_11 (by decide) (fun h11 => absurd (rfl) h11) (fun h11 => ?_)
    refine g_iload Z dX7_sweep_14 rfl ?_
    refine g_iconst (v := 1) Z dX7_sweep_16 (by decide) ?_
    refine g_icmp_ne Z 26 dX7_sweep_17 (by decide) (fun h17 => ?_) (fun h17 => ?_)
    · refine g_iload Z dX7_sweep_26 rfl ?_
      refine g_iconst (v := (-1)) Z dX7_sweep_28 (by decide) ?_
      refine g_icmp_ne Z 46 dX7_sweep_29 (by decide) (fun h29 => absurd (rfl) h29) (fun h29 => ?_)
      refine g_aload_n Z dX7_sweep_32 rfl ?_
      refine m_ref_mn Z in6 lk7 dX7_sweep_33 ?_
      refine g_iload_n Z dX7_sweep_36 rfl ?_
      refine m_ald_mn Z ho dX7_sweep_37 (by exact vp_in_nI (by omega) (by decide)) ?_
      rw [nI_clamp (by omega), (hM s hs).2.1]
      refine g_bipush (v := 6) Z dX7_sweep_38 (by decide) ?_
      refine g_icmp_ne Z 46 dX7_sweep_40 (by decide) (fun h40 => ?_) (fun h40 => ?_)
      · have hn6 : ¬ (V s).1 = 6 := fun e => h40 (by rw [e]; rfl)
        have hn7 := (hM s hs).1
        refine g_iload Z dX7_sweep_46 rfl ?_
        refine g_iconst (v := (-1)) Z dX7_sweep_48 (by decide) ?_
        refine g_icmp_ne Z 61 dX7_sweep_49 (by decide) (fun h49 => absurd (rfl) h49) (fun h49 => ?_)
        refine g_aload_n Z dX7_sweep_52 rfl ?_
        refine g_iload_n Z dX7_sweep_53 rfl ?_
        refine g_iload_n Z dX7_sweep_54 rfl ?_
        refine g_cvI Z (f_X7_made F.l F.D F.cy F.nw A x ho _ _ s (by omega) (V s) (hM s hs) (fun i hi => ((hV s hs).2.2 i hi).1) (hV s hs).2.1 (by omega) key hkey hno) 2 gX7_sweep_X7_made rfl (by decide +kernel) (by rw [hRf, hRl]; decide) (by exact mP_x) (κ := 6) (by exact mP_Kx) rfl (by decide) rfl rfl (Nat.le_of_ble_eq_true rfl) dX7_sweep_55 (by rw [hRc, hRs]; omega) (fun r T hp => ?_)
        obtain ⟨E, j, rfl, rfl, hix, hS, hms⟩ := hp
        have hj1 := hix.1
        have hpos : 0 < tot (sw h zW f q N) := tot_pos (l := f) hf (by have := sw_at (h := h) (W := zW) (f := f) hq N hBi 0 hN1; rw [Nat.mul_zero, Nat.add_zero, zW_bit] at this; rw [this]; exact bH_n1 hh h17)
        refine g_goto Z 63 dX7_sweep_58 (by decide) ?_
        refine g_istore Z dX7_sweep_63 (by decide) ?_
        refine g_iconst (v := 0) Z dX7_sweep_65 (by decide) ?_
        refine g_istore Z dX7_sweep_66 (by decide) ?_
        refine g_iload_n Z dX7_sweep_68 rfl ?_
        refine g_istore Z dX7_sweep_69 (by decide) ?_
        exact g_lv (by (repeat (first | exact trivial | refine And.intro rfl ?_)); done) (loop (N + 1) j ((V s).ins j (key, 0, zW)) (by show (V s).1 + 1 ≤ 6; omega) (by show j < (V s).1 + 1; omega) (by rw [in_at]; exact sw_new hix (fun hi => hno j hi) h17 (by omega) hpos) 0 E _ (by omega) ⟨by omega, hS, by rw [in_at]; rw [ins_put]; exact hms, Or.inl ⟨rfl, fun _ _ => rfl⟩⟩)
      · have hn6 : (V s).1 = 6 := (nI_eq (b := 6) (by have := (hM s hs).1; omega) (by decide)).mp h40
        refine g_bipush (v := (-3)) Z dX7_sweep_43 (by decide) ?_
        exact g_iret Z dX7_sweep_45 (by omega) (by omega) (⟨V s, -3, C, rfl, Or.inr ⟨i0, hix0, fun hi => hno i0 hi, Or.inr (Or.inl ⟨h17, by omega, rfl, rfl⟩)⟩, by rw [if_pos rfl], by rw [self_up]; exact hM⟩)
    · have hh1 : h = 1 := h17
      refine g_aload_n Z dX7_sweep_20 rfl ?_
      refine g_iload_n Z dX7_sweep_21 rfl ?_
      refine g_cvI Z (f_X7_all F.l F.D F.cy F.nw A x ho _ _ s (by omega) (V s) (hM s hs)) 1 gX7_sweep_X7_all rfl (by decide +kernel) (by rw [hRf, hRl]; decide) (by exact mP_x) (κ := 6) (by exact mP_Kx) rfl (by decide) rfl rfl (Nat.le_of_ble_eq_true rfl) dX7_sweep_22 (by rw [hRc, hRs]; omega) (fun r T hp => ?_)
      obtain ⟨rfl, rfl⟩ := hp
      exact g_iret Z dX7_sweep_25 (by omega) (by omega) (⟨V s, 0, C, rfl, Or.inr ⟨i0, hix0, fun hi => hno i0 hi, Or.inl ⟨h17, rfl, rfl⟩⟩, by rw [if_neg (by decide)], by rw [self_up]; exact hM⟩)
  · refine g_istore Z dX7_sweep_6 (by decide) ?_
    refine g_iload Z dX7_sweep_8 rfl ?_
    refine g_iconst (v := (-1)) Z dX7_sweep_10 (by decide) ?_
    refine g_icmp_ne Z 26 dX7_sweep_11 (by decide) (fun h11 => ?_) (fun h11 => absurd h11 (nI_nm1 (by have := (hM s hs).1; omega)))
    refine g_iload Z dX7_sweep_26 rfl ?_
    refine g_iconst (v := (-1)) Z dX7_sweep_28 (by decide) ?_
    refine g_icmp_ne Z 46 dX7_sweep_29 (by decide) (fun h29 => ?_) (fun h29 => absurd h29 (nI_nm1 (by have := (hM s hs).1; omega)))
    refine g_iload Z dX7_sweep_46 rfl ?_
    refine g_iconst (v := (-1)) Z dX7_sweep_48 (by decide) ?_
    refine g_icmp_ne Z 61 dX7_sweep_49 (by decide) (fun h49 => ?_) (fun h49 => absurd h49 (nI_nm1 (by have := (hM s hs).1; omega)))
    refine g_iload Z dX7_sweep_61 rfl ?_
    refine g_istore Z dX7_sweep_63 (by decide) ?_
    refine g_iconst (v := 0) Z dX7_sweep_65 (by decide) ?_
    refine g_istore Z dX7_sweep_66 (by decide) ?_
    refine g_iload_n Z dX7_sweep_68 rfl ?_
    refine g_istore Z dX7_sweep_69 (by decide) ?_
    exact g_lv (by (repeat (first | exact trivial | refine And.intro rfl ?_)); done) (loop (N + 1) j (V s) (hM s hs).1 hj (sw_old hj hkj) 0 C _ (by omega) ⟨by omega, Me.rf, by show Ms C s ((V s).put j (((V s).2 j).1, ((V s).2 j).2.1, ((V s).2 j).2.2)); rw [put_self]; exact hM s hs, Or.inl ⟨rfl, fun _ _ => rfl⟩⟩)
