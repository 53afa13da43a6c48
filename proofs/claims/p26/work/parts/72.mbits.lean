/-! BITS of containers -/
def wv (w : Int64) : Nat := w.toBitVec.toNat
theorem wv_lt (w : Int64) : wv w < 2 ^ 64 := w.toBitVec.isLt
theorem wv_lN {n : Nat} (h : n < 2 ^ 64) : wv (lN n) = n := wb_tn h
theorem lN_wv (w : Int64) : lN (wv w) = w := wb_inj (by rw [wb_tb]; unfold wv; simp)
def pN (n : Nat) : Nat → Nat
  | 0 => 0
  | k + 1 => pN n k + n / 2 ^ k % 2
def pc (w : Int64) : Nat := pN (wv w) 64
theorem pN_le (n : Nat) : ∀ k, pN n k ≤ k
  | 0 => Nat.le_refl _
  | k + 1 => by have := pN_le n k; show pN n k + n / 2 ^ k % 2 ≤ _; omega
theorem pc_le (w : Int64) : pc w ≤ 64 := pN_le _ _
theorem pN_low (n : Nat) : ∀ k, pN n (k + 1) = n % 2 + pN (n / 2) k
  | 0 => by show 0 + n / 2 ^ 0 % 2 = _; simp [pN]
  | k + 1 => by
    have h := pN_low n k
    show pN n (k + 1) + n / 2 ^ (k + 1) % 2 = n % 2 + (pN (n / 2) k + n / 2 / 2 ^ k % 2)
    rw [h, Nat.div_div_eq_div_mul, show 2 * 2 ^ k = 2 ^ (k + 1) from by rw [Nat.pow_succ, Nat.mul_comm]]
    omega
theorem pN_step : ∀ (k n : Nat), 0 < n → n < 2 ^ k → pN (n &&& (n - 1)) k + 1 = pN n k
  | 0, n, h0, h => by simp at h; omega
  | k + 1, n, h0, h => by
    rw [pN_low, pN_low, Nat.and_div_two]
    have hm : (n &&& (n - 1)) % 2 = (n % 2) &&& ((n - 1) % 2) := by
      have := Nat.and_mod_two_pow (a := n) (b := n - 1) (n := 1)
      simpa using this
    rw [hm]
    rcases Nat.mod_two_eq_zero_or_one n with e | e
    · have e2 : (n - 1) / 2 = n / 2 - 1 := by omega
      have e3 : (n - 1) % 2 = 1 := by omega
      rw [e, e3, e2]
      have := pN_step k (n / 2) (by omega) (by rw [Nat.pow_succ] at h; omega)
      simp only [Nat.zero_and]
      omega
    · have e2 : (n - 1) / 2 = n / 2 := by omega
      have e3 : (n - 1) % 2 = 0 := by omega
      rw [e, e3, e2, Nat.and_self]
      simp only [Nat.and_zero]
      omega
theorem pc_step {w : Int64} (h : ¬ w = 0) : pc (w &&& (w - 1)) + 1 = pc w := by
  obtain ⟨n, hn, rfl⟩ := wb_of w
  have h0 : 0 < n := Nat.pos_of_ne_zero fun e => h (by rw [e]; rfl)
  have e1 : lN n - 1 = lN (n - 1) := lN_sub (a := n) (b := 1) h0
  rw [e1, wb_and hn (by omega)]
  unfold pc
  rw [wv_lN hn, wv_lN (Nat.lt_of_le_of_lt Nat.and_le_left hn)]
  exact pN_step 64 n h0 hn
theorem pc_0 : pc 0 = 0 := by decide +kernel
theorem lc_eq {x y : Int64} : lg_cmp x y = 0 ↔ x = y := by
  unfold lg_cmp
  by_cases h : x > y
  · rw [if_pos h]
    exact ⟨fun q => absurd q (by decide), fun q => absurd h (by rw [q]; exact Int64.lt_irrefl)⟩
  · rw [if_neg h]
    by_cases e : x = y
    · rw [if_pos e]; exact ⟨fun _ => e, fun _ => rfl⟩
    · rw [if_neg e]; exact ⟨fun q => absurd q (by decide), fun q => absurd q e⟩
theorem lc_lt {x y : Int64} : lg_cmp x y < 0 ↔ x < y := by
  unfold lg_cmp
  by_cases h : x > y
  · rw [if_pos h]
    exact ⟨fun q => absurd q (by decide), fun q => absurd (Int64.lt_trans h q) (Int64.lt_irrefl)⟩
  · rw [if_neg h]
    by_cases e : x = y
    · rw [if_pos e]; exact ⟨fun q => absurd q (by decide), fun q => absurd q (by rw [e]; exact Int64.lt_irrefl)⟩
    · rw [if_neg e]
      refine ⟨fun _ => ?_, fun _ => by decide⟩
      have h1 : x ≤ y := Int64.not_lt.mp h
      exact Int64.lt_of_le_of_ne h1 e
theorem lc_gt {x y : Int64} : 0 < lg_cmp x y ↔ y < x := by
  unfold lg_cmp
  by_cases h : x > y
  · rw [if_pos h]; exact ⟨fun _ => h, fun _ => by decide⟩
  · rw [if_neg h]
    by_cases e : x = y
    · rw [if_pos e]; exact ⟨fun q => absurd q (by decide), fun q => absurd q h⟩
    · rw [if_neg e]; exact ⟨fun q => absurd q (by decide), fun q => absurd q h⟩
/-- bit l of container c -/
def cb (f : Nat → Int64) (c l : Nat) : Nat := wv (f (1024 * c + l / 64)) / 2 ^ (l % 64) % 2
theorem cb_le (f : Nat → Int64) (c l : Nat) : cb f c l ≤ 1 := by unfold cb; omega
/-- how many bits of container c are below l -/
def ct (f : Nat → Int64) (c : Nat) : Nat → Nat
  | 0 => 0
  | l + 1 => ct f c l + cb f c l
theorem ct_le (f : Nat → Int64) (c : Nat) : ∀ l, ct f c l ≤ l
  | 0 => Nat.le_refl _
  | l + 1 => by have := ct_le f c l; have := cb_le f c l; show ct f c l + cb f c l ≤ _; omega
theorem ct_mono (f : Nat → Int64) (c l : Nat) : ∀ k, ct f c l ≤ ct f c (l + k)
  | 0 => Nat.le_refl _
  | k + 1 => by have := ct_mono f c l k; show _ ≤ ct f c (l + k) + cb f c (l + k); omega
theorem ct_mono' (f : Nat → Int64) (c : Nat) {l k : Nat} (h : l ≤ k) : ct f c l ≤ ct f c k := by
  have := ct_mono f c l (k - l); rwa [show l + (k - l) = k by omega] at this
theorem ct_congr {f g : Nat → Int64} {c d : Nat} : ∀ l, (∀ k, k < l → cb f c k = cb g d k) → ct f c l = ct g d l
  | 0, _ => rfl
  | l + 1, h => by
    show ct f c l + cb f c l = ct g d l + cb g d l
    rw [ct_congr l (fun k hk => h k (by omega)), h l (by omega)]
theorem ct_word (f : Nat → Int64) (c w : Nat) : ∀ k, k ≤ 64 → ct f c (64 * w + k) = ct f c (64 * w) + pN (wv (f (1024 * c + w))) k
  | 0, _ => rfl
  | k + 1, h => by
    have := ct_word f c w k (by omega)
    show ct f c (64 * w + k) + cb f c (64 * w + k) = ct f c (64 * w) + (pN (wv (f (1024 * c + w))) k + wv (f (1024 * c + w)) / 2 ^ k % 2)
    rw [this]
    unfold cb
    rw [show (64 * w + k) / 64 = w by omega, show (64 * w + k) % 64 = k by omega]
    omega
theorem ct_next (f : Nat → Int64) (c w : Nat) : ct f c (64 * (w + 1)) = ct f c (64 * w) + pc (f (1024 * c + w)) := by
  have := ct_word f c w 64 (Nat.le_refl _)
  rw [show 64 * (w + 1) = 64 * w + 64 by omega]
  exact this
theorem ct_zero {f : Nat → Int64} {c : Nat} : ∀ l, (∀ k, k < l → cb f c k = 0) → ct f c l = 0
  | 0, _ => rfl
  | l + 1, h => by
    show ct f c l + cb f c l = 0
    rw [ct_zero l (fun k hk => h k (by omega)), h l (by omega)]
/-- a word of container c is written -/
theorem cb_word {f : Nat → Int64} {c w d l : Nat} {v : Int64} (hw : w < 1024) (hl : l < 65536) (h : d ≠ c ∨ l / 64 ≠ w) : cb (vp_updL f (1024 * c + w) v) d l = cb f d l := by
  unfold cb
  rw [pk_uLn (by omega)]
theorem cb_self {f : Nat → Int64} {c w l : Nat} {v : Int64} (h : l / 64 = w) : cb (vp_updL f (1024 * c + w) v) c l = wv v / 2 ^ (l % 64) % 2 := by
  unfold cb
  rw [h, pk_uLs]
/-- bit l of container c is turned, and no other -/
def Tn (f g : Nat → Int64) (c l : Nat) : Prop := cb g c l = 1 - cb f c l ∧ ∀ d k, k < 65536 → (d ≠ c ∨ k ≠ l) → cb g d k = cb f d k
theorem wv_xor (a b : Int64) : wv (a ^^^ b) = wv a ^^^ wv b := by unfold wv; simp
theorem sh1 {k : Nat} (hk : k < 64) : wv ((1 : Int64) <<< ((nI k).toInt64 &&& 63)) = 2 ^ k := by
  have := wb_shl 1 hk
  rw [show (1 : Int64) = lN 1 from rfl, this, Nat.one_mul]
  exact wv_lN (wb_lt2 hk)
theorem bit_xor (n k j : Nat) : (n ^^^ 2 ^ k) / 2 ^ j % 2 = if j = k then 1 - n / 2 ^ j % 2 else n / 2 ^ j % 2 := by
  rw [← Nat.toNat_testBit, ← Nat.toNat_testBit, Nat.testBit_xor, Nat.testBit_two_pow]
  by_cases h : j = k
  · subst h; simp; cases n.testBit j <;> rfl
  · have h' : ¬ k = j := fun e => h e.symm
    simp [h, h']
theorem tn_of (f : Nat → Int64) (c : Nat) {l : Nat} (hl : l < 65536) : Tn f (vp_updL f (1024 * c + l / 64) (f (1024 * c + l / 64) ^^^ ((1 : Int64) <<< ((nI (l % 64)).toInt64 &&& 63)))) c l := by
  have hk : l % 64 < 64 := Nat.mod_lt _ (by decide)
  refine ⟨?_, fun d k hk2 h => ?_⟩
  · rw [cb_self rfl, wv_xor, sh1 hk, bit_xor, if_pos rfl]; rfl
  · by_cases e : 1024 * d + k / 64 = 1024 * c + l / 64
    · unfold cb
      rw [e, pk_uLs, wv_xor, sh1 hk, bit_xor, if_neg (by omega)]
    · unfold cb
      rw [pk_uLn e]
theorem tn_ct {f g : Nat → Int64} {c l : Nat} (h : Tn f g c l) : ∀ n, n ≤ 65536 → ct g c n + (if l < n then cb f c l else 0) = ct f c n + (if l < n then 1 - cb f c l else 0)
  | 0, _ => by simp [ct]
  | n + 1, hn => by
    have ih := tn_ct h n (by omega)
    show ct g c n + cb g c n + _ = ct f c n + cb f c n + _
    by_cases e : n = l
    · subst e
      rw [if_neg (Nat.lt_irrefl _), if_neg (Nat.lt_irrefl _)] at ih
      rw [if_pos (by omega), if_pos (by omega), h.1]
      omega
    · rw [h.2 c n (by omega) (Or.inr e)]
      by_cases e2 : l < n
      · rw [if_pos e2, if_pos e2] at ih; rw [if_pos (by omega), if_pos (by omega)]; omega
      · rw [if_neg e2, if_neg e2] at ih; rw [if_neg (by omega), if_neg (by omega)]; omega
theorem tn_all {f g : Nat → Int64} {c l : Nat} (h : Tn f g c l) (hl : l < 65536) : ct g c 65536 + cb f c l = ct f c 65536 + (1 - cb f c l) := by
  have := tn_ct h 65536 (Nat.le_refl _)
  rwa [if_pos hl, if_pos hl] at this
/-- the bit before, and how many runs begin below l -/
def pv (f : Nat → Int64) (c : Nat) : Nat → Nat
  | 0 => 0
  | l + 1 => cb f c l
def rn (f : Nat → Int64) (c : Nat) : Nat → Nat
  | 0 => 0
  | l + 1 => rn f c l + cb f c l * (1 - pv f c l)
theorem pv_le (f : Nat → Int64) (c : Nat) : ∀ l, pv f c l ≤ 1
  | 0 => Nat.zero_le _
  | l + 1 => cb_le f c l
theorem rn_le (f : Nat → Int64) (c : Nat) : ∀ l, 2 * rn f c l ≤ l + pv f c l
  | 0 => Nat.le_refl _
  | l + 1 => by
    have h := rn_le f c l
    show 2 * (rn f c l + cb f c l * (1 - pv f c l)) ≤ l + 1 + cb f c l
    have h1 := cb_le f c l
    have h2 := pv_le f c l
    rcases (show cb f c l = 0 ∨ cb f c l = 1 by omega) with e | e <;> rcases (show pv f c l = 0 ∨ pv f c l = 1 by omega) with e2 | e2 <;> rw [e, e2] <;> rw [e2] at h <;> simp <;> omega
theorem rn_top (f : Nat → Int64) (c : Nat) : rn f c 65536 ≤ 32768 := by
  have := rn_le f c 65536; have := pv_le f c 65536; omega
/-- the word whose bits are where a run begins, the word before left aside -/
def rw1 (v : Int64) : Int64 := v &&& ((v <<< ((1 : Int32).toInt64 &&& 63)) ^^^ -1)
theorem rw1_bit (v : Int64) (k : Nat) (hk : k < 64) : wv (rw1 v) / 2 ^ k % 2 = (wv v / 2 ^ k % 2) * (1 - (if k = 0 then 0 else wv v / 2 ^ (k - 1) % 2)) := by
  have e1 : rw1 v = v &&& (lN (wv v * 2) ^^^ -1) := by
    unfold rw1
    have := wb_shl (wv v) (k := 1) (by decide)
    rw [lN_wv] at this
    rw [show ((1 : Int32).toInt64 &&& 63) = ((nI 1).toInt64 &&& 63) from rfl, this]
  have e2 : wv (rw1 v) = wv v &&& (wv v * 2 % 2 ^ 64 ^^^ (2 ^ 64 - 1)) := by
    rw [e1]
    show (v.toBitVec &&& ((lN (wv v * 2)).toBitVec ^^^ (-1 : Int64).toBitVec)).toNat = _
    rw [BitVec.toNat_and, BitVec.toNat_xor, wb_tb, BitVec.toNat_ofNat]
    rfl
  rw [e2, ← Nat.toNat_testBit, ← Nat.toNat_testBit, Nat.testBit_and, Nat.testBit_xor, Nat.testBit_two_pow_sub_one, Nat.testBit_mod_two_pow]
  have hm : (wv v * 2).testBit k = if k = 0 then false else (wv v).testBit (k - 1) := by
    cases k with
    | zero => simp
    | succ k => simp [Nat.testBit_succ]
  rw [hm]
  cases k with
  | zero => simp
  | succ k =>
    simp [hk]
    rw [← Nat.toNat_testBit]
    cases (wv v).testBit (k + 1) <;> cases (wv v).testBit k <;> rfl
theorem rn_word (f : Nat → Int64) (c w : Nat) : ∀ k, k < 64 → rn f c (64 * w + (k + 1)) + pv f c (64 * w) * (wv (f (1024 * c + w)) % 2) = rn f c (64 * w) + pN (wv (rw1 (f (1024 * c + w)))) (k + 1)
  | 0, _ => by
    show rn f c (64 * w) + cb f c (64 * w) * (1 - pv f c (64 * w)) + _ = rn f c (64 * w) + (0 + wv (rw1 (f (1024 * c + w))) / 2 ^ 0 % 2)
    rw [rw1_bit _ 0 (by decide), if_pos rfl]
    have hb : cb f c (64 * w) = wv (f (1024 * c + w)) % 2 := by unfold cb; rw [show 64 * w / 64 = w by omega, show 64 * w % 64 = 0 by omega]; simp
    rw [hb]
    have h2 := pv_le f c (64 * w)
    simp only [Nat.pow_zero, Nat.div_one]
    rcases (show pv f c (64 * w) = 0 ∨ pv f c (64 * w) = 1 by omega) with e2 | e2 <;> rw [e2] <;> simp
  | k + 1, hk => by
    have ih := rn_word f c w k (by omega)
    show rn f c (64 * w + (k + 1)) + cb f c (64 * w + (k + 1)) * (1 - pv f c (64 * w + (k + 1))) + _ = rn f c (64 * w) + (pN (wv (rw1 (f (1024 * c + w)))) (k + 1) + wv (rw1 (f (1024 * c + w))) / 2 ^ (k + 1) % 2)
    rw [rw1_bit _ (k + 1) hk, if_neg (by omega)]
    have hb : cb f c (64 * w + (k + 1)) = wv (f (1024 * c + w)) / 2 ^ (k + 1) % 2 := by unfold cb; rw [show (64 * w + (k + 1)) / 64 = w by omega, show (64 * w + (k + 1)) % 64 = k + 1 by omega]
    have hp : pv f c (64 * w + (k + 1)) = wv (f (1024 * c + w)) / 2 ^ (k + 1 - 1) % 2 := by
      show cb f c (64 * w + k) = _
      unfold cb
      rw [show (64 * w + k) / 64 = w by omega, show (64 * w + k) % 64 = k by omega]
      rfl
    rw [hb, hp]
    omega
theorem rn_next (f : Nat → Int64) (c w : Nat) : rn f c (64 * (w + 1)) + pv f c (64 * w) * (wv (f (1024 * c + w)) % 2) = rn f c (64 * w) + pc (rw1 (f (1024 * c + w))) := by
  have := rn_word f c w 63 (by decide)
  rw [show 64 * (w + 1) = 64 * w + (63 + 1) by omega]
  exact this
theorem pv_next (f : Nat → Int64) (c w : Nat) : pv f c (64 * (w + 1)) = wv (f (1024 * c + w)) / 2 ^ 63 := by
  rw [show 64 * (w + 1) = 64 * w + 63 + 1 by omega]
  show cb f c (64 * w + 63) = _
  unfold cb
  rw [show (64 * w + 63) / 64 = w by omega, show (64 * w + 63) % 64 = 63 by omega]
  have := wv_lt (f (1024 * c + w))
  omega
theorem wv_neg (v : Int64) : v < 0 ↔ wv v / 2 ^ 63 = 1 := by
  have h := wv_lt v
  have : v < 0 ↔ v.toBitVec.toInt < 0 := by
    rw [Int64.lt_iff_toInt_lt]; rfl
  rw [this, BitVec.toInt_eq_toNat_cond]
  show (if 2 * wv v < 2 ^ 64 then (wv v : Int) else (wv v : Int) - (2 ^ 64 : Nat)) < 0 ↔ _
  split <;> omega
