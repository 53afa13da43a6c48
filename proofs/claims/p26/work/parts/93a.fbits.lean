/-! WORDS AND BITS: what is worked out with them -/
theorem an8 (x y : Nat) : x &&& y = 256 * ((x / 256) &&& (y / 256)) + ((x % 256) &&& (y % 256)) := by
  have h1 : (x &&& y) / 2 ^ 8 = x / 2 ^ 8 &&& y / 2 ^ 8 := Nat.and_div_two_pow
  have h2 : (x &&& y) % 2 ^ 8 = (x % 2 ^ 8) &&& (y % 2 ^ 8) := Nat.and_mod_two_pow
  rw [show (2 : Nat) ^ 8 = 256 from rfl] at h1 h2
  rw [← h1, ← h2]
  exact (Nat.div_add_mod _ _).symm
def msk (c : Nat) : Nat → Nat
  | 0 => 0
  | k + 1 => 256 * msk c k + c
def s1 (k n : Nat) : Nat := n - ((n / 2) &&& msk 85 k)
def s2 (k n : Nat) : Nat := (n &&& msk 51 k) + ((n / 4) &&& msk 51 k)
def s3 (k n : Nat) : Nat := (n + n / 16) &&& msk 15 k
def g1 (b : Nat) : Nat := b - ((b / 2) &&& 85)
def g2 (b : Nat) : Nat := (b &&& 51) + ((b / 4) &&& 51)
def g3 (b : Nat) : Nat := (b + b / 16) &&& 15
theorem an_m (x c k : Nat) (hc : c < 256) : x &&& msk c (k + 1) = 256 * ((x / 256) &&& msk c k) + ((x % 256) &&& c) := by
  rw [an8, show msk c (k + 1) = 256 * msk c k + c from rfl, show (256 * msk c k + c) / 256 = msk c k by omega, show (256 * msk c k + c) % 256 = c by omega]
theorem s1_a : ∀ r, r < 2 → ∀ b, b < 256 → ((128 * r + b / 2) &&& 85) = ((b / 2) &&& 85) := by decide +kernel
theorem s1_s (k m b : Nat) (hb : b < 256) : s1 (k + 1) (256 * m + b) = 256 * s1 k m + g1 b := by
  unfold s1 g1
  rw [an_m _ _ _ (by decide), show (256 * m + b) / 2 / 256 = m / 2 by omega, show (256 * m + b) / 2 % 256 = 128 * (m % 2) + b / 2 by omega, s1_a _ (Nat.mod_lt _ (by decide)) b hb]
  have h1 : (m / 2 &&& msk 85 k) ≤ m / 2 := Nat.and_le_left
  have h2 : (b / 2 &&& 85) ≤ b / 2 := Nat.and_le_left
  generalize (m / 2 &&& msk 85 k) = u at h1 ⊢
  generalize (b / 2 &&& 85) = v at h2 ⊢
  omega
theorem s2_a : ∀ r, r < 4 → ∀ b, b < 256 → ((64 * r + b / 4) &&& 51) = ((b / 4) &&& 51) := by decide +kernel
theorem s2_s (k m b : Nat) (hb : b < 256) : s2 (k + 1) (256 * m + b) = 256 * s2 k m + g2 b := by
  unfold s2 g2
  rw [an_m _ _ _ (by decide), an_m _ _ _ (by decide), show (256 * m + b) / 256 = m by omega, show (256 * m + b) % 256 = b by omega, show (256 * m + b) / 4 / 256 = m / 4 by omega, show (256 * m + b) / 4 % 256 = 64 * (m % 4) + b / 4 by omega, s2_a _ (Nat.mod_lt _ (by decide)) b hb]
  generalize (m &&& msk 51 k) = u1
  generalize (b &&& 51) = u2
  generalize (m / 4 &&& msk 51 k) = u3
  generalize (b / 4 &&& 51) = u4
  omega
theorem an15 (x : Nat) : x &&& 15 = x % 16 := Nat.and_two_pow_sub_one_eq_mod x 4
theorem s3_s (k m b : Nat) (hb : b < 256) (h1 : b % 16 ≤ 4) (h2 : b / 16 ≤ 4) (h3 : m % 16 ≤ 4) : s3 (k + 1) (256 * m + b) = 256 * s3 k m + g3 b := by
  unfold s3 g3
  have e1 : (256 * m + b) / 16 = 16 * m + b / 16 := by omega
  rw [an_m _ _ _ (by decide), e1, an15, an15]
  have e2 : (256 * m + b + (16 * m + b / 16)) / 256 = m + m / 16 := by omega
  have e3 : (256 * m + b + (16 * m + b / 16)) % 256 % 16 = (b + b / 16) % 16 := by omega
  rw [e2, e3]
theorem g12_n : ∀ b, b < 256 → g2 (g1 b) < 256 ∧ g2 (g1 b) % 16 ≤ 4 ∧ g2 (g1 b) / 16 ≤ 4 ∧ g1 b < 256 := by decide +kernel
theorem pop8 : ∀ b, b < 256 → g3 (g2 (g1 b)) = pN b 8 ∧ pN b 8 ≤ 8 := by decide +kernel
theorem s12_s (k m b : Nat) (hb : b < 256) : s2 (k + 1) (s1 (k + 1) (256 * m + b)) = 256 * s2 k (s1 k m) + g2 (g1 b) := by
  rw [s1_s k m b hb, s2_s _ _ _ (g12_n b hb).2.2.2]
theorem s12_n : ∀ k m, m < 256 ^ k → s2 k (s1 k m) % 16 ≤ 4
  | 0, m, h => by
    have : m = 0 := by simpa using h
    subst this
    decide
  | k + 1, m, h => by
    have e : m = 256 * (m / 256) + m % 256 := by omega
    have hb : m % 256 < 256 := Nat.mod_lt _ (by decide)
    rw [e, s12_s k _ _ hb]
    have := (g12_n _ hb).2.1
    omega
def dS : Nat → Nat → Nat
  | 0, _ => 0
  | k + 1, n => 256 * dS k (n / 256) + pN (n % 256) 8
theorem s_dS : ∀ k n, n < 256 ^ k → s3 k (s2 k (s1 k n)) = dS k n
  | 0, n, h => by
    have : n = 0 := by simpa using h
    subst this
    decide
  | k + 1, n, h => by
    have e : n = 256 * (n / 256) + n % 256 := by omega
    have hb : n % 256 < 256 := Nat.mod_lt _ (by decide)
    have hm : n / 256 < 256 ^ k := Nat.div_lt_of_lt_mul (by rw [Nat.pow_succ, Nat.mul_comm] at h; exact h)
    have hg := g12_n _ hb
    have h1 := s12_s k (n / 256) (n % 256) hb
    rw [← e] at h1
    rw [h1, s3_s k _ _ hg.1 hg.2.1 hg.2.2.1 (s12_n k _ hm), s_dS k _ hm, (pop8 _ hb).1]
    rfl
theorem pN_mod : ∀ n, pN (n % 256) 8 = pN n 8 := by
  intro n
  simp only [pN]
  omega
theorem pN_add (n a : Nat) : ∀ b, pN n (a + b) = pN n a + pN (n / 2 ^ a) b
  | 0 => rfl
  | b + 1 => by
    show pN n (a + b) + n / 2 ^ (a + b) % 2 = pN n a + (pN (n / 2 ^ a) b + n / 2 ^ a / 2 ^ b % 2)
    rw [pN_add n a b, Nat.div_div_eq_div_mul, ← Nat.pow_add, Nat.add_assoc]
theorem pN_64 (n : Nat) : pN n 64 = pN (n % 256) 8 + (pN (n / 256 % 256) 8 + (pN (n / 256 / 256 % 256) 8 + (pN (n / 256 / 256 / 256 % 256) 8 + (pN (n / 256 / 256 / 256 / 256 % 256) 8 + (pN (n / 256 / 256 / 256 / 256 / 256 % 256) 8 + (pN (n / 256 / 256 / 256 / 256 / 256 / 256 % 256) 8 + pN (n / 256 / 256 / 256 / 256 / 256 / 256 / 256 % 256) 8)))))) := by
  simp only [pN_mod]
  have s : ∀ m k, pN m (8 + k) = pN m 8 + pN (m / 256) k := fun m k => pN_add m 8 k
  rw [show (64 : Nat) = 8 + (8 + (8 + (8 + (8 + (8 + (8 + 8)))))) from rfl, s, s, s, s, s, s, s]
theorem bc_fin (p0 p1 p2 p3 p4 p5 p6 x0 x1 x2 x3 x4 x5 x6 x7 : Nat) (h0 : p0 ≤ 8) (h1 : p1 ≤ 8) (h2 : p2 ≤ 8) (h3 : p3 ≤ 8) (h4 : p4 ≤ 8) (h5 : p5 ≤ 8) (h6 : p6 ≤ 8) (h7 : x7 ≤ 8) (e6 : x6 = 256 * x7 + p6) (e5 : x5 = 256 * x6 + p5) (e4 : x4 = 256 * x5 + p4) (e3 : x3 = 256 * x4 + p3) (e2 : x2 = 256 * x3 + p2) (e1 : x1 = 256 * x2 + p1) (e0 : x0 = 256 * x1 + p0) :
    x0 / 256 = x1 ∧ (x0 + x1) / 65536 = x2 + x3 ∧ (x0 + x1 + (x2 + x3)) / 4294967296 = x4 + x5 + x6 + x7 ∧ (x0 + x1 + (x2 + x3) + (x4 + x5 + x6 + x7)) % 4294967296 % 128 = p0 + (p1 + (p2 + (p3 + (p4 + (p5 + (p6 + x7)))))) ∧ x0 < 2 ^ 60 ∧ x0 + x1 < 2 ^ 61 ∧ x0 + x1 + (x2 + x3) < 2 ^ 62 := by
  have y6 : x6 ≤ 2056 := by omega
  have y5 : x5 ≤ 526344 := by omega
  have y4 : x4 ≤ 134744072 := by omega
  have y3 : x3 ≤ 34494482440 := by omega
  have y2 : x2 ≤ 8830587504648 := by omega
  have y1 : x1 ≤ 2260630401189896 := by omega
  have y0 : x0 ≤ 578721382704613384 := by omega
  have c1 : x0 / 256 = x1 := by clear e6 e5 e4 e3 e2 e1 y6 y5 y4 y3 y2; omega
  have q0 : x0 = 65536 * x2 + (256 * p1 + p0) := by omega
  have q1 : x1 = 65536 * x3 + (256 * p2 + p1) := by omega
  have c2 : (x0 + x1) / 65536 = x2 + x3 := by clear e6 e5 e4 e3 e2 e1 e0 y6 y5 y4 y3 y2 y1 y0 c1; omega
  have r2 : x2 = 65536 * x4 + (256 * p3 + p2) := by omega
  have r3 : x3 = 65536 * x5 + (256 * p4 + p3) := by omega
  have r4 : x4 = 65536 * x6 + (256 * p5 + p4) := by omega
  have r5 : x5 = 65536 * x7 + (256 * p6 + p5) := by omega
  have s0 : x0 = 4294967296 * x4 + (65536 * (256 * p3 + p2) + (256 * p1 + p0)) := by clear e6 e5 e4 e3 e2 e1 e0; omega
  have s1 : x1 = 4294967296 * x5 + (65536 * (256 * p4 + p3) + (256 * p2 + p1)) := by clear e6 e5 e4 e3 e2 e1 e0; omega
  have s2 : x2 = 4294967296 * x6 + (65536 * (256 * p5 + p4) + (256 * p3 + p2)) := by clear e6 e5 e4 e3 e2 e1 e0; omega
  have s3 : x3 = 4294967296 * x7 + (65536 * (256 * p6 + p5) + (256 * p4 + p3)) := by clear e6 e5 e4 e3 e2 e1 e0; omega
  have dv : ∀ a b c d l m n o : Nat, l < 1073741824 → m < 1073741824 → n < 1073741824 → o < 1073741824 → (4294967296 * a + l + (4294967296 * b + m) + (4294967296 * c + n + (4294967296 * d + o))) / 4294967296 = a + b + c + d := by omega
  have c3 : (x0 + x1 + (x2 + x3)) / 4294967296 = x4 + x5 + x6 + x7 := by
    have := dv x4 x5 x6 x7 (65536 * (256 * p3 + p2) + (256 * p1 + p0)) (65536 * (256 * p4 + p3) + (256 * p2 + p1)) (65536 * (256 * p5 + p4) + (256 * p3 + p2)) (65536 * (256 * p6 + p5) + (256 * p4 + p3)) (by omega) (by omega) (by omega) (by omega)
    rw [← s0, ← s1, ← s2, ← s3] at this
    exact this
  have sm : x0 + x1 + (x2 + x3) + (x4 + x5 + x6 + x7) = 256 * (x1 + x2 + x3 + x4 + x5 + x6 + x7) + (p0 + (p1 + (p2 + (p3 + (p4 + (p5 + (p6 + x7))))))) := by
    clear q0 q1 r2 r3 r4 r5 s0 s1 s2 s3 c1 c2 c3 y6 y5 y4 y3 y2 y1 y0
    omega
  have hs : p0 + (p1 + (p2 + (p3 + (p4 + (p5 + (p6 + x7)))))) < 128 := by clear e6 e5 e4 e3 e2 e1 e0 q0 q1 r2 r3 r4 r5 s0 s1 s2 s3 c1 c2 c3 sm; omega
  have fin : ∀ K q : Nat, q < 128 → (256 * K + q) % 4294967296 % 128 = q := by omega
  exact ⟨c1, c2, c3, by rw [sm]; exact fin _ _ hs, by clear e6 e5 e4 e3 e2 e1 e0 q0 q1 r2 r3 r4 r5 s0 s1 s2 s3 c1 c2 c3 sm hs; omega, by clear e6 e5 e4 e3 e2 e1 e0 q0 q1 r2 r3 r4 r5 s0 s1 s2 s3 c1 c2 c3 sm hs; omega, by clear e6 e5 e4 e3 e2 e1 e0 q0 q1 r2 r3 r4 r5 s0 s1 s2 s3 c1 c2 c3 sm hs; omega⟩
theorem lsr_n {n : Nat} (hn : n < 2 ^ 64) (k : Nat) (hk : k < 64) : lsr (lN n) (nI k) = lN (n / 2 ^ k) := wb_shr hn hk
/-- Long.bitCount counts the bits -/
theorem bcF_pc (x : Int64) : bcF x = nI (pc x) := by
  obtain ⟨n, hn, rfl⟩ := wb_of x
  have hn8 : n < 256 ^ 8 := by simpa using hn
  have m1 : msk 85 8 = 6148914691236517205 := by decide +kernel
  have m2 : msk 51 8 = 3689348814741910323 := by decide +kernel
  have m3 : msk 15 8 = 1085102592571150095 := by decide +kernel
  have e1 : bc1 (lN n) = lN (s1 8 n) := by
    show lN n - (lsr (lN n) (nI 1) &&& lN 6148914691236517205) = _
    rw [lsr_n hn 1 (by decide), wb_and (by omega) (by decide), lN_sub (Nat.le_trans Nat.and_le_left (Nat.div_le_self _ _))]
    unfold s1
    rw [m1]
  have hs1 : s1 8 n < 2 ^ 64 := Nat.lt_of_le_of_lt (Nat.sub_le _ _) hn
  have e2 : bc2 (lN (s1 8 n)) = lN (s2 8 (s1 8 n)) := by
    show (lN (s1 8 n) &&& lN 3689348814741910323) + (lsr (lN (s1 8 n)) (nI 2) &&& lN 3689348814741910323) = _
    rw [lsr_n hs1 2 (by decide), wb_and hs1 (by decide), wb_and (by omega) (by decide), lN_add]
    unfold s2
    rw [m2]
  have hs2 : s2 8 (s1 8 n) ≤ 3689348814741910323 + 3689348814741910323 := by
    unfold s2
    rw [m2]
    exact Nat.add_le_add Nat.and_le_right Nat.and_le_right
  have e3 : bc3 (lN (s2 8 (s1 8 n))) = lN (dS 8 n) := by
    show (lN (s2 8 (s1 8 n)) + lsr (lN (s2 8 (s1 8 n))) (nI 4)) &&& lN 1085102592571150095 = _
    rw [lsr_n (by omega) 4 (by decide), lN_add, wb_and (by omega) (by decide), ← s_dS 8 n hn8]
    unfold s3
    rw [m3]
  have hd : bc3 (bc2 (bc1 (lN n))) = lN (dS 8 n) := by rw [e1, e2, e3]
  have hp : ∀ m, pN (m % 256) 8 ≤ 8 := fun m => (pop8 _ (Nat.mod_lt _ (by decide))).2
  have hd0 : dS 8 n = 256 * dS 7 (n / 256) + pN (n % 256) 8 := rfl
  have hd7 : dS 1 (n / 256 / 256 / 256 / 256 / 256 / 256 / 256) = pN (n / 256 / 256 / 256 / 256 / 256 / 256 / 256 % 256) 8 := by show 256 * 0 + _ = _; omega
  obtain ⟨c1, c2, c3, c4, c5, c6, c7⟩ := bc_fin _ _ _ _ _ _ _ (dS 8 n) (dS 7 (n / 256)) (dS 6 (n / 256 / 256)) (dS 5 (n / 256 / 256 / 256)) (dS 4 (n / 256 / 256 / 256 / 256)) (dS 3 (n / 256 / 256 / 256 / 256 / 256)) (dS 2 (n / 256 / 256 / 256 / 256 / 256 / 256)) (dS 1 (n / 256 / 256 / 256 / 256 / 256 / 256 / 256)) (hp n) (hp (n / 256)) (hp (n / 256 / 256)) (hp (n / 256 / 256 / 256)) (hp (n / 256 / 256 / 256 / 256)) (hp (n / 256 / 256 / 256 / 256 / 256)) (hp (n / 256 / 256 / 256 / 256 / 256 / 256)) (by rw [hd7]; exact hp _) rfl rfl rfl rfl rfl rfl rfl
  rw [hd7] at c4
  rw [hd7] at c3
  unfold bcF
  rw [hd]
  show ((lN (dS 8 n) + lsr (lN (dS 8 n)) (nI 8)) + lsr (lN (dS 8 n) + lsr (lN (dS 8 n)) (nI 8)) (nI 16) + lsr ((lN (dS 8 n) + lsr (lN (dS 8 n)) (nI 8)) + lsr (lN (dS 8 n) + lsr (lN (dS 8 n)) (nI 8)) (nI 16)) (nI 32)).toInt32 &&& 127 = _
  rw [lsr_n (Nat.lt_trans c5 (by decide)) 8 (by decide), show (2 : Nat) ^ 8 = 256 from rfl, c1, lN_add]
  rw [lsr_n (Nat.lt_trans c6 (by decide)) 16 (by decide), show (2 : Nat) ^ 16 = 65536 from rfl, c2, lN_add]
  rw [lsr_n (Nat.lt_trans c7 (by decide)) 32 (by decide), show (2 : Nat) ^ 32 = 4294967296 from rfl, c3, lN_add, lN_i, pk_and _ 7 (by decide)]
  have g : ∀ q : Nat, (nI q).toBitVec.toNat = q % 4294967296 := fun q => BitVec.toNat_ofNat _ _
  rw [g, show (2 : Nat) ^ 7 = 128 from rfl, c4]
  show nI _ = nI (pN (wv (lN n)) 64)
  rw [wv_lN hn, pN_64]
theorem bits_ext {a b : Nat} (ha : a < 2 ^ 64) (hb : b < 2 ^ 64) (h : ∀ k, k < 64 → a / 2 ^ k % 2 = b / 2 ^ k % 2) : a = b := by
  apply Nat.eq_of_testBit_eq
  intro k
  by_cases hk : k < 64
  · rw [Nat.testBit_eq_decide_div_mod_eq, Nat.testBit_eq_decide_div_mod_eq, h k hk]
  · rw [Nat.testBit_lt_two_pow (Nat.lt_of_lt_of_le ha (Nat.pow_le_pow_right (by decide) (by omega))), Nat.testBit_lt_two_pow (Nat.lt_of_lt_of_le hb (Nat.pow_le_pow_right (by decide) (by omega)))]
theorem wv_inj {a b : Int64} (h : wv a = wv b) : a = b := by rw [← lN_wv a, ← lN_wv b, h]
theorem w_ext {a b : Int64} (h : ∀ k, k < 64 → wv a / 2 ^ k % 2 = wv b / 2 ^ k % 2) : a = b := wv_inj (bits_ext (wv_lt a) (wv_lt b) h)
/-- the bits of one row, as a container of its own -/
theorem cbz (f : Nat → Int64) (l : Nat) : cb f 0 l = wv (f (l / 64)) / 2 ^ (l % 64) % 2 := by
  unfold cb
  rw [show 1024 * 0 + l / 64 = l / 64 by omega]
theorem cbz_at (f : Nat → Int64) {j k : Nat} (hk : k < 64) : cb f 0 (64 * j + k) = wv (f j) / 2 ^ k % 2 := by
  rw [cbz, show (64 * j + k) / 64 = j by omega, show (64 * j + k) % 64 = k by omega]
theorem row_ext {f g : Nat → Int64} (h : ∀ l, l < 65536 → cb f 0 l = cb g 0 l) : ∀ j, j < 1024 → f j = g j := by
  intro j hj
  apply w_ext
  intro k hk
  rw [← cbz_at f hk, ← cbz_at g hk]
  exact h _ (by omega)
theorem row_cb {f g : Nat → Int64} {c d : Nat} (h : ∀ j, j < 1024 → f (1024 * c + j) = g (1024 * d + j)) (l : Nat) (hl : l < 65536) : cb f c l = cb g d l := by
  unfold cb
  rw [h (l / 64) (by omega)]
/-- 65536, out of the reach of reduction -/
noncomputable def N16 : Nat := Classical.choose (⟨65536, rfl⟩ : ∃ N : Nat, N = 65536)
theorem N16_eq : N16 = 65536 := Classical.choose_spec (⟨65536, rfl⟩ : ∃ N : Nat, N = 65536)
/-- how many bits a row has -/
noncomputable def tot (W : Nat → Int64) : Nat := ct W 0 N16
theorem tot_ct (W : Nat → Int64) : tot W = ct W 0 65536 := by
  unfold tot
  rw [N16_eq]
theorem tot_congr {W V : Nat → Int64} (h : ∀ j, j < 1024 → W j = V j) : tot W = tot V := by
  rw [tot_ct, tot_ct]
  exact ct_congr _ (fun k hk => row_cb (fun j hj => by rw [show 1024 * 0 + j = j by omega]; exact h j hj) k hk)
theorem tot_le (W : Nat → Int64) : tot W ≤ 65536 := by
  rw [tot_ct]
  exact ct_le _ _ _
