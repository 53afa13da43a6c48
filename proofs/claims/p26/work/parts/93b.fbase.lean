/-! A CONTAINER'S CELLS, written out: key, kind, total, words -/
def c3 (g : Nat → Int32) (k d v : Int32) : Nat → Int32 := fun i => if i = 0 then k else if i = 1 then d else if i = 2 then v else g i
abbrev CS (S : PS) (c w : Nat) (k d v : Int32) (R : Nat → Int64) : PS := (S.L, S.K, va_up S.fi c (c3 (S.fi c) k d v), S.fr, S.ln, S.ri, va_up S.rj w R, S.rr)
theorem c3_0 (g : Nat → Int32) (k d v k' : Int32) : va_up (c3 g k d v) 0 k' = c3 g k' d v := by
  funext i
  unfold va_up c3
  by_cases h : i = 0
  · rw [if_pos h, if_pos h]
  · rw [if_neg h, if_neg h, if_neg h]
theorem c3_1 (g : Nat → Int32) (k d v d' : Int32) : va_up (c3 g k d v) 1 d' = c3 g k d' v := by
  funext i
  unfold va_up c3
  by_cases h : i = 1
  · subst h; rfl
  · by_cases h0 : i = 0
    · subst h0; rfl
    · rw [if_neg h, if_neg h0, if_neg h, if_neg h0, if_neg h]
theorem c3_2 (g : Nat → Int32) (k d v v' : Int32) : va_up (c3 g k d v) 2 v' = c3 g k d v' := by
  funext i
  unfold va_up c3
  by_cases h : i = 2
  · subst h; rfl
  · by_cases h0 : i = 0
    · subst h0; rfl
    · by_cases h1 : i = 1
      · subst h1; rfl
      · rw [if_neg h, if_neg h0, if_neg h1, if_neg h, if_neg h0, if_neg h1, if_neg h]
theorem c3_id (g : Nat → Int32) : c3 g (g 0) (g 1) (g 2) = g := by
  funext i
  unfold c3
  by_cases h0 : i = 0
  · rw [if_pos h0, h0]
  · by_cases h1 : i = 1
    · rw [if_neg h0, if_pos h1, h1]
    · by_cases h2 : i = 2
      · rw [if_neg h0, if_neg h1, if_pos h2, h2]
      · rw [if_neg h0, if_neg h1, if_neg h2]
section CSR
variable {S : PS} {c w : Nat} {k d v : Int32} {R : Nat → Int64}
theorem CS_id (S : PS) (c w : Nat) : S = CS S c w (S.fi c 0) (S.fi c 1) (S.fi c 2) (S.rj w) := by
  show S = (S.L, S.K, va_up S.fi c (c3 (S.fi c) (S.fi c 0) (S.fi c 1) (S.fi c 2)), S.fr, S.ln, S.ri, va_up S.rj w (S.rj w), S.rr)
  rw [c3_id, va_up_get, va_up_get]
theorem CS_k {k' : Int32} : (CS S c w k d v R).setI c 0 k' = CS S c w k' d v R := by
  show (_, _, va_up (va_up S.fi c (c3 (S.fi c) k d v)) c (va_up (va_up S.fi c (c3 (S.fi c) k d v) c) 0 k'), _, _, _, _, _) = _
  rw [bx_uu, va_up_self, c3_0]
theorem CS_d {d' : Int32} : (CS S c w k d v R).setI c 1 d' = CS S c w k d' v R := by
  show (_, _, va_up (va_up S.fi c (c3 (S.fi c) k d v)) c (va_up (va_up S.fi c (c3 (S.fi c) k d v) c) 1 d'), _, _, _, _, _) = _
  rw [bx_uu, va_up_self, c3_1]
theorem CS_v {v' : Int32} : (CS S c w k d v R).setI c 2 v' = CS S c w k d v' R := by
  show (_, _, va_up (va_up S.fi c (c3 (S.fi c) k d v)) c (va_up (va_up S.fi c (c3 (S.fi c) k d v) c) 2 v'), _, _, _, _, _) = _
  rw [bx_uu, va_up_self, c3_2]
theorem CS_R {R' : Nat → Int64} : (CS S c w k d v R).rowJ w R' = CS S c w k d v R' := by
  show (_, _, _, _, _, _, va_up (va_up S.rj w R) w R', _) = _
  rw [bx_uu]
theorem CS_CS {k' d' v' : Int32} {R' : Nat → Int64} : CS (CS S c w k d v R) c w k' d' v' R' = CS S c w k' d' v' R' := by
  show (_, _, va_up (va_up S.fi c (c3 (S.fi c) k d v)) c (c3 (va_up S.fi c (c3 (S.fi c) k d v) c) k' d' v'), _, _, _, va_up (va_up S.rj w R) w R', _) = _
  rw [bx_uu, bx_uu, va_up_self]
  have e : c3 (c3 (S.fi c) k d v) k' d' v' = c3 (S.fi c) k' d' v' := by
    funext i
    unfold c3
    by_cases h0 : i = 0
    · rw [if_pos h0, if_pos h0]
    · by_cases h1 : i = 1
      · rw [if_neg h0, if_pos h1, if_neg h0, if_pos h1]
      · by_cases h2 : i = 2
        · rw [if_neg h0, if_neg h1, if_pos h2, if_neg h0, if_neg h1, if_pos h2]
        · rw [if_neg h0, if_neg h1, if_neg h2, if_neg h0, if_neg h1, if_neg h2, if_neg h0, if_neg h1, if_neg h2]
  rw [e]
theorem CS_g0 : (CS S c w k d v R).fi c 0 = k := by show va_up S.fi c (c3 (S.fi c) k d v) c 0 = k; rw [va_up_self]; rfl
theorem CS_g1 : (CS S c w k d v R).fi c 1 = d := by show va_up S.fi c (c3 (S.fi c) k d v) c 1 = d; rw [va_up_self]; rfl
theorem CS_g2 : (CS S c w k d v R).fi c 2 = v := by show va_up S.fi c (c3 (S.fi c) k d v) c 2 = v; rw [va_up_self]; rfl
theorem CS_gR : (CS S c w k d v R).rj w = R := va_up_self _ _ _
theorem CS_o {a : Nat} (h : a ≠ c) : (CS S c w k d v R).fi a = S.fi a := va_up_ne _ _ h
theorem CS_oR {a : Nat} (h : a ≠ w) : (CS S c w k d v R).rj a = S.rj a := va_up_ne _ _ h
end CSR
/-- a container that has its words -/
def Cq (S : PS) (c w : Nat) : Prop := c ∈ S.L ∧ S.K c = 1 ∧ S.fr c 3 = some w ∧ w ∈ S.L ∧ S.K w = 9 ∧ S.ln w = 1024
/-- its room is made, if it was wanting -/
def Rm (nw : Nat) (S : PS) (c : Nat) (S1 : PS) (w : Nat) : Prop := (S1 = S ∧ Cq S c w) ∨ (S.fr c 3 = some nw ∧ w ∉ S.L ∧ S1 = (S.newA w 9 1024).setR c 3 (some w))
theorem Rm.cq {nw : Nat} {S S1 : PS} {c w : Nat} (h : Rm nw S c S1 w) (hc : c ∈ S.L) (hK : S.K c = 1) : Cq S1 c w := by
  rcases h with ⟨rfl, h⟩ | ⟨-, hq, rfl⟩
  · exact h
  · exact ⟨List.mem_append_left _ hc, (va_up_ne _ _ (ne_mem hq hc)).trans hK, up2_self _ _ _ _, List.mem_append_right _ (List.mem_singleton.mpr rfl), va_up_self _ _ _, va_up_self _ _ _⟩
theorem Rm.fi {nw : Nat} {S S1 : PS} {c w : Nat} (h : Rm nw S c S1 w) : S1.fi = S.fi := by
  rcases h with ⟨rfl, h⟩ | ⟨-, hq, rfl⟩ <;> rfl
/-! COUNTS -/
def sW (W : Nat → Int64) : Nat → Nat
  | 0 => 0
  | n + 1 => sW W n + pc (W n)
theorem sW_ct (W : Nat → Int64) : ∀ n, ct W 0 (64 * n) = sW W n
  | 0 => rfl
  | n + 1 => by
    rw [ct_next, sW_ct W n, show 1024 * 0 + n = n by omega]
    rfl
theorem tot_sW (W : Nat → Int64) : tot W = sW W 1024 := (tot_ct W).trans (sW_ct W 1024)
theorem sW_upd (W : Nat → Int64) (i : Nat) (x : Int64) : ∀ n, sW (vp_updL W i x) n + (if i < n then pc (W i) else 0) = sW W n + (if i < n then pc x else 0)
  | 0 => by simp [sW]
  | n + 1 => by
    have h := sW_upd W i x n
    show sW (vp_updL W i x) n + pc (vp_updL W i x n) + _ = sW W n + pc (W n) + _
    by_cases e : n = i
    · subst e
      rw [pk_uLs, if_pos (Nat.lt_succ_self _), if_pos (Nat.lt_succ_self _)]
      rw [if_neg (Nat.lt_irrefl _), if_neg (Nat.lt_irrefl _)] at h
      omega
    · rw [pk_uLn e]
      by_cases hi : i < n
      · rw [if_pos (by omega), if_pos (by omega)]
        rw [if_pos hi, if_pos hi] at h
        omega
      · rw [if_neg (by omega), if_neg (by omega)]
        rw [if_neg hi, if_neg hi] at h
        omega
theorem tot_upd (W : Nat → Int64) {i : Nat} (hi : i < 1024) (x : Int64) : tot (vp_updL W i x) + pc (W i) = tot W + pc x := by
  have h := sW_upd W i x 1024
  rw [if_pos hi, if_pos hi] at h
  rw [tot_sW, tot_sW]
  exact h
theorem nI_tel {a b p q : Nat} (h : b + q = a + p) : nI a + (nI p - nI q) = nI b := by
  have e : nI b + nI q = nI a + nI p := by rw [nI_add, nI_add, h]
  rw [Int32.sub_eq_add_neg, ← Int32.add_assoc, ← e, Int32.add_assoc, Int32.add_right_neg, Int32.add_zero]
theorem tot_tel (W : Nat → Int64) {i : Nat} (hi : i < 1024) (x : Int64) : nI (tot W) + (bcF x - bcF (W i)) = nI (tot (vp_updL W i x)) := by
  rw [bcF_pc, bcF_pc]
  exact nI_tel (tot_upd W hi x)
/-! MASKS -/
theorem tb (n k : Nat) : n / 2 ^ k % 2 = (n.testBit k).toNat := (Nat.toNat_testBit n k).symm
theorem sh_any {f : Nat} (hf : f < 2 ^ 31) : (nI f).toInt64 &&& 63 = (nI (f % 64)).toInt64 &&& 63 := by
  rw [nI_l hf, nI_l (by omega), show (63 : Int64) = lN (2 ^ 6 - 1) from rfl, wb_mask (by omega) (by decide), wb_mask (by omega) (by decide), show f % 64 % 2 ^ 6 = f % 2 ^ 6 by omega]
theorem sh_anyU {f : Nat} (hf : f < 2 ^ 31) : (nI f).toInt64.toUInt64 &&& Int64.toUInt64 63 = (nI (f % 64)).toInt64.toUInt64 &&& Int64.toUInt64 63 := by
  have h := congrArg Int64.toUInt64 (sh_any hf)
  simpa using h
theorem neg1 : (-1 : Int64) = lN (2 ^ 64 - 1) := by decide +kernel
theorem shl_bit {f k : Nat} (hf : f < 2 ^ 31) (hk : k < 64) : wv ((-1 : Int64) <<< ((nI f).toInt64 &&& 63)) / 2 ^ k % 2 = if f % 64 ≤ k then 1 else 0 := by
  rw [sh_any hf, neg1, wb_shl _ (by omega), wb_mod, wv_lN (Nat.mod_lt _ (by decide)), tb, Nat.testBit_mod_two_pow, Nat.testBit_mul_two_pow, Nat.testBit_two_pow_sub_one]
  by_cases h : f % 64 ≤ k
  · rw [if_pos h]
    simp [h, hk, show k - f % 64 < 64 by omega]
  · rw [if_neg h]
    simp [h, show ¬ f % 64 ≤ k from h]
/-- the bits of a low's word up to that low -/
def upT (t : Nat) : Int64 := lsr (-1) (nI (63 - t % 64))
theorem upT_bit {t k : Nat} (hk : k < 64) : wv (upT t) / 2 ^ k % 2 = if k ≤ t % 64 then 1 else 0 := by
  unfold upT
  rw [neg1, lsr_n (by decide) _ (by omega), wv_lN (Nat.lt_of_le_of_lt (Nat.div_le_self _ _) (by decide)), tb, Nat.testBit_div_two_pow, Nat.testBit_two_pow_sub_one]
  by_cases h : k ≤ t % 64
  · rw [if_pos h]
    simp [show k + (63 - t % 64) < 64 by omega]
  · rw [if_neg h]
    simp [show ¬ k + (63 - t % 64) < 64 by omega]
theorem wv_and (a b : Int64) : wv (a &&& b) = wv a &&& wv b := by unfold wv; simp
theorem wv_or (a b : Int64) : wv (a ||| b) = wv a ||| wv b := by unfold wv; simp
theorem and_bit (a b : Int64) (k : Nat) : wv (a &&& b) / 2 ^ k % 2 = (wv a / 2 ^ k % 2) * (wv b / 2 ^ k % 2) := by
  rw [wv_and, tb, tb, tb, Nat.testBit_and]
  cases (wv a).testBit k <;> cases (wv b).testBit k <;> rfl
theorem or_bit (a b : Int64) (k : Nat) : wv (a ||| b) / 2 ^ k % 2 = 1 - (1 - wv a / 2 ^ k % 2) * (1 - wv b / 2 ^ k % 2) := by
  rw [wv_or, tb, tb, tb, Nat.testBit_or]
  cases (wv a).testBit k <;> cases (wv b).testBit k <;> rfl
theorem xor_bit (a b : Int64) (k : Nat) : wv (a ^^^ b) / 2 ^ k % 2 = (wv a / 2 ^ k % 2 + wv b / 2 ^ k % 2) % 2 := by
  rw [wv_xor, tb, tb, tb, Nat.testBit_xor]
  cases (wv a).testBit k <;> cases (wv b).testBit k <;> rfl
theorem m1_bit {k : Nat} (hk : k < 64) : wv (-1 : Int64) / 2 ^ k % 2 = 1 := by
  rw [neg1, wv_lN (by decide), tb, Nat.testBit_two_pow_sub_one]
  simp [hk]
theorem not_bit (a : Int64) {k : Nat} (hk : k < 64) : wv (a ^^^ -1) / 2 ^ k % 2 = 1 - wv a / 2 ^ k % 2 := by
  rw [xor_bit, m1_bit hk]
  have := Nat.mod_lt (wv a / 2 ^ k) (show 2 > 0 by decide)
  omega
def mkA (f j : Nat) : Int64 := if j = f / 64 then (-1 : Int64) <<< ((nI f).toInt64 &&& 63) else -1
def mk (f t j : Nat) : Int64 := if j = t / 64 then mkA f j &&& upT t else mkA f j
theorem mkA_bit {f j k : Nat} (hf : f < 65536) (hk : k < 64) (h1 : f / 64 ≤ j) : wv (mkA f j) / 2 ^ k % 2 = if f ≤ 64 * j + k then 1 else 0 := by
  unfold mkA
  by_cases h : j = f / 64
  · rw [if_pos h, shl_bit (by omega) hk]
    by_cases hh : f % 64 ≤ k
    · rw [if_pos hh, if_pos (by omega)]
    · rw [if_neg hh, if_neg (by omega)]
  · rw [if_neg h, m1_bit hk, if_pos (by omega)]
theorem mk_bit {f t j k : Nat} (hf : f < 65536) (hk : k < 64) (h1 : f / 64 ≤ j) (h2 : j ≤ t / 64) : wv (mk f t j) / 2 ^ k % 2 = if f ≤ 64 * j + k ∧ 64 * j + k ≤ t then 1 else 0 := by
  unfold mk
  by_cases h : j = t / 64
  · rw [if_pos h, and_bit, mkA_bit hf hk h1, upT_bit hk]
    by_cases ha : f ≤ 64 * j + k
    · by_cases hb : k ≤ t % 64
      · rw [if_pos ha, if_pos hb, if_pos (by omega)]
      · rw [if_pos ha, if_neg hb, if_neg (by omega)]
    · rw [if_neg ha, Nat.zero_mul, if_neg (fun h => ha h.1)]
  · rw [if_neg h, mkA_bit hf hk h1]
    by_cases ha : f ≤ 64 * j + k
    · rw [if_pos ha, if_pos (by omega)]
    · rw [if_neg ha, if_neg (by omega)]
/-- all come (0), go (1), turn (else) -/
def apH (h : Int32) (o m : Int64) : Int64 := if h = 0 then o ||| m else if h = 1 then o &&& (m ^^^ -1) else o ^^^ m
def bH (h : Int32) (b : Nat) : Nat := if h = 0 then 1 else if h = 1 then 0 else 1 - b
theorem apH_bit (h : Int32) (o m : Int64) {k : Nat} (hk : k < 64) : wv (apH h o m) / 2 ^ k % 2 = if wv m / 2 ^ k % 2 = 1 then bH h (wv o / 2 ^ k % 2) else wv o / 2 ^ k % 2 := by
  have h1 := Nat.mod_lt (wv o / 2 ^ k) (show 2 > 0 by decide)
  have h2 := Nat.mod_lt (wv m / 2 ^ k) (show 2 > 0 by decide)
  unfold apH bH
  by_cases a : h = 0
  · rw [if_pos a, if_pos a, or_bit]
    generalize wv o / 2 ^ k % 2 = x at *
    generalize wv m / 2 ^ k % 2 = y at *
    rcases (show x = 0 ∨ x = 1 by omega) with rfl | rfl <;> rcases (show y = 0 ∨ y = 1 by omega) with rfl | rfl <;> rfl
  · by_cases b : h = 1
    · rw [if_neg a, if_pos b, if_neg a, if_pos b, and_bit, not_bit _ hk]
      generalize wv o / 2 ^ k % 2 = x at *
      generalize wv m / 2 ^ k % 2 = y at *
      rcases (show x = 0 ∨ x = 1 by omega) with rfl | rfl <;> rcases (show y = 0 ∨ y = 1 by omega) with rfl | rfl <;> rfl
    · rw [if_neg a, if_neg b, if_neg a, if_neg b, xor_bit]
      generalize wv o / 2 ^ k % 2 = x at *
      generalize wv m / 2 ^ k % 2 = y at *
      rcases (show x = 0 ∨ x = 1 by omega) with rfl | rfl <;> rcases (show y = 0 ∨ y = 1 by omega) with rfl | rfl <;> rfl
/-- a row whose words ahead of u have been changed -/
def rgW (h : Int32) (f t : Nat) (W : Nat → Int64) (u : Nat) : Nat → Int64 := fun j => if f / 64 ≤ j ∧ j < u then apH h (W j) (mk f t j) else W j
theorem rg_0 (h : Int32) (f t : Nat) (W : Nat → Int64) : rgW h f t W (f / 64) = W := by
  funext j
  unfold rgW
  rw [if_neg (by omega)]
theorem rg_at (h : Int32) (f t : Nat) (W : Nat → Int64) (u : Nat) : rgW h f t W u u = W u := by
  unfold rgW
  rw [if_neg (by omega)]
theorem rg_s (h : Int32) (f t : Nat) (W : Nat → Int64) (u : Nat) (h1 : f / 64 ≤ u) : vp_updL (rgW h f t W u) u (apH h (W u) (mk f t u)) = rgW h f t W (u + 1) := by
  funext j
  by_cases e : j = u
  · subst e
    rw [pk_uLs]
    unfold rgW
    rw [if_pos (by omega)]
  · rw [pk_uLn e]
    unfold rgW
    by_cases h2 : f / 64 ≤ j ∧ j < u
    · rw [if_pos h2, if_pos (by omega)]
    · rw [if_neg h2, if_neg (by omega)]
/-- lows from one to another come, go, turn -/
def rg (h : Int32) (f t : Nat) (W : Nat → Int64) : Nat → Int64 := rgW h f t W (t / 64 + 1)
theorem rg_bit (h : Int32) {f t : Nat} (hf : f < 65536) (W : Nat → Int64) (l : Nat) : cb (rg h f t W) 0 l = if f ≤ l ∧ l ≤ t then bH h (cb W 0 l) else cb W 0 l := by
  have hk : l % 64 < 64 := Nat.mod_lt _ (by decide)
  have hl : 64 * (l / 64) + l % 64 = l := by omega
  rw [cbz, cbz]
  unfold rg rgW
  by_cases h1 : f / 64 ≤ l / 64 ∧ l / 64 < t / 64 + 1
  · rw [if_pos h1, apH_bit h _ _ hk, mk_bit hf hk h1.1 (by omega), hl]
    by_cases h2 : f ≤ l ∧ l ≤ t
    · rw [if_pos h2, if_pos h2, if_pos rfl]
    · rw [if_neg h2, if_neg h2, if_neg (by decide)]
  · rw [if_neg h1, if_neg (by omega)]
/-- whether a row has changed -/
def Fl (r : Int32) (W R : Nat → Int64) : Prop := (r = 0 ∧ ∀ j, j < 1024 → R j = W j) ∨ (r = 1 ∧ ∃ j, j < 1024 ∧ R j ≠ W j)
theorem Fl.v {r : Int32} {W R : Nat → Int64} (h : Fl r W R) : r = 0 ∨ r = 1 := by
  rcases h with ⟨h, -⟩ | ⟨h, -⟩
  · exact Or.inl h
  · exact Or.inr h
theorem Fl.s {r q : Int32} {W R : Nat → Int64} {u : Nat} {x : Int64} (hu : u < 1024) (he : R u = W u) (h : Fl r W R) (hq : (q = 0 ∧ x = R u) ∨ (q = 1 ∧ ¬ x = R u)) : Fl (r ||| q) W (vp_updL R u x) := by
  rcases hq with ⟨rfl, hx⟩ | ⟨rfl, hx⟩
  · have e : vp_updL R u x = R := by
      funext j
      by_cases hj : j = u
      · subst hj; rw [pk_uLs, hx]
      · rw [pk_uLn hj]
    rw [e]
    rcases h with ⟨rfl, h⟩ | ⟨rfl, h⟩
    · exact Or.inl ⟨rfl, h⟩
    · exact Or.inr ⟨rfl, h⟩
  · refine Or.inr ⟨?_, u, hu, by rw [pk_uLs, ← he]; exact hx⟩
    rcases h with ⟨rfl, h⟩ | ⟨rfl, h⟩ <;> rfl
