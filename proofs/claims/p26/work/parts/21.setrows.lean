theorem rowR_step (S : PS) (w i : Nat) (f : Nat → Option Nat) (v : Option Nat) : (S.rowR w f).rowR w (va_up ((S.rowR w f).rr w) i v) = S.rowR w (va_up f i v) := by
  show (_, _, _, _, _, _, _, va_up (va_up S.rr w f) w (va_up (va_up S.rr w f w) i v)) = (_, _, _, _, _, _, _, va_up S.rr w (va_up f i v))
  rw [bx_uu, va_up_self]
theorem rowR_self (S : PS) (w : Nat) : S.rowR w (S.rr w) = S := by
  show (S.L, S.K, S.fi, S.fr, S.ln, S.ri, S.rj, va_up S.rr w (S.rr w)) = S
  rw [va_up_get]
/-- rows move up by one behind k, up to u -/
def shf (f : Nat → Option Nat) (k u : Nat) : Nat → Option Nat := fun i => if k < i ∧ i ≤ u then f (i - 1) else f i
theorem shf_0 (f : Nat → Option Nat) (u : Nat) : shf f u u = f := by
  funext i; unfold shf; rw [if_neg (by omega)]
theorem shf_s (f : Nat → Option Nat) {k u : Nat} (h0 : 0 < k) (hk : k ≤ u) : va_up (shf f k u) k (f (k - 1)) = shf f (k - 1) u := by
  funext i
  unfold va_up shf
  by_cases h : i = k
  · subst h; rw [if_pos rfl, if_pos (by omega)]
  · rw [if_neg h]
    by_cases h2 : k < i ∧ i ≤ u
    · rw [if_pos h2, if_pos (by omega)]
    · rw [if_neg h2, if_neg (by omega)]
theorem shf_lo (f : Nat → Option Nat) {k u i : Nat} (h : i ≤ k) : shf f k u i = f i := by unfold shf; rw [if_neg (by omega)]
/-- rows move down by one from j on, up to k -/
def shd (f : Nat → Option Nat) (j k : Nat) : Nat → Option Nat := fun i => if j ≤ i ∧ i < k then f (i + 1) else f i
theorem shd_0 (f : Nat → Option Nat) (j : Nat) : shd f j j = f := by
  funext i; unfold shd; rw [if_neg (by omega)]
theorem shd_s (f : Nat → Option Nat) {j k : Nat} (hk : j ≤ k) : va_up (shd f j k) k (f (k + 1)) = shd f j (k + 1) := by
  funext i
  unfold va_up shd
  by_cases h : i = k
  · subst h; rw [if_pos rfl, if_pos (by omega)]
  · rw [if_neg h]
    by_cases h2 : j ≤ i ∧ i < k
    · rw [if_pos h2, if_pos (by omega)]
    · rw [if_neg h2, if_neg (by omega)]
theorem shd_hi (f : Nat → Option Nat) {j k i : Nat} (h : k ≤ i) : shd f j k i = f i := by unfold shd; rw [if_neg (by omega)]
