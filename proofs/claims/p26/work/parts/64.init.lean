/-! CONSTRUCTORS: only some cells have changed, others have come -/
def Nx (X : Nat → Prop) (S T : PS) : Prop := ∀ a ∈ S.L, a ∈ T.L ∧ T.K a = S.K a ∧ T.ln a = S.ln a ∧ (¬ X a → T.fi a = S.fi a ∧ T.fr a = S.fr a ∧ T.ri a = S.ri a ∧ T.rj a = S.rj a ∧ T.rr a = S.rr a)
theorem Nx.rf {X : Nat → Prop} {S : PS} : Nx X S S := fun _ h => ⟨h, rfl, rfl, fun _ => ⟨rfl, rfl, rfl, rfl, rfl⟩⟩
theorem Nx.tr {X : Nat → Prop} {S T U : PS} (h1 : Nx X S T) (h2 : Nx X T U) : Nx X S U := by
  intro a ha
  obtain ⟨a1, a2, a3, a4⟩ := h1 a ha
  obtain ⟨b1, b2, b3, b4⟩ := h2 a a1
  refine ⟨b1, b2.trans a2, b3.trans a3, fun h => ?_⟩
  obtain ⟨c1, c2, c3, c4, c5⟩ := a4 h
  obtain ⟨d1, d2, d3, d4, d5⟩ := b4 h
  exact ⟨d1.trans c1, d2.trans c2, d3.trans c3, d4.trans c4, d5.trans c5⟩
theorem Nx.newA {X : Nat → Prop} {S T : PS} (h : Nx X S T) {q κ n : Nat} (hq : q ∉ T.L) : Nx X S (T.newA q κ n) := h.tr fun b hb => ⟨List.mem_append_left _ hb, va_up_ne _ _ (ne_mem hq hb), va_up_ne _ _ (ne_mem hq hb), fun _ => ⟨rfl, rfl, va_up_ne _ _ (ne_mem hq hb), va_up_ne _ _ (ne_mem hq hb), va_up_ne _ _ (ne_mem hq hb)⟩⟩
theorem Nx.newO {X : Nat → Prop} {S T : PS} (h : Nx X S T) {q κ : Nat} (hq : q ∉ T.L) : Nx X S (T.newO q κ) := h.tr fun b hb => ⟨List.mem_append_left _ hb, va_up_ne _ _ (ne_mem hq hb), rfl, fun _ => ⟨va_up_ne _ _ (ne_mem hq hb), va_up_ne _ _ (ne_mem hq hb), rfl, rfl, rfl⟩⟩
/-- a change of a cell that is one of them, or that wasn't there -/
theorem Nx.setR {X : Nat → Prop} {S T : PS} (h : Nx X S T) {a i : Nat} {v : Option Nat} (hX : X a ∨ a ∉ S.L) : Nx X S (T.setR a i v) := by
  intro b hb
  obtain ⟨b1, b2, b3, b4⟩ := h b hb
  refine ⟨b1, b2, b3, fun q => ?_⟩
  obtain ⟨c1, c2, c3, c4, c5⟩ := b4 q
  have hne : b ≠ a := fun e => by
    subst e
    rcases hX with h1 | h1
    · exact q h1
    · exact h1 hb
  exact ⟨c1, (va_up_ne _ _ hne).trans c2, c3, c4, c5⟩
theorem Nx.setI {X : Nat → Prop} {S T : PS} (h : Nx X S T) {a i : Nat} {v : Int32} (hX : X a ∨ a ∉ S.L) : Nx X S (T.setI a i v) := by
  intro b hb
  obtain ⟨b1, b2, b3, b4⟩ := h b hb
  refine ⟨b1, b2, b3, fun q => ?_⟩
  obtain ⟨c1, c2, c3, c4, c5⟩ := b4 q
  have hne : b ≠ a := fun e => by
    subst e
    rcases hX with h1 | h1
    · exact q h1
    · exact h1 hb
  exact ⟨(va_up_ne _ _ hne).trans c1, c2, c3, c4, c5⟩
theorem Nx.rowR {X : Nat → Prop} {S T : PS} (h : Nx X S T) {a : Nat} {f : Nat → Option Nat} (hX : X a ∨ a ∉ S.L) : Nx X S (T.rowR a f) := by
  intro b hb
  obtain ⟨b1, b2, b3, b4⟩ := h b hb
  refine ⟨b1, b2, b3, fun q => ?_⟩
  obtain ⟨c1, c2, c3, c4, c5⟩ := b4 q
  have hne : b ≠ a := fun e => by
    subst e
    rcases hX with h1 | h1
    · exact q h1
    · exact h1 hb
  exact ⟨c1, c2, c3, c4, (va_up_ne _ _ hne).trans c5⟩
/-- what a callee did to a cell that was made for it -/
theorem Nx.sub {X Y : Nat → Prop} {S T U : PS} (h : Nx X S T) (k : Nx Y T U) (hY : ∀ a, Y a → X a ∨ a ∉ S.L) : Nx X S U := by
  intro b hb
  obtain ⟨b1, b2, b3, b4⟩ := h b hb
  obtain ⟨d1, d2, d3, d4⟩ := k b b1
  refine ⟨d1, d2.trans b2, d3.trans b3, fun q => ?_⟩
  obtain ⟨c1, c2, c3, c4, c5⟩ := b4 q
  obtain ⟨e1, e2, e3, e4, e5⟩ := d4 (fun y => by
    rcases hY b y with h1 | h1
    · exact q h1
    · exact h1 hb)
  exact ⟨e1.trans c1, e2.trans c2, e3.trans c3, e4.trans c4, e5.trans c5⟩
theorem Nx.rl {X : Nat → Prop} {P : Nat → Prop} {S T : PS} (h : Nx X S T) (hX : ∀ a ∈ S.L, X a → P (S.K a)) : Rl P S T := fun a ha => by
  obtain ⟨b1, b2, b3, b4⟩ := h a ha
  exact ⟨b1, b2, b3, fun q => b4 (fun y => q (hX a ha y))⟩
theorem in_new {S : PS} {q κ : Nat} : q ∈ (S.newO q κ).L := List.mem_append_right _ (List.mem_singleton.mpr rfl)
theorem in_newA {S : PS} {q κ n : Nat} : q ∈ (S.newA q κ n).L := List.mem_append_right _ (List.mem_singleton.mpr rfl)
theorem K_new {S : PS} {q κ : Nat} : (S.newO q κ).K q = κ := va_up_self _ _ _
theorem K_newA {S : PS} {q κ n : Nat} : (S.newA q κ n).K q = κ := va_up_self _ _ _
set_option maxRecDepth 100000 in
set_option maxHeartbeats 2000000 in
/-- a new row of bytes -/
theorem c_X0_init (l : Launch) (D : va_G) (cy : Nat → ClassId) (nw : Nat) (S : PS) (br : Nat) (hbL : br ∈ S.L) (hbK : S.K br = 0) : kV l yX0_init wsX0_init 1 20 D cy nw [.ref br] S (fun T => ∃ q, q ∉ S.L ∧ T = (S.newA q 7 1024).setR br 0 (some q)) 1 1024 := by
  refine enterV (cc := cX0_init) (nL := 1) (ret := none) (by decide +kernel) rfl (Nat.le_of_ble_eq_true rfl) ?_
  intro F Z hl hR hD hcy hnw hnm
  subst hl hD hcy hnw
  have hRf : F.R.frames = 1 := by rw [hR]
  have hRc : F.R.cells = 1 := by rw [hR]
  have hRs : F.R.slots = 1024 := by rw [hR]
  have hRl : F.R.locals = 20 := by rw [hR]
  have in0 : ∀ w ∈ u_ws RX0 TX0 2, w ∈ wsX0_init := by decide +kernel
  have lk9 : Cond.fieldLink RX0 9 (TX0 0).1 (TX0 0).2.1 (TX0 0).2.2.1 ∈ wsX0_init := by decide +kernel
  refine g_aload_n Z dX0_init_0 rfl ?_
  refine g_objinit Z (by decide +kernel) (by decide +kernel) (by decide +kernel) dX0_init_1 (by rw [hRf]; decide) (by rw [hRl]; decide) (by decide) ?_
  refine g_aload_n Z dX0_init_4 rfl ?_
  refine g_sipush (v := 1024) Z dX0_init_5 (by decide) ?_
  refine g_newaB Z 1024 dX0_init_8 (by decide +kernel) (by decide) (by decide) (by decide) (by rw [hRc]; decide) (by rw [hRs]; decide) (fun q hq => ?_)
  refine g_putr Z 0 0 rfl (by decide) tyX0 tyX0_ok nmX0 rfl in0 lk9 dX0_init_10 rfl rfl (by exact List.mem_append_left _ hbL) (by exact (va_up_ne _ _ (ne_mem hq hbL)).trans hbK) ?_
  exact g_vret Z dX0_init_13 (by omega) (by omega) (⟨q, hq, rfl⟩)

set_option maxRecDepth 100000 in
set_option maxHeartbeats 2000000 in
/-- a new reader -/
theorem c_X4_init (l : Launch) (D : va_G) (cy : Nat → ClassId) (nw : Nat) (S : PS) (rd : Nat) (hrL : rd ∈ S.L) (hrK : S.K rd = 4) : kV l yX4_init wsX4_init 1 20 D cy nw [.ref rd] S (fun T => ∃ q q2, q ∉ S.L ∧ q2 ∉ ((S.newA q 8 6).setR rd 8 (some q)).L ∧ T = (((S.newA q 8 6).setR rd 8 (some q)).newA q2 8 6).setR rd 9 (some q2)) 2 12 := by
  refine enterV (cc := cX4_init) (nL := 1) (ret := none) (by decide +kernel) rfl (Nat.le_of_ble_eq_true rfl) ?_
  intro F Z hl hR hD hcy hnw hnm
  subst hl hD hcy hnw
  have hRf : F.R.frames = 1 := by rw [hR]
  have hRc : F.R.cells = 2 := by rw [hR]
  have hRs : F.R.slots = 12 := by rw [hR]
  have hRl : F.R.locals = 20 := by rw [hR]
  have in4 : ∀ w ∈ u_ws RX4 TX4 10, w ∈ wsX4_init := by decide +kernel
  have lk9 : Cond.fieldLink RX4 9 (TX4 8).1 (TX4 8).2.1 (TX4 8).2.2.1 ∈ wsX4_init := by decide +kernel
  have lk15 : Cond.fieldLink RX4 15 (TX4 9).1 (TX4 9).2.1 (TX4 9).2.2.1 ∈ wsX4_init := by decide +kernel
  refine g_aload_n Z dX4_init_0 rfl ?_
  refine g_objinit Z (by decide +kernel) (by decide +kernel) (by decide +kernel) dX4_init_1 (by rw [hRf]; decide) (by rw [hRl]; decide) (by decide) ?_
  refine g_aload_n Z dX4_init_4 rfl ?_
  refine g_bipush (v := 6) Z dX4_init_5 (by decide) ?_
  refine g_newaI Z 6 dX4_init_7 (by decide +kernel) (by decide) (by decide) (by decide) (by rw [hRc]; decide) (by rw [hRs]; decide) (fun q hq => ?_)
  have hrL1 : rd ∈ (S.newA q 8 6).L := List.mem_append_left _ hrL
  have hrK1 : (S.newA q 8 6).K rd = 4 := (va_up_ne _ _ (ne_mem hq hrL)).trans hrK
  refine g_putFr Z 4 8 rfl (by decide) tyX4 tyX4_ok nmX4 rfl in4 lk9 dX4_init_9 hnm rfl rfl rfl (by assumption) (by assumption) ?_
  refine g_aload_n Z dX4_init_12 rfl ?_
  refine g_bipush (v := 6) Z dX4_init_13 (by decide) ?_
  refine g_newaI Z 6 dX4_init_15 (by decide +kernel) (by decide) (by decide) (by decide) (by rw [hRc]; decide) (by rw [hRs]; decide) (fun q2 hq2 => ?_)
  refine g_putFr Z 4 9 rfl (by decide) tyX4 tyX4_ok nmX4 rfl in4 lk15 dX4_init_17 hnm rfl rfl rfl (by exact List.mem_append_left _ hrL1) (by exact (va_up_ne _ _ (ne_mem hq2 hrL1)).trans hrK1) ?_
  exact g_vret Z dX4_init_20 (by omega) (by omega) (⟨q, q2, hq, hq2, rfl⟩)

theorem fs1 : ∀ j, j < 4 → defaultValue (tyX1 j) = vp_V (fval ([], fun _ => 0, fun _ _ => 0, fun _ _ => none, fun _ => 0, fun _ _ => 0, fun _ _ => 0, fun _ _ => none) 0 0 (lay 1)) j := fun j hj => by
  rcases (show j = 0 ∨ j = 1 ∨ j = 2 ∨ j = 3 by omega) with rfl | rfl | rfl | rfl <;> rfl
theorem fs2 : ∀ j, j < 2 → defaultValue (tyX2 j) = vp_V (fval ([], fun _ => 0, fun _ _ => 0, fun _ _ => none, fun _ => 0, fun _ _ => 0, fun _ _ => 0, fun _ _ => none) 0 0 (lay 2)) j := fun j hj => by
  rcases (show j = 0 ∨ j = 1 by omega) with rfl | rfl <;> rfl
theorem fs3 : ∀ j, j < 2 → defaultValue (tyX3 j) = vp_V (fval ([], fun _ => 0, fun _ _ => 0, fun _ _ => none, fun _ => 0, fun _ _ => 0, fun _ _ => 0, fun _ _ => none) 0 0 (lay 3)) j := fun j hj => by
  rcases (show j = 0 ∨ j = 1 by omega) with rfl | rfl <;> rfl
theorem fs0 : ∀ j, j < 2 → defaultValue (tyX0 j) = vp_V (fval ([], fun _ => 0, fun _ _ => 0, fun _ _ => none, fun _ => 0, fun _ _ => 0, fun _ _ => 0, fun _ _ => none) 0 0 (lay 0)) j := fun j hj => by
  rcases (show j = 0 ∨ j = 1 by omega) with rfl | rfl <;> rfl
theorem fs4 : ∀ j, j < 10 → defaultValue (tyX4 j) = vp_V (fval ([], fun _ => 0, fun _ _ => 0, fun _ _ => none, fun _ => 0, fun _ _ => 0, fun _ _ => 0, fun _ _ => none) 0 0 (lay 4)) j := fun j hj => by
  rcases (show j = 0 ∨ j = 1 ∨ j = 2 ∨ j = 3 ∨ j = 4 ∨ j = 5 ∨ j = 6 ∨ j = 7 ∨ j = 8 ∨ j = 9 by omega) with rfl | rfl | rfl | rfl | rfl | rfl | rfl | rfl | rfl | rfl <;> rfl
/-- a new container stands, and those before it -/
theorem ini_step {nw s it j q : Nat} {S T : PS} (hq : q ∉ T.L) (hN : Nx (fun a => a = s) S T) (hiS : it ∉ S.L) (hi : it ∈ T.L) (hiK : T.K it = 10) (hil : T.ln it = 7) (hrw : ∀ i, i < j → ∃ c, T.rr it i = some c ∧ Cw T nw c) :
    let U := ((T.newO q 1).setR q 3 (some nw)).rowR it (va_up (((T.newO q 1).setR q 3 (some nw)).rr it) j (some q))
    Nx (fun a => a = s) S U ∧ it ∈ U.L ∧ U.K it = 10 ∧ U.ln it = 7 ∧ (∀ i, i < j + 1 → ∃ c, U.rr it i = some c ∧ Cw U nw c) := by
  intro U
  have hqi : it ≠ q := ne_mem hq hi
  have hqS : q ∉ S.L := fun h => hq (hN q h).1
  have hcq : Cw U nw q := ⟨in_new (κ := 1), K_new, ⟨0, by decide, by show va_up T.fi q (fun _ => 0) q 0 = nI 0; rw [va_up_self]; rfl⟩, Or.inl (up2_self _ _ _ _)⟩
  have hcw : ∀ c, Cw T nw c → Cw U nw c := by
    intro c ⟨c1, c2, ⟨k, c3, c4⟩, c5⟩
    have hne : c ≠ q := ne_mem hq c1
    refine ⟨List.mem_append_left _ c1, (va_up_ne _ _ hne).trans c2, ⟨k, c3, by show va_up T.fi q (fun _ => 0) c 0 = nI k; rw [va_up_ne _ _ hne]; exact c4⟩, ?_⟩
    have e3 : U.fr c 3 = T.fr c 3 := (up2_ne _ _ (Or.inl hne)).trans (congrFun (va_up_ne _ _ hne) 3)
    rcases c5 with c5 | ⟨w, c5, c6, c7, c8⟩
    · exact Or.inl (e3.trans c5)
    · exact Or.inr ⟨w, e3.trans c5, List.mem_append_left _ c6, (va_up_ne _ _ (ne_mem hq c6)).trans c7, c8⟩
  refine ⟨((hN.newO hq).setR (Or.inr hqS)).rowR (Or.inr hiS), List.mem_append_left _ hi, (va_up_ne _ _ hqi).trans hiK, hil, fun i hij => ?_⟩
  show ∃ c, va_up T.rr it (va_up (T.rr it) j (some q)) it i = some c ∧ Cw U nw c
  rw [va_up_self]
  by_cases e : i = j
  · subst e; exact ⟨q, va_up_self _ _ _, hcq⟩
  · obtain ⟨c, c1, c2⟩ := hrw i (by omega)
    exact ⟨c, (va_up_ne _ _ e).trans c1, hcw c c2⟩

