section HR3
variable {F : Fx} {cc : ByteArray} {nL : Nat} {own : String} {Ts : List Cond} {ret : Option FieldType} {S : PS} {kc ks : Nat} {Q : State → Prop} {pc : Nat} {lv : List (Nat × Value)} {st : List Value} {a : Nat}
theorem g_mmin (Z : Cx F cc nL own Ts ret) {ix : Nat} {x y : Int32} (hl1 : Cond.methodLink own ix Lib.Math.min.name ∈ Ts) (hl2 : Cond.static Lib.Math.min.name ∈ Ts) (hl3 : Cond.initialized "java/lang/Math" ∈ Ts) (hl4 : Cond.code Lib.Math.min.name Lib.Math.min.code 2 (some .int) ∈ Ts) (d : decode cc pc = .ok (.invokestatic ix, 3)) (hf : 1 ≤ F.R.frames) (hlo : (st.map fun v => v.category).sum + 13 ≤ F.R.locals) (hc : kc ≤ F.R.cells) (hs : ks ≤ F.R.slots) (k : G F nL S kc ks Q (pc + 3) lv (.int (if y < x then y else x) :: st)) : G F nL S kc ks Q pc lv (.int y :: .int x :: st) :=
  fun H locs ls hP hD hS hl => va_mmin Z.1 Z.2.1 (Z.2.2.1.trans hl.1.symm) Z.2.2.2.1 (Z.2.2.2.2.1 _ hl1) (Z.2.2.2.2.1 _ hl2) (Z.2.2.2.2.1 _ hl3) (Z.2.2.2.2.1 _ hl4) hf hlo hc hs d (k H locs ls hP hD hS hl)
theorem g_copyB (Z : Cx F cc nL own Ts ret) {ix a0 : Nat} {sp dp n : Int32} (hl1 : Cond.methodLink own ix arraycopyName ∈ Ts) (hl2 : Cond.native arraycopyName ∈ Ts) (hl3 : Cond.static arraycopyName ∈ Ts) (hl4 : Cond.initialized "java/lang/System" ∈ Ts) (d : decode cc pc = .ok (.invokestatic ix, 3)) (ha0 : a0 ∈ S.L) (hK0 : S.K a0 = 7) (ha : a ∈ S.L) (hK : S.K a = 7) (h1 : ¬ sp < 0) (h2 : ¬ dp < 0) (h3 : ¬ n < 0) (h4 : sp.toNatClampNeg + n.toNatClampNeg ≤ S.ln a0) (h5 : dp.toNatClampNeg + n.toNatClampNeg ≤ S.ln a) (hfit : sb_Fit (S.ri a0)) (hf : 1 ≤ F.R.frames) (hlo : (st.map fun v => v.category).sum + (nativeFrameWords "java/lang/System" "arraycopy" 5 + 11) ≤ F.R.locals) (k : G F nL (S.rowI a (va_cpy (S.ri a0) (S.ri a) sp.toNatClampNeg dp.toNatClampNeg n.toNatClampNeg)) kc ks Q (pc + 3) lv st) : G F nL S kc ks Q pc lv (.int n :: .int dp :: .ref a :: .int sp :: .ref a0 :: st) := by
  intro H locs ls hP hD hS hl
  obtain ⟨k0, hk0⟩ := ww_at F.cy S ha
  obtain ⟨k2, hk2⟩ := ww_at F.cy S ha0
  have hk1 := hk0
  rw [wcell_i F.cy S hK (by decide) (by decide)] at hk0
  rw [wcell_i F.cy S hK0 (by decide) (by decide)] at hk2
  refine va_copyi (ty := .byte) Z.1 Z.2.1 (Z.2.2.1.trans hl.1.symm) Z.2.2.2.1 (Z.2.2.2.2.1 _ hl1) (Z.2.2.2.2.1 _ hl2) (Z.2.2.2.2.1 _ hl3) (Z.2.2.2.2.1 _ hl4) Z.2.2.2.2.2.2.1 hP hD hS k2 k0 0 0 hk2 hk0 rfl rfl rfl h1 h2 h3 h4 h5 (fun i _ => hfit _) hf hlo d (fun H1 locs1 hP1 hD1 hS1 => ?_)
  have e1 := ww_set (T := S.rowI a (va_cpy (S.ri a0) (S.ri a) sp.toNatClampNeg dp.toNatClampNeg n.toNatClampNeg)) (e := .inl (F.cy 7, S.ln a, .inl (va_cpy (S.ri a0) (S.ri a) sp.toNatClampNeg dp.toNatClampNeg n.toNatClampNeg))) hD ha hk1 rfl (by rw [wcell_i F.cy (S.rowI a (va_cpy (S.ri a0) (S.ri a) sp.toNatClampNeg dp.toNatClampNeg n.toNatClampNeg)) hK (by decide) (by decide)]; show _ = Sum.inl (F.cy 7, S.ln a, Sum.inl (va_up S.ri a _ a)); rw [va_up_self]) (fun b hb => wcell_eq _ _ _ _ rfl rfl rfl rfl (va_up_ne _ _ hb).symm rfl rfl)
  rw [e1] at hP1 hD1
  exact k H1 locs1 ls hP1 hD1 hS1 hl
end HR3
/-- only cells of some kinds have changed; cells may have come -/
def Rl (P : Nat → Prop) (S T : PS) : Prop := ∀ a ∈ S.L, a ∈ T.L ∧ T.K a = S.K a ∧ T.ln a = S.ln a ∧ (¬ P (S.K a) → T.fi a = S.fi a ∧ T.fr a = S.fr a ∧ T.ri a = S.ri a ∧ T.rj a = S.rj a ∧ T.rr a = S.rr a)
theorem Rl.rf {P : Nat → Prop} {S : PS} : Rl P S S := fun _ h => ⟨h, rfl, rfl, fun _ => ⟨rfl, rfl, rfl, rfl, rfl⟩⟩
theorem Rl.tr {P : Nat → Prop} {S T U : PS} (h1 : Rl P S T) (h2 : Rl P T U) : Rl P S U := by
  intro a ha
  obtain ⟨a1, a2, a3, a4⟩ := h1 a ha
  obtain ⟨b1, b2, b3, b4⟩ := h2 a a1
  refine ⟨b1, b2.trans a2, b3.trans a3, fun h => ?_⟩
  obtain ⟨c1, c2, c3, c4, c5⟩ := a4 h
  obtain ⟨d1, d2, d3, d4, d5⟩ := b4 (by rw [a2]; exact h)
  exact ⟨d1.trans c1, d2.trans c2, d3.trans c3, d4.trans c4, d5.trans c5⟩
theorem Rl.setI {P : Nat → Prop} {S T : PS} (h : Rl P S T) {a i : Nat} {v : Int32} (hP : P (T.K a)) : Rl P S (T.setI a i v) := h.tr fun b hb => ⟨hb, rfl, rfl, fun q => ⟨va_up_ne _ _ (fun e => q (by rw [e]; exact hP)), rfl, rfl, rfl, rfl⟩⟩
theorem Rl.setR {P : Nat → Prop} {S T : PS} (h : Rl P S T) {a i : Nat} {v : Option Nat} (hP : P (T.K a)) : Rl P S (T.setR a i v) := h.tr fun b hb => ⟨hb, rfl, rfl, fun q => ⟨rfl, va_up_ne _ _ (fun e => q (by rw [e]; exact hP)), rfl, rfl, rfl⟩⟩
theorem Rl.rowI {P : Nat → Prop} {S T : PS} (h : Rl P S T) {a : Nat} {f : Nat → Int32} (hP : P (T.K a)) : Rl P S (T.rowI a f) := h.tr fun b hb => ⟨hb, rfl, rfl, fun q => ⟨rfl, rfl, va_up_ne _ _ (fun e => q (by rw [e]; exact hP)), rfl, rfl⟩⟩
theorem Rl.rowR {P : Nat → Prop} {S T : PS} (h : Rl P S T) {a : Nat} {f : Nat → Option Nat} (hP : P (T.K a)) : Rl P S (T.rowR a f) := h.tr fun b hb => ⟨hb, rfl, rfl, fun q => ⟨rfl, rfl, rfl, rfl, va_up_ne _ _ (fun e => q (by rw [e]; exact hP))⟩⟩
theorem Rl.newA {P : Nat → Prop} {S T : PS} (h : Rl P S T) {q κ n : Nat} (hq : q ∉ T.L) : Rl P S (T.newA q κ n) := h.tr fun b hb => ⟨List.mem_append_left _ hb, va_up_ne _ _ (ne_mem hq hb), va_up_ne _ _ (ne_mem hq hb), fun _ => ⟨rfl, rfl, va_up_ne _ _ (ne_mem hq hb), va_up_ne _ _ (ne_mem hq hb), va_up_ne _ _ (ne_mem hq hb)⟩⟩
theorem Rl.newO {P : Nat → Prop} {S T : PS} (h : Rl P S T) {q κ : Nat} (hq : q ∉ T.L) : Rl P S (T.newO q κ) := h.tr fun b hb => ⟨List.mem_append_left _ hb, va_up_ne _ _ (ne_mem hq hb), rfl, fun _ => ⟨va_up_ne _ _ (ne_mem hq hb), va_up_ne _ _ (ne_mem hq hb), rfl, rfl, rfl⟩⟩
theorem Rl.cr {P : Nat → Prop} {S T : PS} (h : Rl P S T) (h1 : ¬ P 1) {c : Nat} (k : Cr S c) : Cr T c := by
  obtain ⟨k1, k2, ⟨j, k3, k4⟩, w, k5, k6, k7, k8⟩ := k
  obtain ⟨a1, a2, -, a4⟩ := h c k1
  obtain ⟨e1, e2, -⟩ := a4 (by rw [k2]; exact h1)
  obtain ⟨b1, b2, b3, -⟩ := h w k6
  exact ⟨a1, a2.trans k2, ⟨j, k3, by rw [e1]; exact k4⟩, w, by rw [e2]; exact k5, b1, b2.trans k7, b3.trans k8⟩
theorem Rl.cw {P : Nat → Prop} {S T : PS} (h : Rl P S T) (h1 : ¬ P 1) {nw c : Nat} (k : Cw S nw c) : Cw T nw c := by
  obtain ⟨k1, k2, ⟨j, k3, k4⟩, k5⟩ := k
  obtain ⟨a1, a2, -, a4⟩ := h c k1
  obtain ⟨e1, e2, -⟩ := a4 (by rw [k2]; exact h1)
  refine ⟨a1, a2.trans k2, ⟨j, k3, by rw [e1]; exact k4⟩, ?_⟩
  rcases k5 with k5 | ⟨w, k5, k6, k7, k8⟩
  · exact Or.inl (by rw [e2]; exact k5)
  · obtain ⟨b1, b2, b3, -⟩ := h w k6
    exact Or.inr ⟨w, by rw [e2]; exact k5, b1, b2.trans k7, b3.trans k8⟩
theorem Rl.set {P : Nat → Prop} {S T : PS} (h : Rl P S T) (h1 : ¬ P 1) (h2 : ¬ P 2) (h10 : ¬ P 10) {nw s it u : Nat} (k : SetAt S nw s it u) : SetAt T nw s it u := by
  obtain ⟨k1, k2, k3, k4, k5, k6, k7, k8, k9, k10⟩ := k
  obtain ⟨a1, a2, -, a4⟩ := h s k1
  obtain ⟨e1, e2, -⟩ := a4 (by rw [k2]; exact h2)
  obtain ⟨b1, b2, b3, b4⟩ := h it k4
  obtain ⟨-, -, -, -, b5⟩ := b4 (by rw [k5]; exact h10)
  refine ⟨a1, a2.trans k2, by rw [e2]; exact k3, b1, b2.trans k5, b3.trans k6, by rw [e1]; exact k7, k8, fun i hi => ?_, fun i hi => ?_⟩
  · obtain ⟨c, c1, c2⟩ := k9 i hi; exact ⟨c, by rw [b5]; exact c1, h.cw h1 c2⟩
  · obtain ⟨c, c1, c2⟩ := k10 i hi; exact ⟨c, by rw [b5]; exact c1, h.cr h1 c2⟩
/-! THE BYTES -/
def BytesAt (S : PS) (br h n u : Nat) : Prop := br ∈ S.L ∧ S.K br = 0 ∧ S.fr br 0 = some h ∧ h ∈ S.L ∧ S.K h = 7 ∧ S.ln h = n ∧ (n = 1024 ∨ n = 60000) ∧ S.fi br 1 = nI u ∧ u ≤ n ∧ sb_Fit (S.ri h)
abbrev Pb : Nat → Prop := fun κ => κ = 0 ∨ κ = 7
/-- how long the row is, how many bytes there are, when k more have been put; whether it had to grow -/
def bN (n u k : Nat) : Nat := if u + k ≤ n then n else 60000
def bU (u k : Nat) : Nat := min (u + k) 60000
def bG (n u k : Nat) : Nat := if u + k ≤ n ∨ n = 60000 then 0 else 1
theorem Rl.bytes {P : Nat → Prop} {S T : PS} (h : Rl P S T) (h0 : ¬ P 0) (h7 : ¬ P 7) {br hh n u : Nat} (k : BytesAt S br hh n u) : BytesAt T br hh n u := by
  obtain ⟨k1, k2, k3, k4, k5, k6, k7, k8, k9, k10⟩ := k
  obtain ⟨a1, a2, -, a4⟩ := h br k1
  obtain ⟨e1, e2, -⟩ := a4 (by rw [k2]; exact h0)
  obtain ⟨b1, b2, b3, b4⟩ := h hh k4
  obtain ⟨-, -, b5, -, -⟩ := b4 (by rw [k5]; exact h7)
  exact ⟨a1, a2.trans k2, by rw [e2]; exact k3, b1, b2.trans k5, b3.trans k6, k7, by rw [e1]; exact k8, k9, by rw [b5]; exact k10⟩
theorem Es.bytes {nw : Nat} {S T : PS} (h : Es nw S T) {br hh n u : Nat} (k : BytesAt S br hh n u) : BytesAt T br hh n u := by
  obtain ⟨k1, k2, k3, k4, k5, k6, k7, k8, k9, k10⟩ := k
  obtain ⟨a1, a2, -, a4, -, -⟩ := h.1 br k1
  obtain ⟨e1, e2⟩ := a4 (by rw [k2]; decide) (by rw [k2]; decide)
  obtain ⟨b1, b2, b3, -, b5, -⟩ := h.1 hh k4
  exact ⟨a1, a2.trans k2, by rw [e2]; exact k3, b1, b2.trans k5, b3.trans k6, k7, by rw [e1]; exact k8, k9, by rw [b5 (by rw [k5]; decide)]; exact k10⟩
