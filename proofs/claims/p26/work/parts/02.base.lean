abbrev vwCl : List vw_C := [(RX0, TX0, 2), (RX1, TX1, 4), (RX2, TX2, 2), (RX3, TX3, 2), (RX4, TX4, 10), (RX6, TX6, 6), (RX7, TX7, 16)]
/-! THE POOL STATE: addresses, kinds, int fields, reference fields, lengths, rows of ints, of longs, of references -/
abbrev PS : Type := List Nat × (Nat → Nat) × (Nat → Nat → Int32) × (Nat → Nat → Option Nat) × (Nat → Nat) × (Nat → Nat → Int32) × (Nat → Nat → Int64) × (Nat → Nat → Option Nat)
abbrev PS.L (S : PS) : List Nat := S.1
abbrev PS.K (S : PS) : Nat → Nat := S.2.1
abbrev PS.fi (S : PS) : Nat → Nat → Int32 := S.2.2.1
abbrev PS.fr (S : PS) : Nat → Nat → Option Nat := S.2.2.2.1
abbrev PS.ln (S : PS) : Nat → Nat := S.2.2.2.2.1
abbrev PS.ri (S : PS) : Nat → Nat → Int32 := S.2.2.2.2.2.1
abbrev PS.rj (S : PS) : Nat → Nat → Int64 := S.2.2.2.2.2.2.1
abbrev PS.rr (S : PS) : Nat → Nat → Option Nat := S.2.2.2.2.2.2.2
def up2 {α : Type} (f : Nat → Nat → α) (a i : Nat) (v : α) : Nat → Nat → α := va_up f a (va_up (f a) i v)
theorem up2_self {α : Type} (f : Nat → Nat → α) (a i : Nat) (v : α) : up2 f a i v a i = v := by simp [up2, va_up]
theorem up2_ne {α : Type} (f : Nat → Nat → α) {a i b j : Nat} (v : α) (h : b ≠ a ∨ j ≠ i) : up2 f a i v b j = f b j := by
  unfold up2 va_up
  by_cases hb : b = a
  · subst hb
    rcases h with h | h
    · exact absurd rfl h
    · simp [h]
  · simp [hb]
abbrev PS.setI (S : PS) (a i : Nat) (v : Int32) : PS := (S.L, S.K, up2 S.fi a i v, S.fr, S.ln, S.ri, S.rj, S.rr)
abbrev PS.setR (S : PS) (a i : Nat) (v : Option Nat) : PS := (S.L, S.K, S.fi, up2 S.fr a i v, S.ln, S.ri, S.rj, S.rr)
abbrev PS.rowI (S : PS) (a : Nat) (f : Nat → Int32) : PS := (S.L, S.K, S.fi, S.fr, S.ln, va_up S.ri a f, S.rj, S.rr)
abbrev PS.rowJ (S : PS) (a : Nat) (f : Nat → Int64) : PS := (S.L, S.K, S.fi, S.fr, S.ln, S.ri, va_up S.rj a f, S.rr)
abbrev PS.rowR (S : PS) (a : Nat) (f : Nat → Option Nat) : PS := (S.L, S.K, S.fi, S.fr, S.ln, S.ri, S.rj, va_up S.rr a f)
/-- a new object, all its fields blank -/
abbrev PS.newO (S : PS) (a κ : Nat) : PS := (S.L ++ [a], va_up S.K a κ, va_up S.fi a (fun _ => 0), va_up S.fr a (fun _ => none), S.ln, S.ri, S.rj, S.rr)
/-- a new array of n places, all blank -/
abbrev PS.newA (S : PS) (a κ n : Nat) : PS := (S.L ++ [a], va_up S.K a κ, S.fi, S.fr, va_up S.ln a n, va_up S.ri a (fun _ => 0), va_up S.rj a (fun _ => 0), va_up S.rr a (fun _ => none))
/-- which slots of a kind hold references -/
def lay (κ : Nat) : List Bool := match κ with
  | 0 => [true, false]
  | 1 => [false, false, false, true]
  | 2 => [true, false]
  | 3 => [true, false]
  | 4 => [false, false, false, false, false, false, false, false, true, true]
  | 5 => [true, true, true, true, true, false]
  | 6 => [true, true, true, true, true, false, false, true, false, false, false, false, true, true, true, false]
  | _ => []
def fval (S : PS) (a : Nat) : Nat → List Bool → List Value
  | _, [] => []
  | i, b :: bs => (match b with | true => va_rf (S.fr a i) | false => .int (S.fi a i)) :: fval S a (i + 1) bs
def wcell (cy : Nat → ClassId) (S : PS) (a : Nat) : va_E :=
  if S.K a < 7 then .inr (S.K a, fval S a 0 (lay (S.K a)))
  else if S.K a < 9 then .inl (cy (S.K a), S.ln a, .inl (S.ri a))
  else if S.K a = 9 then .inl (cy (S.K a), S.ln a, .inr (.inl (S.rj a)))
  else .inl (cy (S.K a), S.ln a, .inr (.inr (.inr (.inr (S.rr a)))))
abbrev wW (cy : Nat → ClassId) (S : PS) : va_W := va_pl S.L (wcell cy S)
abbrev wty (cy : Nat → ClassId) : List (ClassId × FieldType) := [(cy 7, .byte), (cy 8, .int), (cy 9, .long), (cy 10, .object "RoaringIndex$Container"), (cy 11, .object "RoaringIndex$NumberSet")]
/-- the links between nest mates -/
def NN (U : State) : Prop := va_Nw (.fieldLinkNest "RoaringIndex$Container" 9 "RoaringIndex" "NO_WORDS" "[J" "RoaringIndex") U ∧ va_Nw (.methodLinkNest "RoaringIndex$NumberSet" 17 yX1_init "RoaringIndex") U ∧ va_Nw (.methodLinkNest "RoaringIndex" 29 yX0_init "RoaringIndex") U ∧ va_Nw (.methodLinkNest "RoaringIndex" 36 yX4_init "RoaringIndex") U ∧ va_AO "RoaringIndex$Container" U ∧ va_AO "RoaringIndex$NumberSet" U
theorem NN.warm {s U : State} (hW : s.WarmedH U.vm) (h : NN s) : NN U := ⟨h.1.warmF hW, h.2.1.warmM hW, h.2.2.1.warmM hW, h.2.2.2.1.warmM hW, h.2.2.2.2.1.moved hW.alike, h.2.2.2.2.2.moved hW.alike⟩
theorem NN.same {u U : State} (e : u.vm = U.vm) (h : NN u) : NN U := ⟨h.1.same rfl e, h.2.1.same rfl e, h.2.2.1.same rfl e, h.2.2.2.1.same rfl e, h.2.2.2.2.1.moved (by rw [e]; exact Vm.Alike.refl _), h.2.2.2.2.2.moved (by rw [e]; exact Vm.Alike.refl _)⟩
/-- the array that the static NO_WORDS holds: empty, and not of the world -/
def NwO (nw : Nat) (A : Nat → Prop) (U : State) (H : Heap) : Prop := NN U ∧ va_Z "RoaringIndex" "NO_WORDS" "[J" (.ref nw) A U H ∧ ¬ A nw ∧ ∃ cell : Cell, H[nw]? = some cell ∧ U.isArrayOf cell .long ∧ cell.slots.size = 0
theorem NwO.warm {nw : Nat} {A : Nat → Prop} {u U : State} {H : Heap} (hW : u.WarmedH U.vm) (h : NwO nw A u H) : NwO nw A U H := by
  obtain ⟨h0, h1, h2, c, h3, h4, h5⟩ := h
  exact ⟨h0.warm hW, h1.moved hW.alike, h2, c, h3, State.isArrayOf_alike hW.alike h4, h5⟩
theorem NwO.same {nw : Nat} {A : Nat → Prop} {u U : State} {H : Heap} (e : u.vm = U.vm) (h : NwO nw A u H) : NwO nw A U H := by
  obtain ⟨h0, h1, h2, c, h3, h4, h5⟩ := h
  have hv : u.vm.Alike U.vm := by rw [e]; exact Vm.Alike.refl _
  exact ⟨h0.same e, h1.moved hv, h2, c, h3, State.isArrayOf_alike hv h4, h5⟩
theorem NwO.kept {nw : Nat} {A : Nat → Prop} {U : State} {H H1 : Heap} (h : NwO nw A U H) (hq : ∀ a : Nat, a < H.size → ¬ A a → H1[a]? = H[a]?) : NwO nw A U H1 := by
  obtain ⟨h0, h1, h2, c, h3, h4, h5⟩ := h
  exact ⟨h0, h1.kept hq, h2, c, by rw [hq nw (Array.getElem?_eq_some_iff.mp h3).1 h2]; exact h3, h4, h5⟩
theorem NwO.narrow {nw : Nat} {A B : Nat → Prop} {U : State} {H : Heap} (h : NwO nw A U H) (hAB : ∀ q, B q → A q) : NwO nw B U H :=
  ⟨h.1, h.2.1.narrow hAB, fun z => h.2.2.1 (hAB _ z), h.2.2.2⟩
/-! WHAT IS FIXED while a method runs -/
abbrev Fx : Type := Program × Launch × Env × Room × State × MethodId × Array Value × List Frame × Method × Code × va_G × (Nat → ClassId) × (Nat → Prop) × Heap × Nat
abbrev Fx.p (F : Fx) : Program := F.1
abbrev Fx.l (F : Fx) : Launch := F.2.1
abbrev Fx.e (F : Fx) : Env := F.2.2.1
abbrev Fx.R (F : Fx) : Room := F.2.2.2.1
abbrev Fx.s (F : Fx) : State := F.2.2.2.2.1
abbrev Fx.m (F : Fx) : MethodId := F.2.2.2.2.2.1
abbrev Fx.args (F : Fx) : Array Value := F.2.2.2.2.2.2.1
abbrev Fx.below (F : Fx) : List Frame := F.2.2.2.2.2.2.2.1
abbrev Fx.meth (F : Fx) : Method := F.2.2.2.2.2.2.2.2.1
abbrev Fx.c (F : Fx) : Code := F.2.2.2.2.2.2.2.2.2.1
abbrev Fx.D (F : Fx) : va_G := F.2.2.2.2.2.2.2.2.2.2.1
abbrev Fx.cy (F : Fx) : Nat → ClassId := F.2.2.2.2.2.2.2.2.2.2.2.1
abbrev Fx.A (F : Fx) : Nat → Prop := F.2.2.2.2.2.2.2.2.2.2.2.2.1
abbrev Fx.H0 (F : Fx) : Heap := F.2.2.2.2.2.2.2.2.2.2.2.2.2.1
abbrev Fx.nw (F : Fx) : Nat := F.2.2.2.2.2.2.2.2.2.2.2.2.2.2
def Cx (F : Fx) (cc : ByteArray) (nL : Nat) (own : String) (Ts : List Cond) (ret : Option FieldType) : Prop :=
  F.p.tables.exec = Jvm.exec ∧ F.c.code = cc ∧ F.c.maxLocals = nL ∧ F.s.vm.findClass own = some F.m.cls ∧ (∀ w ∈ Ts, w.before F.args F.s = true) ∧ F.meth.locks = false ∧ va_K F.D vwCl (wty F.cy) F.s ∧ (∀ q, F.H0.size ≤ q → F.A q) ∧ F.meth.sig.returnType = ret ∧ NwO F.nw F.A F.s F.H0 ∧ F.H0 = F.s.heap
def G (F : Fx) (nL : Nat) (S : PS) (kc ks : Nat) (Q : State → Prop) (pc : Nat) (lv : List (Nat × Value)) (st : List Value) : Prop :=
  ∀ (H : Heap) (locs : List Loc) (ls : Array Slot), va_P F.D vwCl (wW F.cy S) H → va_D F.A (wW F.cy S) → va_S F.A F.H0 H locs → lv_has ls nL lv → W F.p F.l F.e F.R F.s F.m F.args F.below F.meth F.c H locs kc ks Q (F0 F.m pc ls st)
/-! LOCALS -/
def lvg : List (Nat × Value) → Nat → Option Value
  | [], _ => none
  | (j, v) :: t, i => if j = i then some v else lvg t i
def lv1 (i : Nat) (v : Value) (lv : List (Nat × Value)) : List (Nat × Value) := (i, v) :: lv.filter (fun q => !(q.1 == i) && !(q.1 + 1 == i && q.2.category == 2))
def lv2 (i : Nat) (v : Value) (lv : List (Nat × Value)) : List (Nat × Value) := (i, v) :: lv.filter (fun q => !(q.1 == i) && (!(q.1 == i + 1) && !(q.1 + 1 == i && q.2.category == 2)))
theorem lvg_mem : ∀ (lv : List (Nat × Value)) (i : Nat) (v : Value), lvg lv i = some v → (i, v) ∈ lv
  | [], _, _, h => by cases h
  | (j, w) :: t, i, v, h => by
    unfold lvg at h
    by_cases hj : j = i
    · rw [if_pos hj] at h
      cases h
      subst hj
      exact List.mem_cons_self
    · rw [if_neg hj] at h
      exact List.mem_cons_of_mem _ (lvg_mem t i v h)
theorem lvg_at {ls : Array Slot} {nL : Nat} {lv : List (Nat × Value)} {i : Nat} {v : Value} (h : lv_has ls nL lv) (hi : lvg lv i = some v) : ls[i]? = some (.val v) := h.2.2 (i, v) (lvg_mem lv i v hi)
theorem lvg_pos : ∀ (lv : List (Nat × Value)) (i : Nat) (v : Value), lvg lv i = some v → ∃ k : Nat, lv[k]? = some (i, v) := fun lv i v h => List.getElem?_of_mem (lvg_mem lv i v h)
/-- the locals may be told as another list of the same meaning -/
def lvsub (lv : List (Nat × Value)) : List (Nat × Value) → Prop
  | [] => True
  | q :: t => lvg lv q.1 = some q.2 ∧ lvsub lv t
theorem lvsub_mem (lv : List (Nat × Value)) : ∀ lv' : List (Nat × Value), lvsub lv lv' → ∀ q ∈ lv', lvg lv q.1 = some q.2
  | [], _, q, hq => by cases hq
  | x :: t, h, q, hq => by
    rcases List.mem_cons.mp hq with e | e
    · rw [e]; exact h.1
    · exact lvsub_mem lv t h.2 q e
theorem g_lv {F : Fx} {nL : Nat} {S : PS} {kc ks : Nat} {Q : State → Prop} {pc : Nat} {lv lv' : List (Nat × Value)} {st : List Value} (h : lvsub lv lv') (k : G F nL S kc ks Q pc lv' st) : G F nL S kc ks Q pc lv st :=
  fun H locs ls hP hD hS hl => k H locs ls hP hD hS ⟨hl.1, hl.2.1, fun q hq => hl.2.2 q (lvg_mem _ _ _ (lvsub_mem lv lv' h q hq))⟩
theorem g_widen {F : Fx} {nL : Nat} {S : PS} {kc ks k2 s2 : Nat} {Q : State → Prop} {pc : Nat} {lv : List (Nat × Value)} {st : List Value} (h1 : kc ≤ k2) (h2 : ks ≤ s2) (k : G F nL S k2 s2 Q pc lv st) : G F nL S kc ks Q pc lv st :=
  fun H locs ls hP hD hS hl => W.widen h1 h2 (k H locs ls hP hD hS hl)
section GR
variable {F : Fx} {cc : ByteArray} {nL : Nat} {own : String} {Ts : List Cond} {ret : Option FieldType} {S : PS} {kc ks : Nat} {Q : State → Prop} {pc : Nat} {lv : List (Nat × Value)} {st : List Value}

theorem g_iconst {n : Int} {v : Int32} (Z : Cx F cc nL own Ts ret) (d : decode cc pc = .ok (.iconst n, 1)) (hv : Int32.ofInt n = v) (k : G F nL S kc ks Q (pc + 1) lv (.int v :: st)) : G F nL S kc ks Q pc lv st := fun H locs ls hP hD hS hl => lv_iconst Z.1 Z.2.1 d hv (k H locs ls hP hD hS hl)
theorem g_bipush {n : Int} {v : Int32} (Z : Cx F cc nL own Ts ret) (d : decode cc pc = .ok (.bipush n, 2)) (hv : (Int8.ofInt n).toInt32 = v) (k : G F nL S kc ks Q (pc + 2) lv (.int v :: st)) : G F nL S kc ks Q pc lv st := fun H locs ls hP hD hS hl => lv_bipush Z.1 Z.2.1 d hv (k H locs ls hP hD hS hl)
theorem g_sipush {n : Int} {v : Int32} (Z : Cx F cc nL own Ts ret) (d : decode cc pc = .ok (.sipush n, 3)) (hv : (Int16.ofInt n).toInt32 = v) (k : G F nL S kc ks Q (pc + 3) lv (.int v :: st)) : G F nL S kc ks Q pc lv st := fun H locs ls hP hD hS hl => lv_sipush Z.1 Z.2.1 d hv (k H locs ls hP hD hS hl)
theorem g_lconst {n : Fin 2} {v : Int64} (Z : Cx F cc nL own Ts ret) (d : decode cc pc = .ok (.lconst n, 1)) (hv : Int64.ofNat (n : Nat) = v) (k : G F nL S kc ks Q (pc + 1) lv (.long v :: st)) : G F nL S kc ks Q pc lv st := fun H locs ls hP hD hS hl => lv_lconst Z.1 Z.2.1 d hv (k H locs ls hP hD hS hl)
theorem g_ldc {ix : Nat} {v : Int32} (Z : Cx F cc nL own Ts ret) (d : decode cc pc = .ok (.ldc ix, 2)) (hc : Cond.constant own ix v ∈ Ts) (k : G F nL S kc ks Q (pc + 2) lv (.int v :: st)) : G F nL S kc ks Q pc lv st := fun H locs ls hP hD hS hl => lv_ldc Z.1 Z.2.1 Z.2.2.2.1 (Z.2.2.2.2.1 _ hc) d (k H locs ls hP hD hS hl)
theorem g_ldcw {ix : Nat} {v : Int32} (Z : Cx F cc nL own Ts ret) (d : decode cc pc = .ok (.ldc_w ix, 3)) (hc : Cond.constant own ix v ∈ Ts) (k : G F nL S kc ks Q (pc + 3) lv (.int v :: st)) : G F nL S kc ks Q pc lv st := fun H locs ls hP hD hS hl => lv_ldcw Z.1 Z.2.1 Z.2.2.2.1 (Z.2.2.2.2.1 _ hc) d (k H locs ls hP hD hS hl)
theorem g_ldc2 {ix : Nat} {v : Int64} (Z : Cx F cc nL own Ts ret) (d : decode cc pc = .ok (.ldc2_w ix, 3)) (hc : Cond.constantLong own ix v ∈ Ts) (k : G F nL S kc ks Q (pc + 3) lv (.long v :: st)) : G F nL S kc ks Q pc lv st := fun H locs ls hP hD hS hl => lv_ldc2 Z.1 Z.2.1 Z.2.2.2.1 (Z.2.2.2.2.1 _ hc) d (k H locs ls hP hD hS hl)
theorem g_iload_n {k : Fin 4} {x : Int32} (Z : Cx F cc nL own Ts ret) (d : decode cc pc = .ok (.iload_n k, 1)) (hv : lvg lv (k : Nat) = some (.int x)) (kk : G F nL S kc ks Q (pc + 1) lv (.int x :: st)) : G F nL S kc ks Q pc lv st := fun H locs ls hP hD hS hl => lv_iload_n Z.1 Z.2.1 d rfl (lvg_at hl hv) (kk H locs ls hP hD hS hl)
theorem g_iload {i : Nat} {x : Int32} (Z : Cx F cc nL own Ts ret) (d : decode cc pc = .ok (.iload i, 2)) (hv : lvg lv i = some (.int x)) (kk : G F nL S kc ks Q (pc + 2) lv (.int x :: st)) : G F nL S kc ks Q pc lv st := fun H locs ls hP hD hS hl => lv_iload Z.1 Z.2.1 d (lvg_at hl hv) (kk H locs ls hP hD hS hl)
theorem g_lload_n {k : Fin 4} {x : Int64} (Z : Cx F cc nL own Ts ret) (d : decode cc pc = .ok (.lload_n k, 1)) (hv : lvg lv (k : Nat) = some (.long x)) (kk : G F nL S kc ks Q (pc + 1) lv (.long x :: st)) : G F nL S kc ks Q pc lv st := fun H locs ls hP hD hS hl => lv_lload_n Z.1 Z.2.1 d rfl (lvg_at hl hv) (kk H locs ls hP hD hS hl)
theorem g_lload {i : Nat} {x : Int64} (Z : Cx F cc nL own Ts ret) (d : decode cc pc = .ok (.lload i, 2)) (hv : lvg lv i = some (.long x)) (kk : G F nL S kc ks Q (pc + 2) lv (.long x :: st)) : G F nL S kc ks Q pc lv st := fun H locs ls hP hD hS hl => lv_lload Z.1 Z.2.1 d (lvg_at hl hv) (kk H locs ls hP hD hS hl)
theorem g_aload_n {k : Fin 4} {x : Nat} (Z : Cx F cc nL own Ts ret) (d : decode cc pc = .ok (.aload_n k, 1)) (hv : lvg lv (k : Nat) = some (.ref x)) (kk : G F nL S kc ks Q (pc + 1) lv (.ref x :: st)) : G F nL S kc ks Q pc lv st := fun H locs ls hP hD hS hl => lv_aload_n Z.1 Z.2.1 d rfl (lvg_at hl hv) (kk H locs ls hP hD hS hl)
theorem g_aload {i : Nat} {x : Nat} (Z : Cx F cc nL own Ts ret) (d : decode cc pc = .ok (.aload i, 2)) (hv : lvg lv i = some (.ref x)) (kk : G F nL S kc ks Q (pc + 2) lv (.ref x :: st)) : G F nL S kc ks Q pc lv st := fun H locs ls hP hD hS hl => lv_aload Z.1 Z.2.1 d (lvg_at hl hv) (kk H locs ls hP hD hS hl)
theorem g_istore_n {k : Fin 4} {x : Int32} (Z : Cx F cc nL own Ts ret) (d : decode cc pc = .ok (.istore_n k, 1)) (hn : (k : Nat) < nL) (kk : G F nL S kc ks Q (pc + 1) (lv1 (k : Nat) (.int x) lv) st) : G F nL S kc ks Q pc lv (.int x :: st) := fun H locs ls hP hD hS hl => lv_istore_n Z.1 Z.2.1 d rfl hl hn rfl (fun ls' hl' => kk H locs ls' hP hD hS hl')
theorem g_istore {i : Nat} {x : Int32} (Z : Cx F cc nL own Ts ret) (d : decode cc pc = .ok (.istore i, 2)) (hn : i < nL) (kk : G F nL S kc ks Q (pc + 2) (lv1 i (.int x) lv) st) : G F nL S kc ks Q pc lv (.int x :: st) := fun H locs ls hP hD hS hl => lv_istore Z.1 Z.2.1 d hl hn rfl (fun ls' hl' => kk H locs ls' hP hD hS hl')
theorem g_lstore_n {k : Fin 4} {x : Int64} (Z : Cx F cc nL own Ts ret) (d : decode cc pc = .ok (.lstore_n k, 1)) (hn : (k : Nat) + 1 < nL) (kk : G F nL S kc ks Q (pc + 1) (lv2 (k : Nat) (.long x) lv) st) : G F nL S kc ks Q pc lv (.long x :: st) := fun H locs ls hP hD hS hl => lv_lstore_n Z.1 Z.2.1 d rfl hl hn rfl (fun ls' hl' => kk H locs ls' hP hD hS hl')
theorem g_lstore {i : Nat} {x : Int64} (Z : Cx F cc nL own Ts ret) (d : decode cc pc = .ok (.lstore i, 2)) (hn : i + 1 < nL) (kk : G F nL S kc ks Q (pc + 2) (lv2 i (.long x) lv) st) : G F nL S kc ks Q pc lv (.long x :: st) := fun H locs ls hP hD hS hl => lv_lstore Z.1 Z.2.1 d hl hn rfl (fun ls' hl' => kk H locs ls' hP hD hS hl')
theorem g_astore_n {k : Fin 4} {x : Nat} (Z : Cx F cc nL own Ts ret) (d : decode cc pc = .ok (.astore_n k, 1)) (hn : (k : Nat) < nL) (kk : G F nL S kc ks Q (pc + 1) (lv1 (k : Nat) (.ref x) lv) st) : G F nL S kc ks Q pc lv (.ref x :: st) := fun H locs ls hP hD hS hl => lv_astore_n Z.1 Z.2.1 d rfl hl hn rfl (fun ls' hl' => kk H locs ls' hP hD hS hl')
theorem g_astore {i : Nat} {x : Nat} (Z : Cx F cc nL own Ts ret) (d : decode cc pc = .ok (.astore i, 2)) (hn : i < nL) (kk : G F nL S kc ks Q (pc + 2) (lv1 i (.ref x) lv) st) : G F nL S kc ks Q pc lv (.ref x :: st) := fun H locs ls hP hD hS hl => lv_astore Z.1 Z.2.1 d hl hn rfl (fun ls' hl' => kk H locs ls' hP hD hS hl')
theorem g_astore_nN {k : Fin 4} (Z : Cx F cc nL own Ts ret) (d : decode cc pc = .ok (.astore_n k, 1)) (hn : (k : Nat) < nL) (kk : G F nL S kc ks Q (pc + 1) (lv1 (k : Nat) .null lv) st) : G F nL S kc ks Q pc lv (.null :: st) := fun H locs ls hP hD hS hl => lv_astore_nN Z.1 Z.2.1 d rfl hl hn rfl (fun ls' hl' => kk H locs ls' hP hD hS hl')
theorem g_aload_nN {k : Fin 4} (Z : Cx F cc nL own Ts ret) (d : decode cc pc = .ok (.aload_n k, 1)) (hv : lvg lv (k : Nat) = some .null) (kk : G F nL S kc ks Q (pc + 1) lv (.null :: st)) : G F nL S kc ks Q pc lv st := fun H locs ls hP hD hS hl => lv_aload_nN Z.1 Z.2.1 d rfl (lvg_at hl hv) (kk H locs ls hP hD hS hl)
theorem g_astoreN {i : Nat} (Z : Cx F cc nL own Ts ret) (d : decode cc pc = .ok (.astore i, 2)) (hn : i < nL) (kk : G F nL S kc ks Q (pc + 2) (lv1 i .null lv) st) : G F nL S kc ks Q pc lv (.null :: st) := fun H locs ls hP hD hS hl => lv_astoreN Z.1 Z.2.1 d hl hn rfl (fun ls' hl' => kk H locs ls' hP hD hS hl')
theorem g_aloadN {i : Nat} (Z : Cx F cc nL own Ts ret) (d : decode cc pc = .ok (.aload i, 2)) (hv : lvg lv i = some .null) (kk : G F nL S kc ks Q (pc + 2) lv (.null :: st)) : G F nL S kc ks Q pc lv st := fun H locs ls hP hD hS hl => lv_aloadN Z.1 Z.2.1 d (lvg_at hl hv) (kk H locs ls hP hD hS hl)
theorem g_iinc {i : Nat} {n : Int} {x c : Int32} (Z : Cx F cc nL own Ts ret) (d : decode cc pc = .ok (.iinc i n, 3)) (hx : lvg lv i = some (.int x)) (hc : Int32.ofInt n = c) (hn : i < nL) (kk : G F nL S kc ks Q (pc + 3) (lv1 i (.int (x + c)) lv) st) : G F nL S kc ks Q pc lv st := fun H locs ls hP hD hS hl => by obtain ⟨j, hj⟩ := lvg_pos _ _ _ hx; exact lv_iinc Z.1 Z.2.1 d hl hj (by rw [hc]) hn rfl (fun ls' hl' => kk H locs ls' hP hD hS hl')
theorem g_iadd {x y : Int32} (Z : Cx F cc nL own Ts ret) (d : decode cc pc = .ok (.iadd, 1))  (k : G F nL S kc ks Q (pc + 1) lv (.int (x + y) :: st)) : G F nL S kc ks Q pc lv (.int y :: .int x :: st) := fun H locs ls hP hD hS hl => lv_iadd Z.1 Z.2.1 d  (k H locs ls hP hD hS hl)
theorem g_isub {x y : Int32} (Z : Cx F cc nL own Ts ret) (d : decode cc pc = .ok (.isub, 1))  (k : G F nL S kc ks Q (pc + 1) lv (.int (x - y) :: st)) : G F nL S kc ks Q pc lv (.int y :: .int x :: st) := fun H locs ls hP hD hS hl => lv_isub Z.1 Z.2.1 d  (k H locs ls hP hD hS hl)
theorem g_imul {x y : Int32} (Z : Cx F cc nL own Ts ret) (d : decode cc pc = .ok (.imul, 1))  (k : G F nL S kc ks Q (pc + 1) lv (.int (x * y) :: st)) : G F nL S kc ks Q pc lv (.int y :: .int x :: st) := fun H locs ls hP hD hS hl => lv_imul Z.1 Z.2.1 d  (k H locs ls hP hD hS hl)
theorem g_iand {x y : Int32} (Z : Cx F cc nL own Ts ret) (d : decode cc pc = .ok (.iand, 1))  (k : G F nL S kc ks Q (pc + 1) lv (.int (x &&& y) :: st)) : G F nL S kc ks Q pc lv (.int y :: .int x :: st) := fun H locs ls hP hD hS hl => lv_iand Z.1 Z.2.1 d  (k H locs ls hP hD hS hl)
theorem g_ior {x y : Int32} (Z : Cx F cc nL own Ts ret) (d : decode cc pc = .ok (.ior, 1))  (k : G F nL S kc ks Q (pc + 1) lv (.int (x ||| y) :: st)) : G F nL S kc ks Q pc lv (.int y :: .int x :: st) := fun H locs ls hP hD hS hl => lv_ior Z.1 Z.2.1 d  (k H locs ls hP hD hS hl)
theorem g_ixor {x y : Int32} (Z : Cx F cc nL own Ts ret) (d : decode cc pc = .ok (.ixor, 1))  (k : G F nL S kc ks Q (pc + 1) lv (.int (x ^^^ y) :: st)) : G F nL S kc ks Q pc lv (.int y :: .int x :: st) := fun H locs ls hP hD hS hl => lv_ixor Z.1 Z.2.1 d  (k H locs ls hP hD hS hl)
theorem g_ladd {x y : Int64} (Z : Cx F cc nL own Ts ret) (d : decode cc pc = .ok (.ladd, 1))  (k : G F nL S kc ks Q (pc + 1) lv (.long (x + y) :: st)) : G F nL S kc ks Q pc lv (.long y :: .long x :: st) := fun H locs ls hP hD hS hl => lv_ladd Z.1 Z.2.1 d  (k H locs ls hP hD hS hl)
theorem g_lsub {x y : Int64} (Z : Cx F cc nL own Ts ret) (d : decode cc pc = .ok (.lsub, 1))  (k : G F nL S kc ks Q (pc + 1) lv (.long (x - y) :: st)) : G F nL S kc ks Q pc lv (.long y :: .long x :: st) := fun H locs ls hP hD hS hl => lv_lsub Z.1 Z.2.1 d  (k H locs ls hP hD hS hl)
theorem g_lmul {x y : Int64} (Z : Cx F cc nL own Ts ret) (d : decode cc pc = .ok (.lmul, 1))  (k : G F nL S kc ks Q (pc + 1) lv (.long (x * y) :: st)) : G F nL S kc ks Q pc lv (.long y :: .long x :: st) := fun H locs ls hP hD hS hl => lv_lmul Z.1 Z.2.1 d  (k H locs ls hP hD hS hl)
theorem g_land {x y : Int64} (Z : Cx F cc nL own Ts ret) (d : decode cc pc = .ok (.land, 1))  (k : G F nL S kc ks Q (pc + 1) lv (.long (x &&& y) :: st)) : G F nL S kc ks Q pc lv (.long y :: .long x :: st) := fun H locs ls hP hD hS hl => lv_land Z.1 Z.2.1 d  (k H locs ls hP hD hS hl)
theorem g_lor {x y : Int64} (Z : Cx F cc nL own Ts ret) (d : decode cc pc = .ok (.lor, 1))  (k : G F nL S kc ks Q (pc + 1) lv (.long (x ||| y) :: st)) : G F nL S kc ks Q pc lv (.long y :: .long x :: st) := fun H locs ls hP hD hS hl => lv_lor Z.1 Z.2.1 d  (k H locs ls hP hD hS hl)
theorem g_lxor {x y : Int64} (Z : Cx F cc nL own Ts ret) (d : decode cc pc = .ok (.lxor, 1))  (k : G F nL S kc ks Q (pc + 1) lv (.long (x ^^^ y) :: st)) : G F nL S kc ks Q pc lv (.long y :: .long x :: st) := fun H locs ls hP hD hS hl => lv_lxor Z.1 Z.2.1 d  (k H locs ls hP hD hS hl)
theorem g_idiv {x y : Int32} (Z : Cx F cc nL own Ts ret) (d : decode cc pc = .ok (.idiv, 1)) (hne : ¬ y = 0) (k : G F nL S kc ks Q (pc + 1) lv (.int (x / y) :: st)) : G F nL S kc ks Q pc lv (.int y :: .int x :: st) := fun H locs ls hP hD hS hl => lv_idiv Z.1 Z.2.1 d hne (k H locs ls hP hD hS hl)
theorem g_irem {x y : Int32} (Z : Cx F cc nL own Ts ret) (d : decode cc pc = .ok (.irem, 1)) (hne : ¬ y = 0) (k : G F nL S kc ks Q (pc + 1) lv (.int (x - x / y * y) :: st)) : G F nL S kc ks Q pc lv (.int y :: .int x :: st) := fun H locs ls hP hD hS hl => lv_irem Z.1 Z.2.1 d hne (k H locs ls hP hD hS hl)
theorem g_ldiv {x y : Int64} (Z : Cx F cc nL own Ts ret) (d : decode cc pc = .ok (.ldiv, 1)) (hne : ¬ y = 0) (k : G F nL S kc ks Q (pc + 1) lv (.long (x / y) :: st)) : G F nL S kc ks Q pc lv (.long y :: .long x :: st) := fun H locs ls hP hD hS hl => lv_ldiv Z.1 Z.2.1 d hne (k H locs ls hP hD hS hl)
theorem g_lrem {x y : Int64} (Z : Cx F cc nL own Ts ret) (d : decode cc pc = .ok (.lrem, 1)) (hne : ¬ y = 0) (k : G F nL S kc ks Q (pc + 1) lv (.long (x - x / y * y) :: st)) : G F nL S kc ks Q pc lv (.long y :: .long x :: st) := fun H locs ls hP hD hS hl => lv_lrem Z.1 Z.2.1 d hne (k H locs ls hP hD hS hl)
theorem g_ishl {x y : Int32} (Z : Cx F cc nL own Ts ret) (d : decode cc pc = .ok (.ishl, 1))  (k : G F nL S kc ks Q (pc + 1) lv (.int (x <<< (y &&& 31)) :: st)) : G F nL S kc ks Q pc lv (.int y :: .int x :: st) := fun H locs ls hP hD hS hl => lv_ishl Z.1 Z.2.1 d  (k H locs ls hP hD hS hl)
theorem g_ishr {x y : Int32} (Z : Cx F cc nL own Ts ret) (d : decode cc pc = .ok (.ishr, 1))  (k : G F nL S kc ks Q (pc + 1) lv (.int (x >>> (y &&& 31)) :: st)) : G F nL S kc ks Q pc lv (.int y :: .int x :: st) := fun H locs ls hP hD hS hl => lv_ishr Z.1 Z.2.1 d  (k H locs ls hP hD hS hl)
theorem g_iushr {x y : Int32} (Z : Cx F cc nL own Ts ret) (d : decode cc pc = .ok (.iushr, 1))  (k : G F nL S kc ks Q (pc + 1) lv (.int (x.toUInt32 >>> (y.toUInt32 &&& Int32.toUInt32 31)).toInt32 :: st)) : G F nL S kc ks Q pc lv (.int y :: .int x :: st) := fun H locs ls hP hD hS hl => lv_iushr Z.1 Z.2.1 d rfl (k H locs ls hP hD hS hl)
theorem g_lushr {x : Int64} {y : Int32} (Z : Cx F cc nL own Ts ret) (d : decode cc pc = .ok (.lushr, 1))  (k : G F nL S kc ks Q (pc + 1) lv (.long (x.toUInt64 >>> (y.toInt64.toUInt64 &&& Int64.toUInt64 63)).toInt64 :: st)) : G F nL S kc ks Q pc lv (.int y :: .long x :: st) := fun H locs ls hP hD hS hl => lv_lushr Z.1 Z.2.1 d rfl (k H locs ls hP hD hS hl)
theorem g_lshl {x : Int64} {y : Int32} (Z : Cx F cc nL own Ts ret) (d : decode cc pc = .ok (.lshl, 1))  (k : G F nL S kc ks Q (pc + 1) lv (.long (x <<< (y.toInt64 &&& 63)) :: st)) : G F nL S kc ks Q pc lv (.int y :: .long x :: st) := fun H locs ls hP hD hS hl => lv_lshl Z.1 Z.2.1 d rfl (k H locs ls hP hD hS hl)
theorem g_i2l {x : Int32} (Z : Cx F cc nL own Ts ret) (d : decode cc pc = .ok (.i2l, 1))  (k : G F nL S kc ks Q (pc + 1) lv (.long x.toInt64 :: st)) : G F nL S kc ks Q pc lv (.int x :: st) := fun H locs ls hP hD hS hl => lv_i2l Z.1 Z.2.1 d rfl (k H locs ls hP hD hS hl)
theorem g_l2i {x : Int64} (Z : Cx F cc nL own Ts ret) (d : decode cc pc = .ok (.l2i, 1))  (k : G F nL S kc ks Q (pc + 1) lv (.int x.toInt32 :: st)) : G F nL S kc ks Q pc lv (.long x :: st) := fun H locs ls hP hD hS hl => lv_l2i Z.1 Z.2.1 d rfl (k H locs ls hP hD hS hl)
theorem g_i2b {x : Int32} (Z : Cx F cc nL own Ts ret) (d : decode cc pc = .ok (.i2b, 1))  (k : G F nL S kc ks Q (pc + 1) lv (.int x.toInt8.toInt32 :: st)) : G F nL S kc ks Q pc lv (.int x :: st) := fun H locs ls hP hD hS hl => lv_i2b Z.1 Z.2.1 d rfl (k H locs ls hP hD hS hl)
theorem g_lcmp {x y : Int64} (Z : Cx F cc nL own Ts ret) (d : decode cc pc = .ok (.lcmp, 1))  (k : G F nL S kc ks Q (pc + 1) lv (.int (lg_cmp x y) :: st)) : G F nL S kc ks Q pc lv (.long y :: .long x :: st) := fun H locs ls hP hD hS hl => W.lcmp Z.1 Z.2.1 d  (k H locs ls hP hD hS hl)
theorem g_dup {va : Value} (Z : Cx F cc nL own Ts ret) (d : decode cc pc = .ok (.dup, 1)) (h1 : va.category = 1) (k : G F nL S kc ks Q (pc + 1) lv (va :: va :: st)) : G F nL S kc ks Q pc lv (va :: st) := fun H locs ls hP hD hS hl => lv_dup Z.1 Z.2.1 d h1 (k H locs ls hP hD hS hl)
theorem g_pop {va : Value} (Z : Cx F cc nL own Ts ret) (d : decode cc pc = .ok (.pop, 1)) (h1 : va.category = 1) (k : G F nL S kc ks Q (pc + 1) lv st) : G F nL S kc ks Q pc lv (va :: st) := fun H locs ls hP hD hS hl => lv_pop Z.1 Z.2.1 d h1 (k H locs ls hP hD hS hl)
theorem g_dup2 {va vb : Value} (Z : Cx F cc nL own Ts ret) (d : decode cc pc = .ok (.dup2, 1)) (h1 : va.category = 1) (h2 : vb.category = 1) (k : G F nL S kc ks Q (pc + 1) lv (va :: vb :: va :: vb :: st)) : G F nL S kc ks Q pc lv (va :: vb :: st) := fun H locs ls hP hD hS hl => lv_dup2_11 Z.1 Z.2.1 d h1 h2 (k H locs ls hP hD hS hl)
theorem g_dup_x1 {va vb : Value} (Z : Cx F cc nL own Ts ret) (d : decode cc pc = .ok (.dup_x1, 1)) (h1 : va.category = 1) (h2 : vb.category = 1) (k : G F nL S kc ks Q (pc + 1) lv (va :: vb :: va :: st)) : G F nL S kc ks Q pc lv (va :: vb :: st) := fun H locs ls hP hD hS hl => lv_dup_x1 Z.1 Z.2.1 d h1 h2 (k H locs ls hP hD hS hl)
theorem g_null  (Z : Cx F cc nL own Ts ret) (d : decode cc pc = .ok (.aconst_null, 1))  (k : G F nL S kc ks Q (pc + 1) lv (.null :: st)) : G F nL S kc ks Q pc lv st := fun H locs ls hP hD hS hl => lv_null Z.1 Z.2.1 d  (k H locs ls hP hD hS hl)
theorem g_if_eq {x : Int32} {off : Int} (Z : Cx F cc nL own Ts ret) (tgt : Nat) (d : decode cc pc = .ok (.ifCond .eq off, 3)) (ht : (pc : Int) + off = (tgt : Int)) (kt : x = 0 → G F nL S kc ks Q tgt lv st) (kf : ¬ x = 0 → G F nL S kc ks Q (pc + 3) lv st) : G F nL S kc ks Q pc lv (.int x :: st) := fun H locs ls hP hD hS hl => lv_if_eq Z.1 Z.2.1 d ht (fun h => kt h H locs ls hP hD hS hl) (fun h => kf h H locs ls hP hD hS hl)
theorem g_icmp_eq {x y : Int32} {off : Int} (Z : Cx F cc nL own Ts ret) (tgt : Nat) (d : decode cc pc = .ok (.if_icmp .eq off, 3)) (ht : (pc : Int) + off = (tgt : Int)) (kt : x = y → G F nL S kc ks Q tgt lv st) (kf : ¬ x = y → G F nL S kc ks Q (pc + 3) lv st) : G F nL S kc ks Q pc lv (.int y :: .int x :: st) := fun H locs ls hP hD hS hl => lv_icmp_eq Z.1 Z.2.1 d ht (fun h => kt h H locs ls hP hD hS hl) (fun h => kf h H locs ls hP hD hS hl)
theorem g_if_ne {x : Int32} {off : Int} (Z : Cx F cc nL own Ts ret) (tgt : Nat) (d : decode cc pc = .ok (.ifCond .ne off, 3)) (ht : (pc : Int) + off = (tgt : Int)) (kt : ¬ x = 0 → G F nL S kc ks Q tgt lv st) (kf : x = 0 → G F nL S kc ks Q (pc + 3) lv st) : G F nL S kc ks Q pc lv (.int x :: st) := fun H locs ls hP hD hS hl => lv_if_ne Z.1 Z.2.1 d ht (fun h => kt h H locs ls hP hD hS hl) (fun h => kf h H locs ls hP hD hS hl)
theorem g_icmp_ne {x y : Int32} {off : Int} (Z : Cx F cc nL own Ts ret) (tgt : Nat) (d : decode cc pc = .ok (.if_icmp .ne off, 3)) (ht : (pc : Int) + off = (tgt : Int)) (kt : ¬ x = y → G F nL S kc ks Q tgt lv st) (kf : x = y → G F nL S kc ks Q (pc + 3) lv st) : G F nL S kc ks Q pc lv (.int y :: .int x :: st) := fun H locs ls hP hD hS hl => lv_icmp_ne Z.1 Z.2.1 d ht (fun h => kt h H locs ls hP hD hS hl) (fun h => kf h H locs ls hP hD hS hl)
theorem g_if_lt {x : Int32} {off : Int} (Z : Cx F cc nL own Ts ret) (tgt : Nat) (d : decode cc pc = .ok (.ifCond .lt off, 3)) (ht : (pc : Int) + off = (tgt : Int)) (kt : x < 0 → G F nL S kc ks Q tgt lv st) (kf : ¬ x < 0 → G F nL S kc ks Q (pc + 3) lv st) : G F nL S kc ks Q pc lv (.int x :: st) := fun H locs ls hP hD hS hl => lv_if_lt Z.1 Z.2.1 d ht (fun h => kt h H locs ls hP hD hS hl) (fun h => kf h H locs ls hP hD hS hl)
theorem g_icmp_lt {x y : Int32} {off : Int} (Z : Cx F cc nL own Ts ret) (tgt : Nat) (d : decode cc pc = .ok (.if_icmp .lt off, 3)) (ht : (pc : Int) + off = (tgt : Int)) (kt : x < y → G F nL S kc ks Q tgt lv st) (kf : ¬ x < y → G F nL S kc ks Q (pc + 3) lv st) : G F nL S kc ks Q pc lv (.int y :: .int x :: st) := fun H locs ls hP hD hS hl => lv_icmp_lt Z.1 Z.2.1 d ht (fun h => kt h H locs ls hP hD hS hl) (fun h => kf h H locs ls hP hD hS hl)
theorem g_if_ge {x : Int32} {off : Int} (Z : Cx F cc nL own Ts ret) (tgt : Nat) (d : decode cc pc = .ok (.ifCond .ge off, 3)) (ht : (pc : Int) + off = (tgt : Int)) (kt : 0 ≤ x → G F nL S kc ks Q tgt lv st) (kf : ¬ 0 ≤ x → G F nL S kc ks Q (pc + 3) lv st) : G F nL S kc ks Q pc lv (.int x :: st) := fun H locs ls hP hD hS hl => lv_if_ge Z.1 Z.2.1 d ht (fun h => kt h H locs ls hP hD hS hl) (fun h => kf h H locs ls hP hD hS hl)
theorem g_icmp_ge {x y : Int32} {off : Int} (Z : Cx F cc nL own Ts ret) (tgt : Nat) (d : decode cc pc = .ok (.if_icmp .ge off, 3)) (ht : (pc : Int) + off = (tgt : Int)) (kt : y ≤ x → G F nL S kc ks Q tgt lv st) (kf : ¬ y ≤ x → G F nL S kc ks Q (pc + 3) lv st) : G F nL S kc ks Q pc lv (.int y :: .int x :: st) := fun H locs ls hP hD hS hl => lv_icmp_ge Z.1 Z.2.1 d ht (fun h => kt h H locs ls hP hD hS hl) (fun h => kf h H locs ls hP hD hS hl)
theorem g_if_gt {x : Int32} {off : Int} (Z : Cx F cc nL own Ts ret) (tgt : Nat) (d : decode cc pc = .ok (.ifCond .gt off, 3)) (ht : (pc : Int) + off = (tgt : Int)) (kt : 0 < x → G F nL S kc ks Q tgt lv st) (kf : ¬ 0 < x → G F nL S kc ks Q (pc + 3) lv st) : G F nL S kc ks Q pc lv (.int x :: st) := fun H locs ls hP hD hS hl => lv_if_gt Z.1 Z.2.1 d ht (fun h => kt h H locs ls hP hD hS hl) (fun h => kf h H locs ls hP hD hS hl)
theorem g_icmp_gt {x y : Int32} {off : Int} (Z : Cx F cc nL own Ts ret) (tgt : Nat) (d : decode cc pc = .ok (.if_icmp .gt off, 3)) (ht : (pc : Int) + off = (tgt : Int)) (kt : y < x → G F nL S kc ks Q tgt lv st) (kf : ¬ y < x → G F nL S kc ks Q (pc + 3) lv st) : G F nL S kc ks Q pc lv (.int y :: .int x :: st) := fun H locs ls hP hD hS hl => lv_icmp_gt Z.1 Z.2.1 d ht (fun h => kt h H locs ls hP hD hS hl) (fun h => kf h H locs ls hP hD hS hl)
theorem g_if_le {x : Int32} {off : Int} (Z : Cx F cc nL own Ts ret) (tgt : Nat) (d : decode cc pc = .ok (.ifCond .le off, 3)) (ht : (pc : Int) + off = (tgt : Int)) (kt : x ≤ 0 → G F nL S kc ks Q tgt lv st) (kf : ¬ x ≤ 0 → G F nL S kc ks Q (pc + 3) lv st) : G F nL S kc ks Q pc lv (.int x :: st) := fun H locs ls hP hD hS hl => lv_if_le Z.1 Z.2.1 d ht (fun h => kt h H locs ls hP hD hS hl) (fun h => kf h H locs ls hP hD hS hl)
theorem g_icmp_le {x y : Int32} {off : Int} (Z : Cx F cc nL own Ts ret) (tgt : Nat) (d : decode cc pc = .ok (.if_icmp .le off, 3)) (ht : (pc : Int) + off = (tgt : Int)) (kt : x ≤ y → G F nL S kc ks Q tgt lv st) (kf : ¬ x ≤ y → G F nL S kc ks Q (pc + 3) lv st) : G F nL S kc ks Q pc lv (.int y :: .int x :: st) := fun H locs ls hP hD hS hl => lv_icmp_le Z.1 Z.2.1 d ht (fun h => kt h H locs ls hP hD hS hl) (fun h => kf h H locs ls hP hD hS hl)
theorem g_goto {off : Int} (Z : Cx F cc nL own Ts ret) (tgt : Nat) (d : decode cc pc = .ok (.goto off, 3)) (ht : (pc : Int) + off = (tgt : Int)) (k : G F nL S kc ks Q tgt lv st) : G F nL S kc ks Q pc lv st := fun H locs ls hP hD hS hl => lv_goto Z.1 Z.2.1 d ht (k H locs ls hP hD hS hl)
theorem g_ifnonnull {x : Nat} {off : Int} (Z : Cx F cc nL own Ts ret) (tgt : Nat) (d : decode cc pc = .ok (.ifnonnull off, 3)) (ht : (pc : Int) + off = (tgt : Int)) (k : G F nL S kc ks Q tgt lv st) : G F nL S kc ks Q pc lv (.ref x :: st) := fun H locs ls hP hD hS hl => lv_ifnonnull Z.1 Z.2.1 d ht (k H locs ls hP hD hS hl)
theorem g_ifnull {x : Nat} {off : Int} (Z : Cx F cc nL own Ts ret) (d : decode cc pc = .ok (.ifnull off, 3)) (k : G F nL S kc ks Q (pc + 3) lv st) : G F nL S kc ks Q pc lv (.ref x :: st) := fun H locs ls hP hD hS hl => lv_ifnull Z.1 Z.2.1 d (k H locs ls hP hD hS hl)
theorem g_ifnullN {off : Int} (Z : Cx F cc nL own Ts ret) (tgt : Nat) (d : decode cc pc = .ok (.ifnull off, 3)) (ht : (pc : Int) + off = (tgt : Int)) (k : G F nL S kc ks Q tgt lv st) : G F nL S kc ks Q pc lv (.null :: st) := fun H locs ls hP hD hS hl => lv_ifnullN Z.1 Z.2.1 d ht (k H locs ls hP hD hS hl)
theorem g_ifnonnullN {off : Int} (Z : Cx F cc nL own Ts ret) (d : decode cc pc = .ok (.ifnonnull off, 3)) (k : G F nL S kc ks Q (pc + 3) lv st) : G F nL S kc ks Q pc lv (.null :: st) := fun H locs ls hP hD hS hl => lv_ifnonnullN Z.1 Z.2.1 d (k H locs ls hP hD hS hl)
theorem g_tableIn {dflt lo hi : Int} {offs : Array Int} {len : Nat} {x : Int32} {off : Int} (Z : Cx F cc nL own Ts ret) (tgt : Nat) (d : decode cc pc = .ok (.tableswitch dflt lo hi offs, len)) (h1 : ¬ x.toInt < lo) (h2 : ¬ hi < x.toInt) (ho : offs[(x.toInt - lo).toNat]? = some off) (ht : (pc : Int) + off = (tgt : Int)) (k : G F nL S kc ks Q tgt lv st) : G F nL S kc ks Q pc lv (.int x :: st) := fun H locs ls hP hD hS hl => lv_tableIn Z.1 Z.2.1 d h1 h2 ho ht (k H locs ls hP hD hS hl)
theorem g_tableOut {dflt lo hi : Int} {offs : Array Int} {len : Nat} {x : Int32} (Z : Cx F cc nL own Ts ret) (tgt : Nat) (d : decode cc pc = .ok (.tableswitch dflt lo hi offs, len)) (h : x.toInt < lo ∨ hi < x.toInt) (ht : (pc : Int) + dflt = (tgt : Int)) (k : G F nL S kc ks Q tgt lv st) : G F nL S kc ks Q pc lv (.int x :: st) := fun H locs ls hP hD hS hl => lv_tableOut Z.1 Z.2.1 d h ht (k H locs ls hP hD hS hl)
theorem g_lookup {dflt : Int} {ps : Array (Int × Int)} {len : Nat} {x : Int32} {off : Int} (Z : Cx F cc nL own Ts ret) (tgt : Nat) (d : decode cc pc = .ok (.lookupswitch dflt ps, len)) (hp : (ps.toList.zip (ps.toList.drop 1)).all (fun (a, next) => a.1 < next.1) = true) (ho : Op.lookupswitch.offset ps.toList dflt x.toInt = off) (ht : (pc : Int) + off = (tgt : Int)) (k : G F nL S kc ks Q tgt lv st) : G F nL S kc ks Q pc lv (.int x :: st) := fun H locs ls hP hD hS hl => lv_lookup Z.1 Z.2.1 d hp ho ht (k H locs ls hP hD hS hl)
end GR
