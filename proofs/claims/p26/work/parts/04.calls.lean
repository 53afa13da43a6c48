/-! CONTRACTS over the pool: the state before, the state behind -/
def MBf (D : va_G) (cy : Nat → ClassId) (nw : Nat) (S : PS) (sz : Nat) (U : State) : Prop := U.heap.size = sz ∧ va_P D vwCl (wW cy S) U.heap ∧ va_K D vwCl (wty cy) U ∧ va_D (fun _ => True) (wW cy S) ∧ NwO nw (va_A (wW cy S) sz) U U.heap
def MAf (D : va_G) (cy : Nat → ClassId) (A : Nat → Prop) (S : PS) (t : State) : Prop := va_P D vwCl (wW cy S) t.heap ∧ va_K D vwCl (wty cy) t ∧ va_D A (wW cy S)
abbrev rmOf (fr mc ms lo : Nat) : Room := { frames := fr, cells := mc, slots := ms, locals := lo }
def kI (l : Launch) (y : MethodName) (ws : List Cond) (fr lo : Nat) (D : va_G) (cy : Nat → ClassId) (nw : Nat) (av : List Value) (S : PS) (post : Int32 → PS → Prop) (mc ms : Nat) : Prop :=
  ∀ sz, Met l y ws (rmOf fr mc ms lo) (va_Pc av (MBf D cy nw S sz)) (va_Qi post (MAf D cy (va_A (wW cy S) sz)) (va_A (wW cy S) sz)) mc ms (va_A (wW cy S) sz)
def kL (l : Launch) (y : MethodName) (ws : List Cond) (fr lo : Nat) (D : va_G) (cy : Nat → ClassId) (nw : Nat) (av : List Value) (S : PS) (post : Int64 → PS → Prop) (mc ms : Nat) : Prop :=
  ∀ sz, Met l y ws (rmOf fr mc ms lo) (va_Pc av (MBf D cy nw S sz)) (va_Ql post (MAf D cy (va_A (wW cy S) sz)) (va_A (wW cy S) sz)) mc ms (va_A (wW cy S) sz)
def kV (l : Launch) (y : MethodName) (ws : List Cond) (fr lo : Nat) (D : va_G) (cy : Nat → ClassId) (nw : Nat) (av : List Value) (S : PS) (post : PS → Prop) (mc ms : Nat) : Prop :=
  ∀ sz, Met l y ws (rmOf fr mc ms lo) (va_Pc av (MBf D cy nw S sz)) (va_Qv post (MAf D cy (va_A (wW cy S) sz)) (va_A (wW cy S) sz)) mc ms (va_A (wW cy S) sz)
def kR (l : Launch) (y : MethodName) (ws : List Cond) (fr lo : Nat) (D : va_G) (cy : Nat → ClassId) (nw : Nat) (av : List Value) (S : PS) (post : Option Nat → PS → Prop) (mc ms : Nat) : Prop :=
  ∀ sz, Met l y ws (rmOf fr mc ms lo) (va_Pc av (MBf D cy nw S sz)) (va_Qq post (MAf D cy (va_A (wW cy S) sz)) (va_A (wW cy S) sz)) mc ms (va_A (wW cy S) sz)
def QI (F : Fx) (post : Int32 → PS → Prop) (mc ms : Nat) : State → Prop := MQ F.below (va_Qi post (MAf F.D F.cy F.A) F.A) F.args F.s mc ms F.A
def QL (F : Fx) (post : Int64 → PS → Prop) (mc ms : Nat) : State → Prop := MQ F.below (va_Ql post (MAf F.D F.cy F.A) F.A) F.args F.s mc ms F.A
def QV (F : Fx) (post : PS → Prop) (mc ms : Nat) : State → Prop := MQ F.below (va_Qv post (MAf F.D F.cy F.A) F.A) F.args F.s mc ms F.A
def QR (F : Fx) (post : Option Nat → PS → Prop) (mc ms : Nat) : State → Prop := MQ F.below (va_Qq post (MAf F.D F.cy F.A) F.A) F.args F.s mc ms F.A
theorem mb_blind {D : va_G} {cy : Nat → ClassId} {nw : Nat} {S : PS} {sz : Nat} {av : List Value} : FrameBlind (va_Pc av (MBf D cy nw S sz)) := by
  intro a U g mk q
  obtain ⟨q0, q1, qP, qK, qD, qN⟩ := q
  exact ⟨q0, q1, qP, va_K.moved (u := U) (U := U.calling g mk a) (Vm.Alike.refl U.vm) qK, qD, NwO.same (u := U) (U := U.calling g mk a) rfl qN⟩

theorem enterI {l : Launch} {y : MethodName} {ws ws' : List Cond} {fr lo : Nat} {D : va_G} {cy : Nat → ClassId} {nw : Nat} {av : List Value} {S : PS} {post : Int32 → PS → Prop} {mc ms : Nat} {cc : ByteArray} {nL : Nat} {ret : Option FieldType} (hy : plainName y.cls = true) (hw : ws = Cond.code y cc nL ret :: ws') (hav : (lg_sl av).length ≤ nL)
    (body : ∀ F : Fx, Cx F cc nL y.cls ws ret → F.l = l → F.R = rmOf fr mc ms lo → F.D = D → F.cy = cy → F.nw = nw → F.meth.name = y.name → G F nL S 0 0 (QI F post mc ms) 0 (lv_args 0 av) []) : kI l y ws fr lo D cy nw av S post mc ms := by
  intro sz
  refine Met.ofW hy hw ?_
  intro p e s m args below meth c s₁ B hml hv
  obtain ⟨rfl, hsz, hP, hK, hD0, hN⟩ := hv
  subst hsz
  have hg := body (p, l, e, (headSpec ws (rmOf fr mc ms lo)).room, s, m, av.toArray, below, meth, c, D, cy, va_A (wW cy S) s.heap.size, s.heap, nw)
    ⟨B.exec, B.bytes, hml, findClass_of_methodNamed B.named, atoms_spec (ws := ws) B.pre, B.notSynchronized, hK, fun q h => Or.inr h, B.returns, hN, rfl⟩ rfl rfl rfl rfl rfl (name_of_methodNamed B.named B.method).1
  rw [lg_entry_eq]
  exact hg s.heap [] _ hP (hD0.self (sz := s.heap.size)) va_S.rf (lv_entry av hav)
theorem enterL {l : Launch} {y : MethodName} {ws ws' : List Cond} {fr lo : Nat} {D : va_G} {cy : Nat → ClassId} {nw : Nat} {av : List Value} {S : PS} {post : Int64 → PS → Prop} {mc ms : Nat} {cc : ByteArray} {nL : Nat} {ret : Option FieldType} (hy : plainName y.cls = true) (hw : ws = Cond.code y cc nL ret :: ws') (hav : (lg_sl av).length ≤ nL)
    (body : ∀ F : Fx, Cx F cc nL y.cls ws ret → F.l = l → F.R = rmOf fr mc ms lo → F.D = D → F.cy = cy → F.nw = nw → F.meth.name = y.name → G F nL S 0 0 (QL F post mc ms) 0 (lv_args 0 av) []) : kL l y ws fr lo D cy nw av S post mc ms := by
  intro sz
  refine Met.ofW hy hw ?_
  intro p e s m args below meth c s₁ B hml hv
  obtain ⟨rfl, hsz, hP, hK, hD0, hN⟩ := hv
  subst hsz
  have hg := body (p, l, e, (headSpec ws (rmOf fr mc ms lo)).room, s, m, av.toArray, below, meth, c, D, cy, va_A (wW cy S) s.heap.size, s.heap, nw)
    ⟨B.exec, B.bytes, hml, findClass_of_methodNamed B.named, atoms_spec (ws := ws) B.pre, B.notSynchronized, hK, fun q h => Or.inr h, B.returns, hN, rfl⟩ rfl rfl rfl rfl rfl (name_of_methodNamed B.named B.method).1
  rw [lg_entry_eq]
  exact hg s.heap [] _ hP (hD0.self (sz := s.heap.size)) va_S.rf (lv_entry av hav)
theorem enterV {l : Launch} {y : MethodName} {ws ws' : List Cond} {fr lo : Nat} {D : va_G} {cy : Nat → ClassId} {nw : Nat} {av : List Value} {S : PS} {post : PS → Prop} {mc ms : Nat} {cc : ByteArray} {nL : Nat} {ret : Option FieldType} (hy : plainName y.cls = true) (hw : ws = Cond.code y cc nL ret :: ws') (hav : (lg_sl av).length ≤ nL)
    (body : ∀ F : Fx, Cx F cc nL y.cls ws ret → F.l = l → F.R = rmOf fr mc ms lo → F.D = D → F.cy = cy → F.nw = nw → F.meth.name = y.name → G F nL S 0 0 (QV F post mc ms) 0 (lv_args 0 av) []) : kV l y ws fr lo D cy nw av S post mc ms := by
  intro sz
  refine Met.ofW hy hw ?_
  intro p e s m args below meth c s₁ B hml hv
  obtain ⟨rfl, hsz, hP, hK, hD0, hN⟩ := hv
  subst hsz
  have hg := body (p, l, e, (headSpec ws (rmOf fr mc ms lo)).room, s, m, av.toArray, below, meth, c, D, cy, va_A (wW cy S) s.heap.size, s.heap, nw)
    ⟨B.exec, B.bytes, hml, findClass_of_methodNamed B.named, atoms_spec (ws := ws) B.pre, B.notSynchronized, hK, fun q h => Or.inr h, B.returns, hN, rfl⟩ rfl rfl rfl rfl rfl (name_of_methodNamed B.named B.method).1
  rw [lg_entry_eq]
  exact hg s.heap [] _ hP (hD0.self (sz := s.heap.size)) va_S.rf (lv_entry av hav)
theorem enterR {l : Launch} {y : MethodName} {ws ws' : List Cond} {fr lo : Nat} {D : va_G} {cy : Nat → ClassId} {nw : Nat} {av : List Value} {S : PS} {post : Option Nat → PS → Prop} {mc ms : Nat} {cc : ByteArray} {nL : Nat} {ret : Option FieldType} (hy : plainName y.cls = true) (hw : ws = Cond.code y cc nL ret :: ws') (hav : (lg_sl av).length ≤ nL)
    (body : ∀ F : Fx, Cx F cc nL y.cls ws ret → F.l = l → F.R = rmOf fr mc ms lo → F.D = D → F.cy = cy → F.nw = nw → F.meth.name = y.name → G F nL S 0 0 (QR F post mc ms) 0 (lv_args 0 av) []) : kR l y ws fr lo D cy nw av S post mc ms := by
  intro sz
  refine Met.ofW hy hw ?_
  intro p e s m args below meth c s₁ B hml hv
  obtain ⟨rfl, hsz, hP, hK, hD0, hN⟩ := hv
  subst hsz
  have hg := body (p, l, e, (headSpec ws (rmOf fr mc ms lo)).room, s, m, av.toArray, below, meth, c, D, cy, va_A (wW cy S) s.heap.size, s.heap, nw)
    ⟨B.exec, B.bytes, hml, findClass_of_methodNamed B.named, atoms_spec (ws := ws) B.pre, B.notSynchronized, hK, fun q h => Or.inr h, B.returns, hN, rfl⟩ rfl rfl rfl rfl rfl (name_of_methodNamed B.named B.method).1
  rw [lg_entry_eq]
  exact hg s.heap [] _ hP (hD0.self (sz := s.heap.size)) va_S.rf (lv_entry av hav)
section CR
variable {F : Fx} {cc : ByteArray} {nL : Nat} {own : String} {Ts : List Cond} {ret : Option FieldType} {S : PS} {kc ks : Nat} {Q : State → Prop} {pc : Nat} {lv : List (Nat × Value)} {st : List Value} {a : Nat} {mc ms : Nat}
theorem hS_F (Z : Cx F cc nL own Ts ret) {H : Heap} {locs : List Loc} (hS : va_S F.A F.H0 H locs) {t : State} (ht : t.heap = H) : va_F F.A F.s t := by
  have h := hS
  rw [Z.2.2.2.2.2.2.2.2.2.2] at h
  exact h.F ht
theorem g_iret (Z : Cx F cc nL own Ts (some .int)) {post : Int32 → PS → Prop} {r : Int32} (d : decode cc pc = .ok (.ireturn, 1)) (h1 : kc ≤ mc) (h2 : ks ≤ ms) (hp : post r S) : G F nL S kc ks (QI F post mc ms) pc lv [.int r] := by
  intro H locs ls hP hD hS hl
  exact W.widen h1 h2 (W.iret Z.1 Z.2.1 Z.2.2.2.2.2.2.2.2.1 (fun t ht hW => ⟨⟨r, S, rfl, hp, by rw [ht]; exact hP, va_K.moved hW.alike Z.2.2.2.2.2.2.1, hD⟩, hS_F Z hS ht⟩) hS.2.2 d Z.2.2.2.2.2.1)
theorem g_zret (Z : Cx F cc nL own Ts (some .boolean)) {post : Int32 → PS → Prop} {r : Int32} (d : decode cc pc = .ok (.ireturn, 1)) (hn : narrow .boolean (.int r) = .int r) (h1 : kc ≤ mc) (h2 : ks ≤ ms) (hp : post r S) : G F nL S kc ks (QI F post mc ms) pc lv [.int r] := by
  intro H locs ls hP hD hS hl
  exact W.widen h1 h2 (W.zret Z.1 Z.2.1 Z.2.2.2.2.2.2.2.2.1 hn (fun t ht hW => ⟨⟨r, S, rfl, hp, by rw [ht]; exact hP, va_K.moved hW.alike Z.2.2.2.2.2.2.1, hD⟩, hS_F Z hS ht⟩) hS.2.2 d Z.2.2.2.2.2.1)
theorem g_lret (Z : Cx F cc nL own Ts (some .long)) {post : Int64 → PS → Prop} {r : Int64} (d : decode cc pc = .ok (.lreturn, 1)) (h1 : kc ≤ mc) (h2 : ks ≤ ms) (hp : post r S) : G F nL S kc ks (QL F post mc ms) pc lv [.long r] := by
  intro H locs ls hP hD hS hl
  exact W.widen h1 h2 (W.lret Z.1 Z.2.1 Z.2.2.2.2.2.2.2.2.1 (fun t ht hW => ⟨⟨r, S, rfl, hp, by rw [ht]; exact hP, va_K.moved hW.alike Z.2.2.2.2.2.2.1, hD⟩, hS_F Z hS ht⟩) hS.2.2 d Z.2.2.2.2.2.1)
theorem g_vret (Z : Cx F cc nL own Ts none) {post : PS → Prop} (d : decode cc pc = .ok (.return_, 1)) (h1 : kc ≤ mc) (h2 : ks ≤ ms) (hp : post S) : G F nL S kc ks (QV F post mc ms) pc lv [] := by
  intro H locs ls hP hD hS hl
  exact W.widen h1 h2 (W.vret Z.1 Z.2.1 Z.2.2.2.2.2.2.2.2.1 (fun t ht hW => ⟨⟨S, rfl, hp, by rw [ht]; exact hP, va_K.moved hW.alike Z.2.2.2.2.2.2.1, hD⟩, hS_F Z hS ht⟩) hS.2.2 d Z.2.2.2.2.2.1)
theorem g_aret (Z : Cx F cc nL own Ts ret) {rt : FieldType} {post : Option Nat → PS → Prop} {r : Nat} (hr : ret = some rt) (hrt : (∃ n, rt = .object n) ∨ ∃ t, rt = .array t) (d : decode cc pc = .ok (.areturn, 1)) (h1 : kc ≤ mc) (h2 : ks ≤ ms) (hp : post (some r) S) : G F nL S kc ks (QR F post mc ms) pc lv [.ref r] := by
  intro H locs ls hP hD hS hl
  subst hr
  exact W.widen h1 h2 (W.aret Z.1 Z.2.1 Z.2.2.2.2.2.2.2.2.1 hrt (Or.inr ⟨r, rfl⟩) (fun t ht hW => ⟨⟨some r, S, rfl, hp, by rw [ht]; exact hP, va_K.moved hW.alike Z.2.2.2.2.2.2.1, hD⟩, hS_F Z hS ht⟩) hS.2.2 d Z.2.2.2.2.2.1)
theorem g_aretN (Z : Cx F cc nL own Ts ret) {rt : FieldType} {post : Option Nat → PS → Prop} (hr : ret = some rt) (hrt : (∃ n, rt = .object n) ∨ ∃ t, rt = .array t) (d : decode cc pc = .ok (.areturn, 1)) (h1 : kc ≤ mc) (h2 : ks ≤ ms) (hp : post none S) : G F nL S kc ks (QR F post mc ms) pc lv [.null] := by
  intro H locs ls hP hD hS hl
  subst hr
  exact W.widen h1 h2 (W.aret Z.1 Z.2.1 Z.2.2.2.2.2.2.2.2.1 hrt (Or.inl rfl) (fun t ht hW => ⟨⟨none, S, rfl, hp, by rw [ht]; exact hP, va_K.moved hW.alike Z.2.2.2.2.2.2.1, hD⟩, hS_F Z hS ht⟩) hS.2.2 d Z.2.2.2.2.2.1)
theorem ww_free (Z : Cx F cc nL own Ts ret) {H : Heap} {locs : List Loc} (hD : va_D F.A (wW F.cy S)) (hS : va_S F.A F.H0 H locs) : ∀ q, va_A (wW F.cy S) H.size q → F.A q := by
  intro q h
  rcases h with ⟨k, e, h⟩ | h
  · exact hD.2 k _ h
  · exact Z.2.2.2.2.2.2.2.1 q (Nat.le_trans hS.1 h)
theorem mb_of (Z : Cx F cc nL own Ts ret) {H : Heap} {locs : List Loc} (hP : va_P F.D vwCl (wW F.cy S) H) (hD : va_D F.A (wW F.cy S)) (hS : va_S F.A F.H0 H locs) {U : State} (hU : U.heap = H) (hW : F.s.WarmedH U.vm) : MBf F.D F.cy F.nw S H.size U :=
  ⟨by rw [hU], by rw [hU]; exact hP, va_K.moved hW.alike Z.2.2.2.2.2.2.1, hD.weaken (fun _ _ _ _ => trivial), by rw [hU]; exact ((nw_now Z hS).narrow (ww_free Z hD hS)).warm hW⟩

theorem g_cvI (Z : Cx F cc nL own Ts ret) {y : MethodName} {ws ws' : List Cond} {fr lo ix maxL : Nat} {bytes : ByteArray} {ret2 : Option FieldType} {C : String} {b κ N : Nat} {T0 : u_T} {As stk : List Value} {post : Int32 → PS → Prop} (hM : kI F.l y ws fr lo F.D F.cy F.nw (.ref b :: As) S post mc ms) (n : Nat) (hT : GoodIn Ts (wsV own ix C y ws)) (hw : ws = Cond.code y bytes maxL ret2 :: ws') (hd : y.cls = C ∧ y.cls ≠ "java/lang/invoke/MethodHandle" ∧ y.cls ≠ "java/lang/invoke/VarHandle" ∧ (parseMethodDescriptor y.desc).map (fun d => d.parameters.length) = some n) (hR : fr + 1 ≤ F.R.frames ∧ 8 + (maxL + 11) + lo ≤ F.R.locals) (hb : b ∈ S.L) (hKb : S.K b = κ) (hc : vwCl[κ]? = some (C, T0, N)) (hκ : κ < 7) (hn : As.length = n) (hst : stk = As.reverse ++ .ref b :: st) (hW : (st.map fun v => v.category).sum ≤ 8) (d : decode cc pc = .ok (.invokevirtual ix, 3)) (hf : kc + mc ≤ F.R.cells ∧ ks + ms ≤ F.R.slots)
    (k : ∀ (r : Int32) (T : PS), post r T → G F nL T (kc + mc) (ks + ms) Q (pc + 3) lv (.int r :: st)) : G F nL S kc ks Q pc lv stk := by
  intro H locs ls hP hD hS hl
  obtain ⟨k0, hk0⟩ := ww_at F.cy S hb
  rw [wcell_o F.cy S hKb hκ] at hk0
  have hF := ww_free Z hD hS
  refine va_calli (va_runV (As := As) (rest := st) ⟨Z.1, Z.2.1, Z.2.2.1, Z.2.2.2.1, Z.2.2.2.2.1⟩ (hM H.size) (cwV n Z.2.2.2.2.1 hT hw rfl rfl hd hR) ⟨mb_blind, va_recv Z.2.2.2.2.2.2.1 hP hc hk0, fun U hU hW => ⟨rfl, mb_of Z hP hD hS hU hW⟩⟩ rfl hn hl.1 hst (lv_room hW) d hf) hS (fun q _ h => hF q h) hF (fun r u t H1 locs1 ht hvm hw hB hz1 hk1 hS1 => ?_)
  obtain ⟨hP1, hK1, hD1⟩ := hB
  rw [ht] at hP1
  exact k r u hw H1 locs1 ls hP1 (hD1.weaken (fun k q _ h => hF q.1 h)) hS1 hl
theorem g_csI (Z : Cx F cc nL own Ts ret) {y : MethodName} {ws ws' : List Cond} {fr lo ix maxL : Nat} {bytes : ByteArray} {ret2 : Option FieldType} {As stk : List Value} {post : Int32 → PS → Prop} (hM : kI F.l y ws fr lo F.D F.cy F.nw As S post mc ms) (n : Nat) (hT : GoodIn Ts (va_wsS own ix y ws)) (hw : ws = Cond.code y bytes maxL ret2 :: ws') (hd : y.cls ≠ "java/lang/invoke/MethodHandle" ∧ y.cls ≠ "java/lang/invoke/VarHandle" ∧ (parseMethodDescriptor y.desc).map (fun d => d.parameters.length) = some n) (hR : fr + 1 ≤ F.R.frames ∧ 8 + (maxL + 11) + lo ≤ F.R.locals) (hn : As.length = n) (hst : stk = As.reverse ++ st) (hW : (st.map fun v => v.category).sum ≤ 8) (d : decode cc pc = .ok (.invokestatic ix, 3)) (hf : kc + mc ≤ F.R.cells ∧ ks + ms ≤ F.R.slots)
    (k : ∀ (r : Int32) (T : PS), post r T → G F nL T (kc + mc) (ks + ms) Q (pc + 3) lv (.int r :: st)) : G F nL S kc ks Q pc lv stk := by
  intro H locs ls hP hD hS hl
  have hF := ww_free Z hD hS
  refine va_calli (va_runS (As := As) (rest := st) ⟨Z.1, Z.2.1, Z.2.2.1, Z.2.2.2.1, Z.2.2.2.2.1⟩ (hM H.size) (va_cwS n Z.2.2.2.2.1 hT hw rfl rfl hd hR) ⟨mb_blind, fun U hU hW => ⟨rfl, mb_of Z hP hD hS hU hW⟩⟩ rfl hn hl.1 hst (lv_room hW) d hf) hS (fun q _ h => hF q h) hF (fun r u t H1 locs1 ht hvm hw hB hz1 hk1 hS1 => ?_)
  obtain ⟨hP1, hK1, hD1⟩ := hB
  rw [ht] at hP1
  exact k r u hw H1 locs1 ls hP1 (hD1.weaken (fun k q _ h => hF q.1 h)) hS1 hl
theorem g_cvL (Z : Cx F cc nL own Ts ret) {y : MethodName} {ws ws' : List Cond} {fr lo ix maxL : Nat} {bytes : ByteArray} {ret2 : Option FieldType} {C : String} {b κ N : Nat} {T0 : u_T} {As stk : List Value} {post : Int64 → PS → Prop} (hM : kL F.l y ws fr lo F.D F.cy F.nw (.ref b :: As) S post mc ms) (n : Nat) (hT : GoodIn Ts (wsV own ix C y ws)) (hw : ws = Cond.code y bytes maxL ret2 :: ws') (hd : y.cls = C ∧ y.cls ≠ "java/lang/invoke/MethodHandle" ∧ y.cls ≠ "java/lang/invoke/VarHandle" ∧ (parseMethodDescriptor y.desc).map (fun d => d.parameters.length) = some n) (hR : fr + 1 ≤ F.R.frames ∧ 8 + (maxL + 11) + lo ≤ F.R.locals) (hb : b ∈ S.L) (hKb : S.K b = κ) (hc : vwCl[κ]? = some (C, T0, N)) (hκ : κ < 7) (hn : As.length = n) (hst : stk = As.reverse ++ .ref b :: st) (hW : (st.map fun v => v.category).sum ≤ 8) (d : decode cc pc = .ok (.invokevirtual ix, 3)) (hf : kc + mc ≤ F.R.cells ∧ ks + ms ≤ F.R.slots)
    (k : ∀ (r : Int64) (T : PS), post r T → G F nL T (kc + mc) (ks + ms) Q (pc + 3) lv (.long r :: st)) : G F nL S kc ks Q pc lv stk := by
  intro H locs ls hP hD hS hl
  obtain ⟨k0, hk0⟩ := ww_at F.cy S hb
  rw [wcell_o F.cy S hKb hκ] at hk0
  have hF := ww_free Z hD hS
  refine va_calll (va_runV (As := As) (rest := st) ⟨Z.1, Z.2.1, Z.2.2.1, Z.2.2.2.1, Z.2.2.2.2.1⟩ (hM H.size) (cwV n Z.2.2.2.2.1 hT hw rfl rfl hd hR) ⟨mb_blind, va_recv Z.2.2.2.2.2.2.1 hP hc hk0, fun U hU hW => ⟨rfl, mb_of Z hP hD hS hU hW⟩⟩ rfl hn hl.1 hst (lv_room hW) d hf) hS (fun q _ h => hF q h) hF (fun r u t H1 locs1 ht hvm hw hB hz1 hk1 hS1 => ?_)
  obtain ⟨hP1, hK1, hD1⟩ := hB
  rw [ht] at hP1
  exact k r u hw H1 locs1 ls hP1 (hD1.weaken (fun k q _ h => hF q.1 h)) hS1 hl
theorem g_csL (Z : Cx F cc nL own Ts ret) {y : MethodName} {ws ws' : List Cond} {fr lo ix maxL : Nat} {bytes : ByteArray} {ret2 : Option FieldType} {As stk : List Value} {post : Int64 → PS → Prop} (hM : kL F.l y ws fr lo F.D F.cy F.nw As S post mc ms) (n : Nat) (hT : GoodIn Ts (va_wsS own ix y ws)) (hw : ws = Cond.code y bytes maxL ret2 :: ws') (hd : y.cls ≠ "java/lang/invoke/MethodHandle" ∧ y.cls ≠ "java/lang/invoke/VarHandle" ∧ (parseMethodDescriptor y.desc).map (fun d => d.parameters.length) = some n) (hR : fr + 1 ≤ F.R.frames ∧ 8 + (maxL + 11) + lo ≤ F.R.locals) (hn : As.length = n) (hst : stk = As.reverse ++ st) (hW : (st.map fun v => v.category).sum ≤ 8) (d : decode cc pc = .ok (.invokestatic ix, 3)) (hf : kc + mc ≤ F.R.cells ∧ ks + ms ≤ F.R.slots)
    (k : ∀ (r : Int64) (T : PS), post r T → G F nL T (kc + mc) (ks + ms) Q (pc + 3) lv (.long r :: st)) : G F nL S kc ks Q pc lv stk := by
  intro H locs ls hP hD hS hl
  have hF := ww_free Z hD hS
  refine va_calll (va_runS (As := As) (rest := st) ⟨Z.1, Z.2.1, Z.2.2.1, Z.2.2.2.1, Z.2.2.2.2.1⟩ (hM H.size) (va_cwS n Z.2.2.2.2.1 hT hw rfl rfl hd hR) ⟨mb_blind, fun U hU hW => ⟨rfl, mb_of Z hP hD hS hU hW⟩⟩ rfl hn hl.1 hst (lv_room hW) d hf) hS (fun q _ h => hF q h) hF (fun r u t H1 locs1 ht hvm hw hB hz1 hk1 hS1 => ?_)
  obtain ⟨hP1, hK1, hD1⟩ := hB
  rw [ht] at hP1
  exact k r u hw H1 locs1 ls hP1 (hD1.weaken (fun k q _ h => hF q.1 h)) hS1 hl
theorem g_cvV (Z : Cx F cc nL own Ts ret) {y : MethodName} {ws ws' : List Cond} {fr lo ix maxL : Nat} {bytes : ByteArray} {ret2 : Option FieldType} {C : String} {b κ N : Nat} {T0 : u_T} {As stk : List Value} {post : PS → Prop} (hM : kV F.l y ws fr lo F.D F.cy F.nw (.ref b :: As) S post mc ms) (n : Nat) (hT : GoodIn Ts (wsV own ix C y ws)) (hw : ws = Cond.code y bytes maxL ret2 :: ws') (hd : y.cls = C ∧ y.cls ≠ "java/lang/invoke/MethodHandle" ∧ y.cls ≠ "java/lang/invoke/VarHandle" ∧ (parseMethodDescriptor y.desc).map (fun d => d.parameters.length) = some n) (hR : fr + 1 ≤ F.R.frames ∧ 8 + (maxL + 11) + lo ≤ F.R.locals) (hb : b ∈ S.L) (hKb : S.K b = κ) (hc : vwCl[κ]? = some (C, T0, N)) (hκ : κ < 7) (hn : As.length = n) (hst : stk = As.reverse ++ .ref b :: st) (hW : (st.map fun v => v.category).sum ≤ 8) (d : decode cc pc = .ok (.invokevirtual ix, 3)) (hf : kc + mc ≤ F.R.cells ∧ ks + ms ≤ F.R.slots)
    (k : ∀ (T : PS), post T → G F nL T (kc + mc) (ks + ms) Q (pc + 3) lv st) : G F nL S kc ks Q pc lv stk := by
  intro H locs ls hP hD hS hl
  obtain ⟨k0, hk0⟩ := ww_at F.cy S hb
  rw [wcell_o F.cy S hKb hκ] at hk0
  have hF := ww_free Z hD hS
  refine va_callv (va_runV (As := As) (rest := st) ⟨Z.1, Z.2.1, Z.2.2.1, Z.2.2.2.1, Z.2.2.2.2.1⟩ (hM H.size) (cwV n Z.2.2.2.2.1 hT hw rfl rfl hd hR) ⟨mb_blind, va_recv Z.2.2.2.2.2.2.1 hP hc hk0, fun U hU hW => ⟨rfl, mb_of Z hP hD hS hU hW⟩⟩ rfl hn hl.1 hst (lv_room hW) d hf) hS (fun q _ h => hF q h) hF (fun u t H1 locs1 ht hvm hw hB hz1 hk1 hS1 => ?_)
  obtain ⟨hP1, hK1, hD1⟩ := hB
  rw [ht] at hP1
  exact k u hw H1 locs1 ls hP1 (hD1.weaken (fun k q _ h => hF q.1 h)) hS1 hl
theorem g_csV (Z : Cx F cc nL own Ts ret) {y : MethodName} {ws ws' : List Cond} {fr lo ix maxL : Nat} {bytes : ByteArray} {ret2 : Option FieldType} {As stk : List Value} {post : PS → Prop} (hM : kV F.l y ws fr lo F.D F.cy F.nw As S post mc ms) (n : Nat) (hT : GoodIn Ts (va_wsS own ix y ws)) (hw : ws = Cond.code y bytes maxL ret2 :: ws') (hd : y.cls ≠ "java/lang/invoke/MethodHandle" ∧ y.cls ≠ "java/lang/invoke/VarHandle" ∧ (parseMethodDescriptor y.desc).map (fun d => d.parameters.length) = some n) (hR : fr + 1 ≤ F.R.frames ∧ 8 + (maxL + 11) + lo ≤ F.R.locals) (hn : As.length = n) (hst : stk = As.reverse ++ st) (hW : (st.map fun v => v.category).sum ≤ 8) (d : decode cc pc = .ok (.invokestatic ix, 3)) (hf : kc + mc ≤ F.R.cells ∧ ks + ms ≤ F.R.slots)
    (k : ∀ (T : PS), post T → G F nL T (kc + mc) (ks + ms) Q (pc + 3) lv st) : G F nL S kc ks Q pc lv stk := by
  intro H locs ls hP hD hS hl
  have hF := ww_free Z hD hS
  refine va_callv (va_runS (As := As) (rest := st) ⟨Z.1, Z.2.1, Z.2.2.1, Z.2.2.2.1, Z.2.2.2.2.1⟩ (hM H.size) (va_cwS n Z.2.2.2.2.1 hT hw rfl rfl hd hR) ⟨mb_blind, fun U hU hW => ⟨rfl, mb_of Z hP hD hS hU hW⟩⟩ rfl hn hl.1 hst (lv_room hW) d hf) hS (fun q _ h => hF q h) hF (fun u t H1 locs1 ht hvm hw hB hz1 hk1 hS1 => ?_)
  obtain ⟨hP1, hK1, hD1⟩ := hB
  rw [ht] at hP1
  exact k u hw H1 locs1 ls hP1 (hD1.weaken (fun k q _ h => hF q.1 h)) hS1 hl
theorem g_cvR (Z : Cx F cc nL own Ts ret) {y : MethodName} {ws ws' : List Cond} {fr lo ix maxL : Nat} {bytes : ByteArray} {ret2 : Option FieldType} {C : String} {b κ N : Nat} {T0 : u_T} {As stk : List Value} {post : Option Nat → PS → Prop} (hM : kR F.l y ws fr lo F.D F.cy F.nw (.ref b :: As) S post mc ms) (n : Nat) (hT : GoodIn Ts (wsV own ix C y ws)) (hw : ws = Cond.code y bytes maxL ret2 :: ws') (hd : y.cls = C ∧ y.cls ≠ "java/lang/invoke/MethodHandle" ∧ y.cls ≠ "java/lang/invoke/VarHandle" ∧ (parseMethodDescriptor y.desc).map (fun d => d.parameters.length) = some n) (hR : fr + 1 ≤ F.R.frames ∧ 8 + (maxL + 11) + lo ≤ F.R.locals) (hb : b ∈ S.L) (hKb : S.K b = κ) (hc : vwCl[κ]? = some (C, T0, N)) (hκ : κ < 7) (hn : As.length = n) (hst : stk = As.reverse ++ .ref b :: st) (hW : (st.map fun v => v.category).sum ≤ 8) (d : decode cc pc = .ok (.invokevirtual ix, 3)) (hf : kc + mc ≤ F.R.cells ∧ ks + ms ≤ F.R.slots)
    (k : ∀ (r : Option Nat) (T : PS), post r T → G F nL T (kc + mc) (ks + ms) Q (pc + 3) lv (va_rf r :: st)) : G F nL S kc ks Q pc lv stk := by
  intro H locs ls hP hD hS hl
  obtain ⟨k0, hk0⟩ := ww_at F.cy S hb
  rw [wcell_o F.cy S hKb hκ] at hk0
  have hF := ww_free Z hD hS
  refine va_callq (va_runV (As := As) (rest := st) ⟨Z.1, Z.2.1, Z.2.2.1, Z.2.2.2.1, Z.2.2.2.2.1⟩ (hM H.size) (cwV n Z.2.2.2.2.1 hT hw rfl rfl hd hR) ⟨mb_blind, va_recv Z.2.2.2.2.2.2.1 hP hc hk0, fun U hU hW => ⟨rfl, mb_of Z hP hD hS hU hW⟩⟩ rfl hn hl.1 hst (lv_room hW) d hf) hS (fun q _ h => hF q h) hF (fun r u t H1 locs1 ht hvm hw hB hz1 hk1 hS1 => ?_)
  obtain ⟨hP1, hK1, hD1⟩ := hB
  rw [ht] at hP1
  exact k r u hw H1 locs1 ls hP1 (hD1.weaken (fun k q _ h => hF q.1 h)) hS1 hl
theorem g_csR (Z : Cx F cc nL own Ts ret) {y : MethodName} {ws ws' : List Cond} {fr lo ix maxL : Nat} {bytes : ByteArray} {ret2 : Option FieldType} {As stk : List Value} {post : Option Nat → PS → Prop} (hM : kR F.l y ws fr lo F.D F.cy F.nw As S post mc ms) (n : Nat) (hT : GoodIn Ts (va_wsS own ix y ws)) (hw : ws = Cond.code y bytes maxL ret2 :: ws') (hd : y.cls ≠ "java/lang/invoke/MethodHandle" ∧ y.cls ≠ "java/lang/invoke/VarHandle" ∧ (parseMethodDescriptor y.desc).map (fun d => d.parameters.length) = some n) (hR : fr + 1 ≤ F.R.frames ∧ 8 + (maxL + 11) + lo ≤ F.R.locals) (hn : As.length = n) (hst : stk = As.reverse ++ st) (hW : (st.map fun v => v.category).sum ≤ 8) (d : decode cc pc = .ok (.invokestatic ix, 3)) (hf : kc + mc ≤ F.R.cells ∧ ks + ms ≤ F.R.slots)
    (k : ∀ (r : Option Nat) (T : PS), post r T → G F nL T (kc + mc) (ks + ms) Q (pc + 3) lv (va_rf r :: st)) : G F nL S kc ks Q pc lv stk := by
  intro H locs ls hP hD hS hl
  have hF := ww_free Z hD hS
  refine va_callq (va_runS (As := As) (rest := st) ⟨Z.1, Z.2.1, Z.2.2.1, Z.2.2.2.1, Z.2.2.2.2.1⟩ (hM H.size) (va_cwS n Z.2.2.2.2.1 hT hw rfl rfl hd hR) ⟨mb_blind, fun U hU hW => ⟨rfl, mb_of Z hP hD hS hU hW⟩⟩ rfl hn hl.1 hst (lv_room hW) d hf) hS (fun q _ h => hF q h) hF (fun r u t H1 locs1 ht hvm hw hB hz1 hk1 hS1 => ?_)
  obtain ⟨hP1, hK1, hD1⟩ := hB
  rw [ht] at hP1
  exact k r u hw H1 locs1 ls hP1 (hD1.weaken (fun k q _ h => hF q.1 h)) hS1 hl
theorem g_ci (Z : Cx F cc nL own Ts ret) {y : MethodName} {ws ws' : List Cond} {fr lo ix maxL : Nat} {bytes : ByteArray} {b : Nat} {As stk : List Value} {post : PS → Prop} (hM : kV F.l y ws fr lo F.D F.cy F.nw (.ref b :: As) S post mc ms) (n : Nat) (hT : GoodIn Ts ws) (hw : ws = Cond.code y bytes maxL none :: ws') (hi1 : Cond.initialized y.cls ∈ Ts) (hi2 : Cond.methodLink own ix y ∈ Ts) (hi3 : Cond.instanceMethod y ∈ Ts) (hy1 : y.name = "<init>") (hd : y.cls ≠ "java/lang/invoke/MethodHandle" ∧ y.cls ≠ "java/lang/invoke/VarHandle" ∧ (parseMethodDescriptor y.desc).map (fun d => d.parameters.length) = some n) (hR : fr + 1 ≤ F.R.frames ∧ 8 + (maxL + 11) + lo ≤ F.R.locals) (hn : As.length = n) (hst : stk = As.reverse ++ .ref b :: st) (hW : (st.map fun v => v.category).sum ≤ 8) (d : decode cc pc = .ok (.invokespecial ix, 3)) (hf : kc + mc ≤ F.R.cells ∧ ks + ms ≤ F.R.slots)
    (k : ∀ (T : PS), post T → G F nL T (kc + mc) (ks + ms) Q (pc + 3) lv st) : G F nL S kc ks Q pc lv stk := by
  intro H locs ls hP hD hS hl
  have hF := ww_free Z hD hS
  refine va_callv (va_runI (As := As) (rest := st) ⟨Z.1, Z.2.1, Z.2.2.1, Z.2.2.2.1, Z.2.2.2.2.1⟩ (hM H.size) (cwI n Z.2.2.2.2.1 hT hw rfl rfl (Z.2.2.2.2.1 _ hi1) (Z.2.2.2.2.1 _ hi2) (Z.2.2.2.2.1 _ hi3) hy1 hd hR) ⟨mb_blind, fun U hU hW => ⟨rfl, mb_of Z hP hD hS hU hW⟩⟩ rfl hn hl.1 hst (lv_room hW) d hf) hS (fun q _ h => hF q h) hF (fun u t H1 locs1 ht hvm hw hB hz1 hk1 hS1 => ?_)
  obtain ⟨hP1, hK1, hD1⟩ := hB
  rw [ht] at hP1
  exact k u hw H1 locs1 ls hP1 (hD1.weaken (fun k q _ h => hF q.1 h)) hS1 hl
/-- a nest mate's private constructor -/
theorem g_ciN (Z : Cx F cc nL own Ts ret) {y : MethodName} {ws ws' : List Cond} {fr lo ix maxL : Nat} {bytes : ByteArray} {b : Nat} {As stk : List Value} {post : PS → Prop} (hM : kV F.l y ws fr lo F.D F.cy F.nw (.ref b :: As) S post mc ms) (n : Nat) (hT : GoodIn Ts ws) (hw : ws = Cond.code y bytes maxL none :: ws') (hi1 : Cond.initialized y.cls ∈ Ts) (hi2 : va_Nw (.methodLinkNest own ix y "RoaringIndex") F.s) (hi3 : Cond.instanceMethod y ∈ Ts) (hy1 : y.name = "<init>") (hd : y.cls ≠ "java/lang/invoke/MethodHandle" ∧ y.cls ≠ "java/lang/invoke/VarHandle" ∧ (parseMethodDescriptor y.desc).map (fun d => d.parameters.length) = some n) (hR : fr + 1 ≤ F.R.frames ∧ 8 + (maxL + 11) + lo ≤ F.R.locals) (hn : As.length = n) (hst : stk = As.reverse ++ .ref b :: st) (hW : (st.map fun v => v.category).sum ≤ 8) (d : decode cc pc = .ok (.invokespecial ix, 3)) (hf : kc + mc ≤ F.R.cells ∧ ks + ms ≤ F.R.slots)
    (k : ∀ (T : PS), post T → G F nL T (kc + mc) (ks + ms) Q (pc + 3) lv st) : G F nL S kc ks Q pc lv stk := by
  intro H locs ls hP hD hS hl
  have hF := ww_free Z hD hS
  refine va_callv (va_runIN (As := As) (rest := st) ⟨Z.1, Z.2.1, Z.2.2.1, Z.2.2.2.1, Z.2.2.2.2.1⟩ (hM H.size) ⟨va_cnB n Z.2.2.2.2.1 hT hw rfl rfl hi2 (Z.2.2.2.2.1 _ hi1) hd hR, hy1, Z.2.2.2.2.1 _ hi3⟩ ⟨mb_blind, fun U hU hW => ⟨rfl, mb_of Z hP hD hS hU hW⟩⟩ rfl hn hl.1 hst (lv_room hW) d hf) hS (fun q _ h => hF q h) hF (fun u t H1 locs1 ht hvm hw hB hz1 hk1 hS1 => ?_)
  obtain ⟨hP1, hK1, hD1⟩ := hB
  rw [ht] at hP1
  exact k u hw H1 locs1 ls hP1 (hD1.weaken (fun k q _ h => hF q.1 h)) hS1 hl
end CR
