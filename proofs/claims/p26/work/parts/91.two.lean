/-! TWO POOLS: the class's cells S, the reference's cells M -/
def G2 (F : Fx) (nL : Nat) (S M : PS) (kc ks : Nat) (Q : State → Prop) (pc : Nat) (lv : List (Nat × Value)) (st : List Value) : Prop :=
  ∀ (H : Heap) (locs : List Loc) (ls : Array Slot), va_P F.D vwCl (wW F.cy S ++ wW F.cy M) H → va_D F.A (wW F.cy S ++ wW F.cy M) → va_S F.A F.H0 H locs → lv_has ls nL lv → W F.p F.l F.e F.R F.s F.m F.args F.below F.meth F.c H locs kc ks Q (F0 F.m pc ls st)
theorem pp_L {D : va_G} {cl : List vw_C} {a b : va_W} {H : Heap} (h : va_P D cl (a ++ b) H) : va_P D cl a H := fun k q hk => h k q (by rw [List.getElem?_append_left (List.getElem?_eq_some_iff.mp hk).1]; exact hk)
theorem pp_R {D : va_G} {cl : List vw_C} {a b : va_W} {H : Heap} (h : va_P D cl (a ++ b) H) : va_P D cl b H := fun k q hk => h (a.length + k) q (by rw [List.getElem?_append_right (Nat.le_add_right _ _), Nat.add_sub_cancel_left]; exact hk)
theorem pd_L {A : Nat → Prop} {a b : va_W} (h : va_D A (a ++ b)) : va_D A a := by
  have z : ∀ (k : Nat) (q : Nat × va_E), a[k]? = some q → (a ++ b)[k]? = some q := fun k q hk => by rw [List.getElem?_append_left (List.getElem?_eq_some_iff.mp hk).1]; exact hk
  exact ⟨fun i j p q hi hj e => h.1 i j p q (z i p hi) (z j q hj) e, fun k q hk => h.2 k q (z k q hk)⟩
theorem pd_R {A : Nat → Prop} {a b : va_W} (h : va_D A (a ++ b)) : va_D A b := by
  have z : ∀ (k : Nat) (q : Nat × va_E), b[k]? = some q → (a ++ b)[a.length + k]? = some q := fun k q hk => by rw [List.getElem?_append_right (Nat.le_add_right _ _), Nat.add_sub_cancel_left]; exact hk
  exact ⟨fun i j p q hi hj e => by have := h.1 _ _ p q (z i p hi) (z j q hj) e; omega, fun k q hk => h.2 _ q (z k q hk)⟩
theorem pd_X {A : Nat → Prop} {a b : va_W} (h : va_D A (a ++ b)) (i j : Nat) (p q : Nat × va_E) (hi : a[i]? = some p) (hj : b[j]? = some q) : p.1 ≠ q.1 := by
  intro e
  have hl := (List.getElem?_eq_some_iff.mp hi).1
  have := h.1 i (a.length + j) p q (by rw [List.getElem?_append_left hl]; exact hi) (by rw [List.getElem?_append_right (Nat.le_add_right _ _), Nat.add_sub_cancel_left]; exact hj) e
  omega
/-- behind a call over the first pool -/
theorem jn_1 {A : Nat → Prop} {D : va_G} {cl : List vw_C} {a b t : va_W} {H H1 : Heap} (hP : va_P D cl (a ++ b) H) (hD : va_D A (a ++ b)) (hk : ∀ q : Nat, q < H.size → ¬ va_A a H.size q → H1[q]? = H[q]?) (hF : ∀ q, va_A a H.size q → A q) (hP1 : va_P D cl t H1) (hD1 : va_D (va_A a H.size) t) : va_P D cl (t ++ b) H1 ∧ va_D A (t ++ b) := by
  have apart : ∀ (k : Nat) (q : Nat × va_E), b[k]? = some q → q.1 < H.size ∧ ¬ va_A a H.size q.1 := by
    intro k q hq
    have hl := (pp_R hP k q hq).lt
    refine ⟨hl, fun h => ?_⟩
    rcases h with ⟨i, e, h⟩ | h
    · exact pd_X hD i k _ q h hq rfl
    · omega
  refine ⟨va_P.app hP1 (fun k q hq => ?_), va_D.app (hD1.weaken (fun k q _ h => hF q.1 h)) (pd_R hD) (fun i j x y hx hy e => ?_)⟩
  · obtain ⟨g1, g2⟩ := apart k q hq
    exact (pp_R hP k q hq).kept (hk q.1 g1 g2)
  · exact (apart j y hy).2 (by rw [← e]; exact hD1.2 i x hx)
/-- behind a call over the second pool -/
theorem jn_2 {A : Nat → Prop} {D : va_G} {cl : List vw_C} {a b t : va_W} {H H1 : Heap} (hP : va_P D cl (a ++ b) H) (hD : va_D A (a ++ b)) (hk : ∀ q : Nat, q < H.size → ¬ va_A b H.size q → H1[q]? = H[q]?) (hF : ∀ q, va_A b H.size q → A q) (hP1 : va_P D cl t H1) (hD1 : va_D (va_A b H.size) t) : va_P D cl (a ++ t) H1 ∧ va_D A (a ++ t) := by
  have apart : ∀ (k : Nat) (q : Nat × va_E), a[k]? = some q → q.1 < H.size ∧ ¬ va_A b H.size q.1 := by
    intro k q hq
    have hl := (pp_L hP k q hq).lt
    refine ⟨hl, fun h => ?_⟩
    rcases h with ⟨i, e, h⟩ | h
    · exact pd_X hD k i q _ hq h rfl
    · omega
  refine ⟨va_P.app (fun k q hq => ?_) hP1, va_D.app (pd_L hD) (hD1.weaken (fun k q _ h => hF q.1 h)) (fun i j x y hx hy e => ?_)⟩
  · obtain ⟨g1, g2⟩ := apart k q hq
    exact (pp_L hP k q hq).kept (hk q.1 g1 g2)
  · exact (apart i x hx).2 (by rw [e]; exact hD1.2 j y hy)

theorem h_lv {F : Fx} {nL : Nat} {S M : PS} {kc ks : Nat} {Q : State → Prop} {pc : Nat} {lv lv' : List (Nat × Value)} {st : List Value} (h : lvsub lv lv') (k : G2 F nL S M kc ks Q pc lv' st) : G2 F nL S M kc ks Q pc lv st :=
  fun H locs ls hP hD hS hl => k H locs ls hP hD hS ⟨hl.1, hl.2.1, fun q hq => hl.2.2 q (lvg_mem _ _ _ (lvsub_mem lv lv' h q hq))⟩
theorem h_widen {F : Fx} {nL : Nat} {S M : PS} {kc ks k2 s2 : Nat} {Q : State → Prop} {pc : Nat} {lv : List (Nat × Value)} {st : List Value} (h1 : kc ≤ k2) (h2 : ks ≤ s2) (k : G2 F nL S M k2 s2 Q pc lv st) : G2 F nL S M kc ks Q pc lv st :=
  fun H locs ls hP hD hS hl => W.widen h1 h2 (k H locs ls hP hD hS hl)
section G2R
variable {F : Fx} {cc : ByteArray} {nL : Nat} {own : String} {Ts : List Cond} {ret : Option FieldType} {S M : PS} {kc ks : Nat} {Q : State → Prop} {pc : Nat} {lv : List (Nat × Value)} {st : List Value} {mc ms : Nat}
theorem h_iconst {n : Int} {v : Int32} (Z : Cx F cc nL own Ts ret) (d : decode cc pc = .ok (.iconst n, 1)) (hv : Int32.ofInt n = v) (k : G2 F nL S M kc ks Q (pc + 1) lv (.int v :: st)) : G2 F nL S M kc ks Q pc lv st := fun H locs ls hP hD hS hl => lv_iconst Z.1 Z.2.1 d hv (k H locs ls hP hD hS hl)
theorem h_bipush {n : Int} {v : Int32} (Z : Cx F cc nL own Ts ret) (d : decode cc pc = .ok (.bipush n, 2)) (hv : (Int8.ofInt n).toInt32 = v) (k : G2 F nL S M kc ks Q (pc + 2) lv (.int v :: st)) : G2 F nL S M kc ks Q pc lv st := fun H locs ls hP hD hS hl => lv_bipush Z.1 Z.2.1 d hv (k H locs ls hP hD hS hl)
theorem h_ldc2 {ix : Nat} {v : Int64} (Z : Cx F cc nL own Ts ret) (d : decode cc pc = .ok (.ldc2_w ix, 3)) (hc : Cond.constantLong own ix v ∈ Ts) (k : G2 F nL S M kc ks Q (pc + 3) lv (.long v :: st)) : G2 F nL S M kc ks Q pc lv st := fun H locs ls hP hD hS hl => lv_ldc2 Z.1 Z.2.1 Z.2.2.2.1 (Z.2.2.2.2.1 _ hc) d (k H locs ls hP hD hS hl)
theorem h_iload_n {k : Fin 4} {x : Int32} (Z : Cx F cc nL own Ts ret) (d : decode cc pc = .ok (.iload_n k, 1)) (hv : lvg lv (k : Nat) = some (.int x)) (kk : G2 F nL S M kc ks Q (pc + 1) lv (.int x :: st)) : G2 F nL S M kc ks Q pc lv st := fun H locs ls hP hD hS hl => lv_iload_n Z.1 Z.2.1 d rfl (lvg_at hl hv) (kk H locs ls hP hD hS hl)
theorem h_aload_n {k : Fin 4} {x : Nat} (Z : Cx F cc nL own Ts ret) (d : decode cc pc = .ok (.aload_n k, 1)) (hv : lvg lv (k : Nat) = some (.ref x)) (kk : G2 F nL S M kc ks Q (pc + 1) lv (.ref x :: st)) : G2 F nL S M kc ks Q pc lv st := fun H locs ls hP hD hS hl => lv_aload_n Z.1 Z.2.1 d rfl (lvg_at hl hv) (kk H locs ls hP hD hS hl)
theorem h_istore_n {k : Fin 4} {x : Int32} (Z : Cx F cc nL own Ts ret) (d : decode cc pc = .ok (.istore_n k, 1)) (hn : (k : Nat) < nL) (kk : G2 F nL S M kc ks Q (pc + 1) (lv1 (k : Nat) (.int x) lv) st) : G2 F nL S M kc ks Q pc lv (.int x :: st) := fun H locs ls hP hD hS hl => lv_istore_n Z.1 Z.2.1 d rfl hl hn rfl (fun ls' hl' => kk H locs ls' hP hD hS hl')
theorem h_astore_n {k : Fin 4} {x : Nat} (Z : Cx F cc nL own Ts ret) (d : decode cc pc = .ok (.astore_n k, 1)) (hn : (k : Nat) < nL) (kk : G2 F nL S M kc ks Q (pc + 1) (lv1 (k : Nat) (.ref x) lv) st) : G2 F nL S M kc ks Q pc lv (.ref x :: st) := fun H locs ls hP hD hS hl => lv_astore_n Z.1 Z.2.1 d rfl hl hn rfl (fun ls' hl' => kk H locs ls' hP hD hS hl')
theorem h_iadd {x y : Int32} (Z : Cx F cc nL own Ts ret) (d : decode cc pc = .ok (.iadd, 1))  (k : G2 F nL S M kc ks Q (pc + 1) lv (.int (x + y) :: st)) : G2 F nL S M kc ks Q pc lv (.int y :: .int x :: st) := fun H locs ls hP hD hS hl => lv_iadd Z.1 Z.2.1 d  (k H locs ls hP hD hS hl)
theorem h_isub {x y : Int32} (Z : Cx F cc nL own Ts ret) (d : decode cc pc = .ok (.isub, 1))  (k : G2 F nL S M kc ks Q (pc + 1) lv (.int (x - y) :: st)) : G2 F nL S M kc ks Q pc lv (.int y :: .int x :: st) := fun H locs ls hP hD hS hl => lv_isub Z.1 Z.2.1 d  (k H locs ls hP hD hS hl)
theorem h_iand {x y : Int32} (Z : Cx F cc nL own Ts ret) (d : decode cc pc = .ok (.iand, 1))  (k : G2 F nL S M kc ks Q (pc + 1) lv (.int (x &&& y) :: st)) : G2 F nL S M kc ks Q pc lv (.int y :: .int x :: st) := fun H locs ls hP hD hS hl => lv_iand Z.1 Z.2.1 d  (k H locs ls hP hD hS hl)
theorem h_lor {x y : Int64} (Z : Cx F cc nL own Ts ret) (d : decode cc pc = .ok (.lor, 1))  (k : G2 F nL S M kc ks Q (pc + 1) lv (.long (x ||| y) :: st)) : G2 F nL S M kc ks Q pc lv (.long y :: .long x :: st) := fun H locs ls hP hD hS hl => lv_lor Z.1 Z.2.1 d  (k H locs ls hP hD hS hl)
theorem h_land {x y : Int64} (Z : Cx F cc nL own Ts ret) (d : decode cc pc = .ok (.land, 1))  (k : G2 F nL S M kc ks Q (pc + 1) lv (.long (x &&& y) :: st)) : G2 F nL S M kc ks Q pc lv (.long y :: .long x :: st) := fun H locs ls hP hD hS hl => lv_land Z.1 Z.2.1 d  (k H locs ls hP hD hS hl)
theorem h_lshl {x : Int64} {y : Int32} (Z : Cx F cc nL own Ts ret) (d : decode cc pc = .ok (.lshl, 1))  (k : G2 F nL S M kc ks Q (pc + 1) lv (.long (x <<< (y.toInt64 &&& 63)) :: st)) : G2 F nL S M kc ks Q pc lv (.int y :: .long x :: st) := fun H locs ls hP hD hS hl => lv_lshl Z.1 Z.2.1 d rfl (k H locs ls hP hD hS hl)
theorem h_i2l {x : Int32} (Z : Cx F cc nL own Ts ret) (d : decode cc pc = .ok (.i2l, 1))  (k : G2 F nL S M kc ks Q (pc + 1) lv (.long x.toInt64 :: st)) : G2 F nL S M kc ks Q pc lv (.int x :: st) := fun H locs ls hP hD hS hl => lv_i2l Z.1 Z.2.1 d rfl (k H locs ls hP hD hS hl)
theorem h_pop {va : Value} (Z : Cx F cc nL own Ts ret) (d : decode cc pc = .ok (.pop, 1)) (h1 : va.category = 1) (k : G2 F nL S M kc ks Q (pc + 1) lv st) : G2 F nL S M kc ks Q pc lv (va :: st) := fun H locs ls hP hD hS hl => lv_pop Z.1 Z.2.1 d h1 (k H locs ls hP hD hS hl)
theorem h_pop2 {va : Value} (Z : Cx F cc nL own Ts ret) (d : decode cc pc = .ok (.pop2, 1)) (h1 : va.category = 2) (k : G2 F nL S M kc ks Q (pc + 1) lv st) : G2 F nL S M kc ks Q pc lv (va :: st) := fun H locs ls hP hD hS hl => lv_pop2_2 Z.1 Z.2.1 d h1 (k H locs ls hP hD hS hl)
theorem h_goto {off : Int} (Z : Cx F cc nL own Ts ret) (tgt : Nat) (d : decode cc pc = .ok (.goto off, 3)) (ht : (pc : Int) + off = (tgt : Int)) (k : G2 F nL S M kc ks Q tgt lv st) : G2 F nL S M kc ks Q pc lv st := fun H locs ls hP hD hS hl => lv_goto Z.1 Z.2.1 d ht (k H locs ls hP hD hS hl)
theorem h_icmp_gt {x y : Int32} {off : Int} (Z : Cx F cc nL own Ts ret) (tgt : Nat) (d : decode cc pc = .ok (.if_icmp .gt off, 3)) (ht : (pc : Int) + off = (tgt : Int)) (kt : y < x → G2 F nL S M kc ks Q tgt lv st) (kf : ¬ y < x → G2 F nL S M kc ks Q (pc + 3) lv st) : G2 F nL S M kc ks Q pc lv (.int y :: .int x :: st) := fun H locs ls hP hD hS hl => lv_icmp_gt Z.1 Z.2.1 d ht (fun h => kt h H locs ls hP hD hS hl) (fun h => kf h H locs ls hP hD hS hl)
theorem h_tableIn {dflt lo hi : Int} {offs : Array Int} {len : Nat} {x : Int32} {off : Int} (Z : Cx F cc nL own Ts ret) (tgt : Nat) (d : decode cc pc = .ok (.tableswitch dflt lo hi offs, len)) (h1 : ¬ x.toInt < lo) (h2 : ¬ hi < x.toInt) (ho : offs[(x.toInt - lo).toNat]? = some off) (ht : (pc : Int) + off = (tgt : Int)) (k : G2 F nL S M kc ks Q tgt lv st) : G2 F nL S M kc ks Q pc lv (.int x :: st) := fun H locs ls hP hD hS hl => lv_tableIn Z.1 Z.2.1 d h1 h2 ho ht (k H locs ls hP hD hS hl)
theorem h_tableOut {dflt lo hi : Int} {offs : Array Int} {len : Nat} {x : Int32} (Z : Cx F cc nL own Ts ret) (tgt : Nat) (d : decode cc pc = .ok (.tableswitch dflt lo hi offs, len)) (h : x.toInt < lo ∨ hi < x.toInt) (ht : (pc : Int) + dflt = (tgt : Int)) (k : G2 F nL S M kc ks Q tgt lv st) : G2 F nL S M kc ks Q pc lv (.int x :: st) := fun H locs ls hP hD hS hl => lv_tableOut Z.1 Z.2.1 d h ht (k H locs ls hP hD hS hl)
theorem h_dup {va : Value} (Z : Cx F cc nL own Ts ret) (d : decode cc pc = .ok (.dup, 1)) (h1 : va.category = 1) (k : G2 F nL S M kc ks Q (pc + 1) lv (va :: va :: st)) : G2 F nL S M kc ks Q pc lv (va :: st) := fun H locs ls hP hD hS hl => lv_dup Z.1 Z.2.1 d h1 (k H locs ls hP hD hS hl)
theorem h_iinc {i : Nat} {n : Int} {x c : Int32} (Z : Cx F cc nL own Ts ret) (d : decode cc pc = .ok (.iinc i n, 3)) (hx : lvg lv i = some (.int x)) (hc : Int32.ofInt n = c) (hn : i < nL) (kk : G2 F nL S M kc ks Q (pc + 3) (lv1 i (.int (x + c)) lv) st) : G2 F nL S M kc ks Q pc lv st := fun H locs ls hP hD hS hl => by obtain ⟨j, hj⟩ := lvg_pos _ _ _ hx; exact lv_iinc Z.1 Z.2.1 d hl hj (by rw [hc]) hn rfl (fun ls' hl' => kk H locs ls' hP hD hS hl')
theorem h_xI (Z : Cx F cc nL own Ts ret) {y : MethodName} {ws ws' : List Cond} {fr lo ix maxL : Nat} {bytes : ByteArray} {ret2 : Option FieldType} {C : String} {b κ N : Nat} {T0 : u_T} {As stk : List Value} {post : Int32 → PS → Prop} (hM : kI F.l y ws fr lo F.D F.cy F.nw (.ref b :: As) S post mc ms) (n : Nat) (hT : GoodIn Ts (wsV own ix C y ws)) (hw : ws = Cond.code y bytes maxL ret2 :: ws') (hd : y.cls = C ∧ y.cls ≠ "java/lang/invoke/MethodHandle" ∧ y.cls ≠ "java/lang/invoke/VarHandle" ∧ (parseMethodDescriptor y.desc).map (fun d => d.parameters.length) = some n) (hR : fr + 1 ≤ F.R.frames ∧ 8 + (maxL + 11) + lo ≤ F.R.locals) (hb : b ∈ S.L) (hKb : S.K b = κ) (hc : vwCl[κ]? = some (C, T0, N)) (hκ : κ < 7) (hn : As.length = n) (hst : stk = As.reverse ++ .ref b :: st) (hW : (st.map fun v => v.category).sum ≤ 8) (d : decode cc pc = .ok (.invokevirtual ix, 3)) (hf : kc + mc ≤ F.R.cells ∧ ks + ms ≤ F.R.slots)
    (k : ∀ (r : Int32) (T : PS), post r T → G2 F nL T M (kc + mc) (ks + ms) Q (pc + 3) lv (.int r :: st)) : G2 F nL S M kc ks Q pc lv stk := by
  intro H locs ls hP hD hS hl
  have hPc := pp_L hP
  have hDc := pd_L hD
  obtain ⟨k0, hk0⟩ := ww_at F.cy S hb
  rw [wcell_o F.cy S hKb hκ] at hk0
  have hF := ww_free (S := S) Z hDc hS
  refine va_calli (va_runV (As := As) (rest := st) ⟨Z.1, Z.2.1, Z.2.2.1, Z.2.2.2.1, Z.2.2.2.2.1⟩ (hM H.size) (cwV n Z.2.2.2.2.1 hT hw rfl rfl hd hR) ⟨mb_blind, va_recv Z.2.2.2.2.2.2.1 hPc hc hk0, fun U hU hW => ⟨rfl, mb_of (S := S) Z hPc hDc hS hU hW⟩⟩ rfl hn hl.1 hst (lv_room hW) d hf) hS (fun q _ h => hF q h) hF (fun r u t H1 locs1 ht hvm hw hB hz1 hk1 hS1 => ?_)
  obtain ⟨hP1, hK1, hD1⟩ := hB
  rw [ht] at hP1
  obtain ⟨a1, a2⟩ := jn_1 hP hD hk1 hF hP1 hD1
  exact k r u hw H1 locs1 ls a1 a2 hS1 hl
theorem h_xL (Z : Cx F cc nL own Ts ret) {y : MethodName} {ws ws' : List Cond} {fr lo ix maxL : Nat} {bytes : ByteArray} {ret2 : Option FieldType} {C : String} {b κ N : Nat} {T0 : u_T} {As stk : List Value} {post : Int64 → PS → Prop} (hM : kL F.l y ws fr lo F.D F.cy F.nw (.ref b :: As) S post mc ms) (n : Nat) (hT : GoodIn Ts (wsV own ix C y ws)) (hw : ws = Cond.code y bytes maxL ret2 :: ws') (hd : y.cls = C ∧ y.cls ≠ "java/lang/invoke/MethodHandle" ∧ y.cls ≠ "java/lang/invoke/VarHandle" ∧ (parseMethodDescriptor y.desc).map (fun d => d.parameters.length) = some n) (hR : fr + 1 ≤ F.R.frames ∧ 8 + (maxL + 11) + lo ≤ F.R.locals) (hb : b ∈ S.L) (hKb : S.K b = κ) (hc : vwCl[κ]? = some (C, T0, N)) (hκ : κ < 7) (hn : As.length = n) (hst : stk = As.reverse ++ .ref b :: st) (hW : (st.map fun v => v.category).sum ≤ 8) (d : decode cc pc = .ok (.invokevirtual ix, 3)) (hf : kc + mc ≤ F.R.cells ∧ ks + ms ≤ F.R.slots)
    (k : ∀ (r : Int64) (T : PS), post r T → G2 F nL T M (kc + mc) (ks + ms) Q (pc + 3) lv (.long r :: st)) : G2 F nL S M kc ks Q pc lv stk := by
  intro H locs ls hP hD hS hl
  have hPc := pp_L hP
  have hDc := pd_L hD
  obtain ⟨k0, hk0⟩ := ww_at F.cy S hb
  rw [wcell_o F.cy S hKb hκ] at hk0
  have hF := ww_free (S := S) Z hDc hS
  refine va_calll (va_runV (As := As) (rest := st) ⟨Z.1, Z.2.1, Z.2.2.1, Z.2.2.2.1, Z.2.2.2.2.1⟩ (hM H.size) (cwV n Z.2.2.2.2.1 hT hw rfl rfl hd hR) ⟨mb_blind, va_recv Z.2.2.2.2.2.2.1 hPc hc hk0, fun U hU hW => ⟨rfl, mb_of (S := S) Z hPc hDc hS hU hW⟩⟩ rfl hn hl.1 hst (lv_room hW) d hf) hS (fun q _ h => hF q h) hF (fun r u t H1 locs1 ht hvm hw hB hz1 hk1 hS1 => ?_)
  obtain ⟨hP1, hK1, hD1⟩ := hB
  rw [ht] at hP1
  obtain ⟨a1, a2⟩ := jn_1 hP hD hk1 hF hP1 hD1
  exact k r u hw H1 locs1 ls a1 a2 hS1 hl
theorem h_mI (Z : Cx F cc nL own Ts ret) {y : MethodName} {ws ws' : List Cond} {fr lo ix maxL : Nat} {bytes : ByteArray} {ret2 : Option FieldType} {C : String} {b κ N : Nat} {T0 : u_T} {As stk : List Value} {post : Int32 → PS → Prop} (hM : kI F.l y ws fr lo F.D F.cy F.nw (.ref b :: As) M post mc ms) (n : Nat) (hT : GoodIn Ts (wsV own ix C y ws)) (hw : ws = Cond.code y bytes maxL ret2 :: ws') (hd : y.cls = C ∧ y.cls ≠ "java/lang/invoke/MethodHandle" ∧ y.cls ≠ "java/lang/invoke/VarHandle" ∧ (parseMethodDescriptor y.desc).map (fun d => d.parameters.length) = some n) (hR : fr + 1 ≤ F.R.frames ∧ 8 + (maxL + 11) + lo ≤ F.R.locals) (hb : b ∈ M.L) (hKb : M.K b = κ) (hc : vwCl[κ]? = some (C, T0, N)) (hκ : κ < 7) (hn : As.length = n) (hst : stk = As.reverse ++ .ref b :: st) (hW : (st.map fun v => v.category).sum ≤ 8) (d : decode cc pc = .ok (.invokevirtual ix, 3)) (hf : kc + mc ≤ F.R.cells ∧ ks + ms ≤ F.R.slots)
    (k : ∀ (r : Int32) (T : PS), post r T → G2 F nL S T (kc + mc) (ks + ms) Q (pc + 3) lv (.int r :: st)) : G2 F nL S M kc ks Q pc lv stk := by
  intro H locs ls hP hD hS hl
  have hPc := pp_R hP
  have hDc := pd_R hD
  obtain ⟨k0, hk0⟩ := ww_at F.cy M hb
  rw [wcell_o F.cy M hKb hκ] at hk0
  have hF := ww_free (S := M) Z hDc hS
  refine va_calli (va_runV (As := As) (rest := st) ⟨Z.1, Z.2.1, Z.2.2.1, Z.2.2.2.1, Z.2.2.2.2.1⟩ (hM H.size) (cwV n Z.2.2.2.2.1 hT hw rfl rfl hd hR) ⟨mb_blind, va_recv Z.2.2.2.2.2.2.1 hPc hc hk0, fun U hU hW => ⟨rfl, mb_of (S := M) Z hPc hDc hS hU hW⟩⟩ rfl hn hl.1 hst (lv_room hW) d hf) hS (fun q _ h => hF q h) hF (fun r u t H1 locs1 ht hvm hw hB hz1 hk1 hS1 => ?_)
  obtain ⟨hP1, hK1, hD1⟩ := hB
  rw [ht] at hP1
  obtain ⟨a1, a2⟩ := jn_2 hP hD hk1 hF hP1 hD1
  exact k r u hw H1 locs1 ls a1 a2 hS1 hl
theorem h_mL (Z : Cx F cc nL own Ts ret) {y : MethodName} {ws ws' : List Cond} {fr lo ix maxL : Nat} {bytes : ByteArray} {ret2 : Option FieldType} {C : String} {b κ N : Nat} {T0 : u_T} {As stk : List Value} {post : Int64 → PS → Prop} (hM : kL F.l y ws fr lo F.D F.cy F.nw (.ref b :: As) M post mc ms) (n : Nat) (hT : GoodIn Ts (wsV own ix C y ws)) (hw : ws = Cond.code y bytes maxL ret2 :: ws') (hd : y.cls = C ∧ y.cls ≠ "java/lang/invoke/MethodHandle" ∧ y.cls ≠ "java/lang/invoke/VarHandle" ∧ (parseMethodDescriptor y.desc).map (fun d => d.parameters.length) = some n) (hR : fr + 1 ≤ F.R.frames ∧ 8 + (maxL + 11) + lo ≤ F.R.locals) (hb : b ∈ M.L) (hKb : M.K b = κ) (hc : vwCl[κ]? = some (C, T0, N)) (hκ : κ < 7) (hn : As.length = n) (hst : stk = As.reverse ++ .ref b :: st) (hW : (st.map fun v => v.category).sum ≤ 8) (d : decode cc pc = .ok (.invokevirtual ix, 3)) (hf : kc + mc ≤ F.R.cells ∧ ks + ms ≤ F.R.slots)
    (k : ∀ (r : Int64) (T : PS), post r T → G2 F nL S T (kc + mc) (ks + ms) Q (pc + 3) lv (.long r :: st)) : G2 F nL S M kc ks Q pc lv stk := by
  intro H locs ls hP hD hS hl
  have hPc := pp_R hP
  have hDc := pd_R hD
  obtain ⟨k0, hk0⟩ := ww_at F.cy M hb
  rw [wcell_o F.cy M hKb hκ] at hk0
  have hF := ww_free (S := M) Z hDc hS
  refine va_calll (va_runV (As := As) (rest := st) ⟨Z.1, Z.2.1, Z.2.2.1, Z.2.2.2.1, Z.2.2.2.2.1⟩ (hM H.size) (cwV n Z.2.2.2.2.1 hT hw rfl rfl hd hR) ⟨mb_blind, va_recv Z.2.2.2.2.2.2.1 hPc hc hk0, fun U hU hW => ⟨rfl, mb_of (S := M) Z hPc hDc hS hU hW⟩⟩ rfl hn hl.1 hst (lv_room hW) d hf) hS (fun q _ h => hF q h) hF (fun r u t H1 locs1 ht hvm hw hB hz1 hk1 hS1 => ?_)
  obtain ⟨hP1, hK1, hD1⟩ := hB
  rw [ht] at hP1
  obtain ⟨a1, a2⟩ := jn_2 hP hD hk1 hF hP1 hD1
  exact k r u hw H1 locs1 ls a1 a2 hS1 hl
theorem h_mi (Z : Cx F cc nL own Ts ret) {y : MethodName} {ws ws' : List Cond} {fr lo ix maxL : Nat} {bytes : ByteArray} {b : Nat} {As stk : List Value} {post : PS → Prop} (hM : kV F.l y ws fr lo F.D F.cy F.nw (.ref b :: As) M post mc ms) (n : Nat) (hT : GoodIn Ts ws) (hw : ws = Cond.code y bytes maxL none :: ws') (hi1 : Cond.initialized y.cls ∈ Ts) (hi2 : Cond.methodLink own ix y ∈ Ts) (hi3 : Cond.instanceMethod y ∈ Ts) (hy1 : y.name = "<init>") (hd : y.cls ≠ "java/lang/invoke/MethodHandle" ∧ y.cls ≠ "java/lang/invoke/VarHandle" ∧ (parseMethodDescriptor y.desc).map (fun d => d.parameters.length) = some n) (hR : fr + 1 ≤ F.R.frames ∧ 8 + (maxL + 11) + lo ≤ F.R.locals) (hn : As.length = n) (hst : stk = As.reverse ++ .ref b :: st) (hW : (st.map fun v => v.category).sum ≤ 8) (d : decode cc pc = .ok (.invokespecial ix, 3)) (hf : kc + mc ≤ F.R.cells ∧ ks + ms ≤ F.R.slots)
    (k : ∀ (T : PS), post T → G2 F nL S T (kc + mc) (ks + ms) Q (pc + 3) lv st) : G2 F nL S M kc ks Q pc lv stk := by
  intro H locs ls hP hD hS hl
  have hPc := pp_R hP
  have hDc := pd_R hD
  have hF := ww_free (S := M) Z hDc hS
  refine va_callv (va_runI (As := As) (rest := st) ⟨Z.1, Z.2.1, Z.2.2.1, Z.2.2.2.1, Z.2.2.2.2.1⟩ (hM H.size) (cwI n Z.2.2.2.2.1 hT hw rfl rfl (Z.2.2.2.2.1 _ hi1) (Z.2.2.2.2.1 _ hi2) (Z.2.2.2.2.1 _ hi3) hy1 hd hR) ⟨mb_blind, fun U hU hW => ⟨rfl, mb_of (S := M) Z hPc hDc hS hU hW⟩⟩ rfl hn hl.1 hst (lv_room hW) d hf) hS (fun q _ h => hF q h) hF (fun u t H1 locs1 ht hvm hw hB hz1 hk1 hS1 => ?_)
  obtain ⟨hP1, hK1, hD1⟩ := hB
  rw [ht] at hP1
  obtain ⟨a1, a2⟩ := jn_2 hP hD hk1 hF hP1 hD1
  exact k u hw H1 locs1 ls a1 a2 hS1 hl
/-- a new object, alone in the second pool -/
theorem h_newm (Z : Cx F cc nL own Ts ret) (κ : Nat) {C : String} {T : u_T} {N ix : Nat} (hc : vwCl[κ]? = some (C, T, N)) (h7 : κ < 7) (ty0 : Nat → FieldType) (hty : ∀ k, k < N → parseFieldDescriptor (T k).2.2.1 = some (ty0 k)) (hin : ∀ w ∈ u_ws C T N, w ∈ Ts) (hfs : ∀ j, j < N → defaultValue (ty0 j) = vp_V (fval ([], fun _ => 0, fun _ _ => 0, fun _ _ => none, fun _ => 0, fun _ _ => 0, fun _ _ => 0, fun _ _ => none) 0 0 (lay κ)) j) (hcl : Cond.classLink own ix C ∈ Ts) (hinst : Cond.instantiable C N ∈ Ts) (hini : Cond.initialized C ∈ Ts) (d : decode cc pc = .ok (.new ix, 3)) (hcc : kc + 1 ≤ F.R.cells) (hs : ks + N ≤ F.R.slots) (k : ∀ q, G2 F nL S (eP.newO q κ) (kc + 1) (ks + N) Q (pc + 3) lv (.ref q :: st)) : G F nL S kc ks Q pc lv st := by
  intro H locs ls hP hD hS hl
  refine va_new (ci := κ) Z.1 Z.2.1 Z.2.2.2.2.1 hin ty0 hty Z.2.2.2.1 (Z.2.2.2.2.1 _ hcl) (Z.2.2.2.2.1 _ hinst) (Z.2.2.2.2.1 _ hini) Z.2.2.2.2.2.2.1 hP hD hS Z.2.2.2.2.2.2.2.1 hc hfs hcc hs d (fun q H1 hP1 hD1 hS1 => ?_)
  have e1 : wW F.cy (eP.newO q κ) = [(q, .inr (κ, fval ([], fun _ => 0, fun _ _ => 0, fun _ _ => none, fun _ => 0, fun _ _ => 0, fun _ _ => 0, fun _ _ => none) 0 0 (lay κ)))] := by
    show [(q, wcell F.cy (eP.newO q κ) q)] = _
    rw [wcell_o F.cy (eP.newO q κ) (va_up_self _ _ _) h7]
    congr 4
    apply List.ext_getElem?
    intro i
    rw [fval_get, fval_get]
    show (lay κ)[i]?.map (fun b => match b with | true => va_rf (va_up eP.fr q (fun _ => none) q (0 + i)) | false => .int (va_up eP.fi q (fun _ => 0) q (0 + i))) = _
    rw [va_up_self, va_up_self]
    rfl
  rw [← e1] at hP1 hD1
  exact k q H1 locs ls hP1 hD1 hS1 hl
end G2R
