theorem arr_p {s : State} {args : Array Value} {ty : FieldType} (hp : ty = .byte ∨ ty = .int ∨ ty = .long) (h : (Cond.arrayClass ty).before args s = true) : ∃ cA : ClassId, ArrOfT s cA ty ∧ va_RA s cA ty := by
  obtain ⟨c, k, comp, h1, h2, h3⟩ := Cond.arrayClass_spec h
  exact ⟨c, fun n z => ⟨fun k h => (by cases h), k, h2, comp, h3⟩, by rcases hp with rfl | rfl | rfl <;> exact h1⟩
theorem arr_o {s : State} {C : String} (h : va_AO C s) : ∃ cA : ClassId, ArrOfT s cA (.object C) ∧ va_RA s cA (.object C) := by
  obtain ⟨comp, c, k, h1, h2, h3, h4, h5⟩ := Cond.arrayOver_spec h
  exact ⟨c, fun n z => ⟨fun k h => (by cases h), k, h3, comp, h4⟩, k, comp, h3, h4, h1, h5⟩
theorem len_lt {args : Array Value} {s : State} {t : Term} {v : Value} (h : (Term.length t).eval args s none [] s = some v) : ∃ a cell, t.eval args s none [] s = some (.ref a) ∧ s.arrayAt? a = some cell ∧ cell.slots.size < 2 ^ 31 ∧ v = .int cell.slots.size.toInt32 := by
  simp only [Term.eval, Option.bind_eq_bind] at h
  cases ht : t.eval args s none [] s with
  | none => simp [ht] at h
  | some x =>
    cases x <;> simp [ht] at h
    case ref a =>
      obtain ⟨cell, hcell, h⟩ := Option.bind_eq_some_iff.mp h
      by_cases hn : cell.slots.size < 2147483648
      · rw [if_pos hn] at h; cases h; exact ⟨a, cell, rfl, hcell, hn, rfl⟩
      · rw [if_neg hn] at h; cases h
/-- the empty array that the static holds -/
theorem nw_of {args : Array Value} {s : State} {A : Nat → Prop} (hA : ∀ a : Nat, a < s.heap.size → ¬ A a) (hN : NN s) (hl : (Cond.laysStatic "RoaringIndex" "NO_WORDS" "[J").before args s = true) (hini : (Cond.initialized "RoaringIndex").before args s = true) (harr : (Cond.arrayOf (.static "RoaringIndex" "NO_WORDS" "[J") .long).before args s = true) (hlen : (Cond.eq (.length (.static "RoaringIndex" "NO_WORDS" "[J")) (.int 0)).before args s = true) : ∃ nw, NwO nw A s s.heap := by
  obtain ⟨a, cell, h1, h2, h3, h4⟩ := len_lt (va_eqt hlen)
  obtain ⟨hcell, -, -, -⟩ := State.arrayAt?_spec h2
  obtain ⟨hof, -⟩ := Cond.arrayOf_spec harr h1 hcell
  have e : nI cell.slots.size = nI 0 := (Value.int.inj h4).symm.trans nI_0.symm
  exact ⟨a, hN, va_Zref hl hini h1 hA, hA a (Array.getElem?_eq_some_iff.mp hcell).1, cell, hcell, hof, (nI_eq h3 (by decide)).mp e⟩
def cyOf (a b c d e : ClassId) : Nat → ClassId := fun κ => match κ with | 7 => a | 8 => b | 9 => c | 10 => d | _ => e

/-! THE CLAIM OUT OF ONE WALK OF THE LAW'S BODY. Your part is whole_start (and what it stands on); all else here is the same for every law, but numbers. -/
def R_law : String := "RoaringIndexLaw"
def lw_P (b : Addr) (xs : List Int32) (args : Array Value) (s : State) : Prop := args = #[.ref b] ∧ s.IntsAt b xs ∧ xs.length ≤ 3072 ∧ (Jvm.Cond.and given_1 narrow_1).before args s = true
def lw_Q (_ : Array Value) (s : State) (o : Outcome) (t : State) : Prop := o = .returned (some (.int 1)) ∧ Framed s o t [] 600000 7302250
def lw_Z (below : List Frame) (a : Array Value) (s : State) : State → Prop := fun t => ∃ o, t.status = .running ∧ Ended t below o ∧ lw_Q a s o t
/-- the law's own end, with 1 on the stack, nothing written that was there before, its room as the claim has it -/
theorem lw_ret {p : Program} {l : Launch} {e : Env} {s : State} {m : MethodId} {below : List Frame} {meth : Method} {c : Code} {b : Nat} (hx : p.tables.exec = Jvm.exec) (hb : c.code = code) (hr : meth.sig.returnType = ret) (hlocks : meth.locks = false) {pc : Nat} {H : Heap} {ls : Array Slot} (hdg : decode code pc = .ok (.ireturn, 1)) : W p l e room_1 s m #[Value.ref b] below meth c H [] 600000 7302250 (lw_Z below #[Value.ref b] s) (F0 m pc ls [.int 1]) := by
  intro T hT X
  obtain ⟨fs, hret, hrun, hended, hW, hframe⟩ := X.leave (v := some (.int 1)) (hlocks := hlocks) (fun h => by rw [hr] at h; cases h)
  have hmeth' : T.vm.method? m = some meth := X.method'
  refine ⟨T.setFrames fs, ?_, .returned (some (.int 1)), hrun, hended, rfl, ⟨_, rfl⟩, hW, hframe⟩
  jvm_step X.here [X.here.top, hx, hb, hdg, hmeth', hr, ret, narrow_b1]
  (try refine ⟨rfl, ?_⟩); (try refine ⟨rfl, ?_⟩)
  first | (intro acts; rw [hret _ acts rfl rfl rfl]) | rw [hret _ _ rfl rfl rfl]
  exact Steps.refl _
/-- what holds at the law's entry: the machine, the code, the tables' words (any of lw_tbl by 'hts w (by decide +kernel)'), the script of L ints xs at the cell b, what the Statement gives of the start (any of its parts by flat_of_before) -/
def lw_At (p : Program) (s : State) (m : MethodId) (meth : Method) (c : Code) (b L : Nat) (xs : Nat → Int32) : Prop :=
  p.tables.exec = Jvm.exec ∧ c.code = code ∧ meth.sig.returnType = ret ∧ c.maxLocals = 4 ∧ s.vm.findClass R_law = some m.cls ∧ (∀ w ∈ lw_tbl, w.before #[Value.ref b] s = true) ∧ va_X b L xs s s.heap ∧ b < s.heap.size ∧ meth.locks = false ∧ (Jvm.Cond.and given_1 narrow_1).before #[Value.ref b] s = true

set_option maxHeartbeats 4000000 in
set_option maxRecDepth 100000 in
theorem whole_start {p : Program} {e : Env} {s : State} {m : MethodId} {below : List Frame} {meth : Method} {c : Code} (l : Launch) {b L : Nat} {xs : Nat → Int32} (hL : L ≤ 3072) (C0 : lw_At p s m meth c b L xs) : W p l e room_1 s m #[Value.ref b] below meth c s.heap [] 0 0 (lw_Z below #[Value.ref b] s) (entryFrame m ([Value.ref b] : List Value).toArray 4) := by
  obtain ⟨hx, hb, hr, hml, hown, htb, hX, hbl, hlocks, hgv⟩ := id C0
  have hf := flat_of_before _ hgv
  obtain ⟨c0, i0, hk0⟩ := u_known (C := RX0) (T := TX0) (N := 2) (n := 2) htb inX0 (htb (.instantiable RX0 2) (by decide +kernel))
  obtain ⟨c1, i1, hk1⟩ := u_known (C := RX1) (T := TX1) (N := 4) (n := 4) htb inX1 (htb (.instantiable RX1 4) (by decide +kernel))
  obtain ⟨c2, i2, hk2⟩ := u_known (C := RX2) (T := TX2) (N := 2) (n := 2) htb inX2 (htb (.instantiable RX2 2) (by decide +kernel))
  obtain ⟨c3, i3, hk3⟩ := u_known (C := RX3) (T := TX3) (N := 2) (n := 2) htb inX3 (htb (.instantiable RX3 2) (by decide +kernel))
  obtain ⟨c4, i4, hk4⟩ := u_known (C := RX4) (T := TX4) (N := 10) (n := 10) htb inX4 (htb (.instantiable RX4 10) (by decide +kernel))
  obtain ⟨c5, i5, hk5⟩ := u_known (C := RX6) (T := TX6) (N := 6) (n := 6) htb inX6 (htb (.instantiable RX6 6) (by decide +kernel))
  obtain ⟨c6, i6, hk6⟩ := u_known (C := RX7) (T := TX7) (N := 16) (n := 16) htb inX7 (htb (.instantiable RX7 16) (by decide +kernel))
  obtain ⟨dC, dI, hKc⟩ : ∃ (dC : Nat → ClassId) (dI : Nat → Nat → Nat), ∀ (k : Nat) (q : vw_C), vwCl[k]? = some q → u_Kn s q.1 q.2.1 q.2.2 (dC k) (dI k) := by
    refine ⟨fun k => match k with | 0 => c0 | 1 => c1 | 2 => c2 | 3 => c3 | 4 => c4 | 5 => c5 | _ => c6, fun k => match k with | 0 => i0 | 1 => i1 | 2 => i2 | 3 => i3 | 4 => i4 | 5 => i5 | _ => i6, ?_⟩
    intro k q hq
    match k, hq with
    | 0, hq => cases hq; exact hk0
    | 1, hq => cases hq; exact hk1
    | 2, hq => cases hq; exact hk2
    | 3, hq => cases hq; exact hk3
    | 4, hq => cases hq; exact hk4
    | 5, hq => cases hq; exact hk5
    | 6, hq => cases hq; exact hk6
    | k + 7, hq => simp [vwCl] at hq
  obtain ⟨cAB, arB⟩ := arr_p (ty := .byte) (Or.inl rfl) (htb (.arrayClass .byte) (by decide +kernel))
  obtain ⟨cAI, arI⟩ := arr_p (ty := .int) (Or.inr (Or.inl rfl)) (htb (.arrayClass .int) (by decide +kernel))
  obtain ⟨cAJ, arJ⟩ := arr_p (ty := .long) (Or.inr (Or.inr rfl)) (htb (.arrayClass .long) (by decide +kernel))
  have aoC : va_AO "RoaringIndex$Container" s := va_AO.of (htb (.arrayOver (.object "RoaringIndex$Container")) (by decide +kernel))
  have aoN : va_AO "RoaringIndex$NumberSet" s := va_AO.of (htb (.arrayOver (.object "RoaringIndex$NumberSet")) (by decide +kernel))
  obtain ⟨cAC, arC⟩ := arr_o aoC
  obtain ⟨cAN, arN⟩ := arr_o aoN
  have hK : va_K (dC, dI) vwCl (wty (cyOf cAB cAI cAJ cAC cAN)) s := ⟨hKc, fun k q h => by
    match k, h with
    | 0, h => cases h; exact arB
    | 1, h => cases h; exact arI
    | 2, h => cases h; exact arJ
    | 3, h => cases h; exact arC
    | 4, h => cases h; exact arN
    | k + 5, h => simp [wty] at h⟩
  have hNN : NN s := ⟨va_Nw.of rfl (htb (.fieldLinkNest "RoaringIndex$Container" 9 "RoaringIndex" "NO_WORDS" "[J" "RoaringIndex") (by decide +kernel)), va_Nw.of rfl (htb (.methodLinkNest "RoaringIndex$NumberSet" 17 yX1_init "RoaringIndex") (by decide +kernel)), va_Nw.of rfl (htb (.methodLinkNest "RoaringIndex" 29 yX0_init "RoaringIndex") (by decide +kernel)), va_Nw.of rfl (htb (.methodLinkNest "RoaringIndex" 36 yX4_init "RoaringIndex") (by decide +kernel)), aoC, aoN⟩
  obtain ⟨nw, hNw⟩ := nw_of (A := fun q : Nat => s.heap.size ≤ q) (fun a h => Nat.not_le.mpr h) hNN (htb (.laysStatic "RoaringIndex" "NO_WORDS" "[J") (by decide +kernel)) (htb (.initialized "RoaringIndex") (by decide +kernel)) (hf (.arrayOf (.static "RoaringIndex" "NO_WORDS" "[J") .long) (by decide +kernel)) (hf (.eq (.length (.static "RoaringIndex" "NO_WORDS" "[J")) (.int 0)) (by decide +kernel))
  have X : LX (p, l, e, room_1, s, m, #[Value.ref b], below, meth, c, (dC, dI), cyOf cAB cAI cAJ cAC cAN, (fun q : Nat => s.heap.size ≤ q), s.heap, nw) b L xs := ⟨⟨hx, hb, hml, hown, fun w hw => htb w (wsL_law_in w hw), hlocks, hK, fun q h => h, hr, hNw, rfl⟩, hX, hbl, Nat.not_le.mpr hbl, hL, rfl, rfl, rfl, rfl⟩
  have hg := lw_start (Q := lw_Z below #[Value.ref b] s) X (fun S M kc ks lv h1 h2 => by
    refine h_iconst (v := 1) X.1 dL_law_990 (by decide) ?_
    intro H locs ls hP hD hS hl
    refine W.widen h1 h2 ?_
    exact va_forget (fun q hq => hS.2.2 q hq) (lw_ret hx hb hr hlocks dL_law_991))
  rw [lg_entry_eq]
  exact hg s.heap [] _ (fun k q h => by cases h) ⟨(fun i j p q h => by cases h), (fun k q h => by cases h)⟩ va_S.rf (lv_entry [.ref b] (n := 4) (Nat.le_of_ble_eq_true rfl))
set_option maxHeartbeats 4000000 in
theorem lw_walk (l : Launch) (b : Addr) (xs : List Int32) : MetFree l x (headSpec (Jvm.Cond.code x code maxLocals ret :: tables_1) room_1) (lw_P b xs) (fun _ _ _ _ _ => True) lw_Q := by
  refine MetFree.of_bodyS (code := code) (maxLocals := maxLocals) (ret := ret) (by decide) ?_ ?_
  · intro args s m h hn
    obtain ⟨meth, c, h1, h2, h3, h4, h5, h6, -, -⟩ := Cond.code_spec hn (atoms_spec (ws := Jvm.Cond.code x code maxLocals ret :: tables_1) h _ List.mem_cons_self)
    exact ⟨meth, c, h1, h2, h3, h4, h5, h6⟩
  · intro p e s m args below meth c s₁ B hml0 hP _
    obtain ⟨rfl, hx, hbd, hgv⟩ := hP
    obtain ⟨scr, harrAt, hlist, hof, hsmall⟩ := hx
    obtain ⟨hcb, hkn, -, -⟩ := State.arrayAt?_spec harrAt
    have hown : s.vm.findClass R_law = some m.cls := findClass_of_methodNamed B.named
    have hts0 : ∀ c ∈ (Jvm.Cond.code x code maxLocals ret :: tables_1), c.before #[Value.ref b] s = true := atoms_spec (ws := Jvm.Cond.code x code maxLocals ret :: tables_1) B.pre
    have hts : ∀ w ∈ lw_tbl, w.before #[Value.ref b] s = true := k2_hts_sels lw_privs (fun w hw => hts0 w (List.mem_cons_of_mem _ hw)) lw_privs_ok
    have hml : c.maxLocals = 4 := B.maxLocals_eq (hts0 _ List.mem_cons_self)
    have X₀ : Stand p l e room_1 s m #[Value.ref b] below meth c s₁ [] 0 0 := Stand.of_body B
    have hh0 : s₁.heap = s.heap := by rw [B.state]; rfl
    have hsz : scr.slots.size = xs.length := by rw [← Array.length_toList, hlist, List.length_map]
    have hval : ∀ j : Nat, j < xs.length → scr.slots[j]? = some (.int (xs.getD j 0)) := fun j hj => by
      rw [← Array.getElem?_toList, hlist]
      simp [hj]
    have hbl : b < s.heap.size := (Array.getElem?_eq_some_iff.mp hcb).1
    have hX : va_X b xs.length (fun j => xs.getD j 0) s s.heap := ⟨scr, hcb, hof, hkn, hsz, hval⟩
    have K : W p l e room_1 s m #[Value.ref b] below meth c s₁.heap [] 0 0 (lw_Z below #[Value.ref b] s) (entryFrame m ([Value.ref b] : List Value).toArray 4) := by
      rw [hh0]
      exact whole_start l hbd ⟨B.exec, B.bytes, B.returns, hml, hown, hts, hX, hbl, B.notSynchronized, hgv⟩
    obtain ⟨t, a1, o, b1, b2, b3⟩ := K s₁ rfl X₀
    exact ⟨t, o, a1, b1, b2, b3⟩
theorem lw_pre_spec {args : Array Value} {s : State} (h : (Jvm.Cond.and given_1 narrow_1).before args s = true) (hr : rest_1_c.before args s = true) : ∃ (b : Addr) (xs : List Int32), lw_P b xs args s := by
  have hs := flat_of_before _ h
  have hq := flat_of_before _ hr
  have hc : (Cond.count 1).before args s = true := hs _ (by decide +kernel)
  have harr : (Cond.arrayOf (.arg 0) .int).before args s = true := hs _ (by decide +kernel)
  have hle : (Cond.le (.length (.arg 0)) (.int 3072)).before args s = true := hs _ (by decide +kernel)
  have hlen : (Cond.isInt (.length (.arg 0))).before args s = true := hq _ (by decide +kernel)
  have hall : (Cond.all (.arg 0) (.isInt (.elem (.arg 0) (.index 0)))).before args s = true := hq _ (by decide +kernel)
  obtain ⟨b, xs, hb, hx⟩ := State.ints_of_pre rfl harr hlen hall
  have hsm : xs.length < 2 ^ 31 := hx.choose_spec.2.2.2
  have hev : (Term.length (.arg 0)).eval args s none [] s = some (.int xs.length.toInt32) := hx.length_eval hb
  have hv := Cond.le_ints hev (show (Term.int 3072).eval args s none [] s = some (.int 3072) from rfl)
  have hd : xs.length.toInt32 ≤ 3072 := by
    simpa [Cond.before, Cond.holds, hv] using hle
  have hN : xs.length ≤ 3072 := (Int32.ofNat_le_ofNat hsm (by decide)).mp (show Int32.ofNat xs.length ≤ Int32.ofNat 3072 from hd)
  exact ⟨b, xs, Cond.one_arg hc (show args[0]? = some (.ref b) from hb), hx, hN, h⟩
theorem lw_comes (l : Launch) : Comes l x (Jvm.Cond.code x code maxLocals ret :: tables_1) room_1 (fun tb e args s => Calls_1 tb e args s ∧ rest_1 tb e args s ∧ Pre_1 tb e args s)
    (fun _ _ args s o t => lw_Q args s o t) := by
  intro p e ha hc hk s m args below hf hfit hheap happ hpre
  obtain ⟨b, xs, hP⟩ := lw_pre_spec hpre.2.2 hpre.2.1
  obtain ⟨k, o, h1, h2, h3, hQ⟩ := lw_walk l b xs p e ha hc hk s m args below hf ((Spec.applies_iff_loose hf).mp happ).1 hP trivial
  exact ⟨k, o, h1, h2, h3, hQ⟩
theorem lw_frame {s t : State} {o : Outcome} {args : Array Value} (h : Framed s o t [] 600000 7302250) :
    Framed s o t (fieldLocs frame_1_writes args s ++ arrayLocs frame_1_arrays args s ++ staticLocs frame_1_statics s) 600000 7302250 := h
theorem lw_limb (L : Cond) (hL : ∀ (args : Array Value) (s t : State), L.after args s (.returned (some (.int 1))) t = true) :
    ArmFor flags0 classFile x code maxLocals ret World_1 tables_1 room_1 Calls_1 rest_1 Pre_1
      (fun tb e a s o t => postC L tb e a s o t ∧ Framed s o t (fieldLocs frame_1_writes a s ++ arrayLocs frame_1_arrays a s ++ staticLocs frame_1_statics s) 600000 7302250) := by
  intro l _ _ _ p e ha hc hk s m args below hf hfit hheap happ hpre
  obtain ⟨k, o, h1, h2, h3, rfl, hF⟩ := lw_comes l p e ha hc hk s m args below hf hfit hheap happ hpre
  exact ⟨k, _, h1, h2, h3, hL args s _, lw_frame hF⟩
theorem i_vc : Claimed_1_1 ∧ Claimed_1_2 := ⟨lw_limb limb_1_1 (fun args s t => by simp [limb_1_1, Cond.after, Cond.holds, Cond.value]), lw_limb limb_1_2 (fun args s t => Cond.after_iff.mpr (by
  first | (rw [show limb_1_2 = Cond.eq .result (.int 1) from rfl, Cond.eq_ints (x := 1) (y := 1) rfl rfl]; simp; done) | (simp [limb_1_2, Cond.value, Term.eval]; done)))⟩
