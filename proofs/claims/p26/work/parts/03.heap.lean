theorem fval_get (S : PS) (a : Nat) : ∀ (bs : List Bool) (j i : Nat), (fval S a j bs)[i]? = (bs[i]?).map (fun b => match b with | true => va_rf (S.fr a (j + i)) | false => .int (S.fi a (j + i)))
  | [], j, i => by simp [fval]
  | b :: bs, j, 0 => by cases b <;> simp [fval]
  | b :: bs, j, i + 1 => by
    simp only [fval, List.getElem?_cons_succ]
    rw [fval_get S a bs (j + 1) i, show j + 1 + i = j + (i + 1) by omega]
theorem fval_len (S : PS) (a : Nat) : ∀ (bs : List Bool) (j : Nat), (fval S a j bs).length = bs.length
  | [], _ => rfl
  | _ :: bs, j => by simp only [fval, List.length_cons]; rw [fval_len S a bs (j + 1)]
theorem fval_ext (S T : PS) (a : Nat) (bs : List Bool) (h1 : S.fr a = T.fr a) (h2 : S.fi a = T.fi a) : fval S a 0 bs = fval T a 0 bs := by
  apply List.ext_getElem?
  intro i
  rw [fval_get, fval_get, h1, h2]
theorem fval_setI (S : PS) (a i : Nat) (v : Int32) (bs : List Bool) (h : bs[i]? = some false) : (fval S a 0 bs).set i (.int v) = fval (S.setI a i v) a 0 bs := by
  have hl : i < bs.length := (List.getElem?_eq_some_iff.mp h).1
  apply List.ext_getElem?
  intro j
  by_cases hj : i = j
  · subst hj
    rw [List.getElem?_set_self (by rw [fval_len]; exact hl), fval_get, h]
    show some (Value.int v) = some (Value.int (up2 S.fi a i v a (0 + i)))
    rw [Nat.zero_add, up2_self]
  · rw [List.getElem?_set_ne hj, fval_get, fval_get]
    have : ∀ b : Bool, (match b with | true => va_rf (S.fr a (0 + j)) | false => Value.int (S.fi a (0 + j))) = (match b with | true => va_rf ((S.setI a i v).fr a (0 + j)) | false => Value.int ((S.setI a i v).fi a (0 + j))) := by
      intro b
      have hne : 0 + j ≠ i := by omega
      cases b
      · show Value.int _ = Value.int (up2 S.fi a i v a (0 + j))
        rw [up2_ne _ _ (Or.inr hne)]
      · rfl
    cases bs[j]? with
    | none => rfl
    | some b => exact congrArg some (this b)
theorem fval_setR (S : PS) (a i : Nat) (v : Option Nat) (bs : List Bool) (h : bs[i]? = some true) : (fval S a 0 bs).set i (va_rf v) = fval (S.setR a i v) a 0 bs := by
  have hl : i < bs.length := (List.getElem?_eq_some_iff.mp h).1
  apply List.ext_getElem?
  intro j
  by_cases hj : i = j
  · subst hj
    rw [List.getElem?_set_self (by rw [fval_len]; exact hl), fval_get, h]
    show some (va_rf v) = some (va_rf (up2 S.fr a i v a (0 + i)))
    rw [Nat.zero_add, up2_self]
  · rw [List.getElem?_set_ne hj, fval_get, fval_get]
    have : ∀ b : Bool, (match b with | true => va_rf (S.fr a (0 + j)) | false => Value.int (S.fi a (0 + j))) = (match b with | true => va_rf ((S.setR a i v).fr a (0 + j)) | false => Value.int ((S.setR a i v).fi a (0 + j))) := by
      intro b
      have hne : 0 + j ≠ i := by omega
      cases b
      · rfl
      · show va_rf _ = va_rf (up2 S.fr a i v a (0 + j))
        rw [up2_ne _ _ (Or.inr hne)]
    cases bs[j]? with
    | none => rfl
    | some b => exact congrArg some (this b)
theorem wcell_o (cy : Nat → ClassId) (S : PS) {a κ : Nat} (h : S.K a = κ) (h7 : κ < 7) : wcell cy S a = .inr (κ, fval S a 0 (lay κ)) := by
  subst h; unfold wcell; rw [if_pos h7]
theorem wcell_i (cy : Nat → ClassId) (S : PS) {a κ : Nat} (h : S.K a = κ) (h7 : ¬ κ < 7) (h9 : κ < 9) : wcell cy S a = .inl (cy κ, S.ln a, .inl (S.ri a)) := by
  subst h; unfold wcell; rw [if_neg h7, if_pos h9]
theorem wcell_j (cy : Nat → ClassId) (S : PS) {a : Nat} (h : S.K a = 9) : wcell cy S a = .inl (cy 9, S.ln a, .inr (.inl (S.rj a))) := by
  unfold wcell; rw [h]; rfl
theorem wcell_r (cy : Nat → ClassId) (S : PS) {a κ : Nat} (h : S.K a = κ) (h9 : 9 < κ) : wcell cy S a = .inl (cy κ, S.ln a, .inr (.inr (.inr (.inr (S.rr a))))) := by
  subst h; unfold wcell; rw [if_neg (by omega), if_neg (by omega), if_neg (by omega)]
/-- a cell that no change has reached -/
theorem wcell_eq (cy : Nat → ClassId) (S T : PS) (b : Nat) (hK : T.K b = S.K b) (h1 : S.fr b = T.fr b) (h2 : S.fi b = T.fi b) (h3 : S.ln b = T.ln b) (h4 : S.ri b = T.ri b) (h5 : S.rj b = T.rj b) (h6 : S.rr b = T.rr b) : wcell cy S b = wcell cy T b := by
  unfold wcell
  rw [hK, fval_ext S T b _ h1 h2, h3, h4, h5, h6]
theorem ww_at (cy : Nat → ClassId) (S : PS) {a : Nat} (ha : a ∈ S.L) : ∃ k : Nat, (wW cy S)[k]? = some (a, wcell cy S a) := va_pl_get (X := []) ha
theorem ww_set {cy : Nat → ClassId} {S T : PS} {A : Nat → Prop} {a k : Nat} {e : va_E} (hD : va_D A (wW cy S)) (ha : a ∈ S.L) (hk : (wW cy S)[k]? = some (a, wcell cy S a)) (hL : T.L = S.L) (he : e = wcell cy T a) (ho : ∀ b, b ≠ a → wcell cy S b = wcell cy T b) : (wW cy S).set k (a, e) = wW cy T := by
  have h1 := va_pl_set (X := []) (e := e) hD ha hk
  refine h1.trans ?_
  show va_pl S.L (va_up (wcell cy S) a e) = va_pl T.L (wcell cy T)
  rw [hL]
  apply va_pl_congr
  intro b
  by_cases hb : b = a
  · subst hb; rw [va_up_self]; exact he
  · rw [va_up_ne _ _ hb]; exact ho b hb
theorem ww_push {cy : Nat → ClassId} {S T : PS} {A : Nat → Prop} {q : Nat} {e : va_E} (hD : va_D A (wW cy S ++ [(q, e)])) (hL : T.L = S.L ++ [q]) (he : e = wcell cy T q) (ho : ∀ b, b ≠ q → wcell cy S b = wcell cy T b) : wW cy S ++ [(q, e)] = wW cy T ∧ q ∉ S.L := by
  have hq : q ∉ S.L := va_pl_fresh2 (X := []) hD
  refine ⟨?_, hq⟩
  refine (va_pl_push hq).trans ?_
  show va_pl (S.L ++ [q]) (va_up (wcell cy S) q e) = va_pl T.L (wcell cy T)
  rw [hL]
  apply va_pl_congr
  intro b
  by_cases hb : b = q
  · subst hb; rw [va_up_self]; exact he
  · rw [va_up_ne _ _ hb]; exact ho b hb
section HR
variable {F : Fx} {cc : ByteArray} {nL : Nat} {own : String} {Ts : List Cond} {ret : Option FieldType} {S : PS} {kc ks : Nat} {Q : State → Prop} {pc : Nat} {lv : List (Nat × Value)} {st : List Value} {a : Nat}
theorem g_geti (Z : Cx F cc nL own Ts ret) (κ i : Nat) {C : String} {T : u_T} {N ix : Nat} (hc : vwCl[κ]? = some (C, T, N)) (h7 : κ < 7 ∧ i < N ∧ (lay κ)[i]? = some false) (hin : ∀ w ∈ u_ws C T N, w ∈ Ts) (hlink : Cond.fieldLink own ix (T i).1 (T i).2.1 (T i).2.2.1 ∈ Ts) (d : decode cc pc = .ok (.getfield ix, 3)) (ha : a ∈ S.L) (hK : S.K a = κ) (k : G F nL S kc ks Q (pc + 3) lv (.int (S.fi a i) :: st)) : G F nL S kc ks Q pc lv (.ref a :: st) := by
  intro H locs ls hP hD hS hl
  obtain ⟨k0, hk0⟩ := ww_at F.cy S ha
  rw [wcell_o F.cy S hK h7.1] at hk0
  refine va_get Z.1 Z.2.1 Z.2.2.2.2.1 hin Z.2.2.2.1 Z.2.2.2.2.2.2.1 hP k0 hk0 hc i h7.2.1 (Z.2.2.2.2.1 _ hlink) (fun _ h => h) (v := .int (S.fi a i)) ?_ d (k H locs ls hP hD hS hl)
  rw [fval_get, h7.2.2]
  simp
theorem g_getr (Z : Cx F cc nL own Ts ret) (κ i : Nat) {C : String} {T : u_T} {N ix b : Nat} (hc : vwCl[κ]? = some (C, T, N)) (h7 : κ < 7 ∧ i < N ∧ (lay κ)[i]? = some true) (hin : ∀ w ∈ u_ws C T N, w ∈ Ts) (hlink : Cond.fieldLink own ix (T i).1 (T i).2.1 (T i).2.2.1 ∈ Ts) (d : decode cc pc = .ok (.getfield ix, 3)) (ha : a ∈ S.L) (hK : S.K a = κ) (hb : S.fr a i = some b) (k : G F nL S kc ks Q (pc + 3) lv (.ref b :: st)) : G F nL S kc ks Q pc lv (.ref a :: st) := by
  intro H locs ls hP hD hS hl
  obtain ⟨k0, hk0⟩ := ww_at F.cy S ha
  rw [wcell_o F.cy S hK h7.1] at hk0
  refine va_get Z.1 Z.2.1 Z.2.2.2.2.1 hin Z.2.2.2.1 Z.2.2.2.2.2.2.1 hP k0 hk0 hc i h7.2.1 (Z.2.2.2.2.1 _ hlink) (fun _ h => h) (v := .ref b) ?_ d (k H locs ls hP hD hS hl)
  rw [fval_get, h7.2.2]
  simp [hb, va_rf]
theorem g_puti (Z : Cx F cc nL own Ts ret) (κ i : Nat) {C : String} {T : u_T} {N ix : Nat} {v : Int32} (hc : vwCl[κ]? = some (C, T, N)) (h7 : κ < 7 ∧ i < N ∧ (lay κ)[i]? = some false) (ty0 : Nat → FieldType) (hty : ∀ k, k < N → parseFieldDescriptor (T k).2.2.1 = some (ty0 k)) (hnm : ∀ a, a < N → ∀ b, b < N → a ≠ b → (T a).2.1 ≠ (T b).2.1) (hfin : (T i).2.2.2 = false) (hin : ∀ w ∈ u_ws C T N, w ∈ Ts) (hlink : Cond.fieldLink own ix (T i).1 (T i).2.1 (T i).2.2.1 ∈ Ts) (d : decode cc pc = .ok (.putfield ix, 3)) (hn : narrow (ty0 i) (.int v) = .int v) (hf : fits (ty0 i) (.int v) = true) (ha : a ∈ S.L) (hK : S.K a = κ) (k : G F nL (S.setI a i v) kc ks Q (pc + 3) lv st) : G F nL S kc ks Q pc lv (.int v :: .ref a :: st) := by
  intro H locs ls hP hD hS hl
  obtain ⟨k0, hk0⟩ := ww_at F.cy S ha
  have hk1 := hk0
  rw [wcell_o F.cy S hK h7.1] at hk0
  refine va_put Z.1 Z.2.1 Z.2.2.2.2.1 hin ty0 hty hnm Z.2.2.2.1 Z.2.2.2.2.2.2.1 hP hD hS k0 hk0 hc i h7.2.1 (Z.2.2.2.2.1 _ hlink) (fun _ h => h) hfin (hty i h7.2.1) hn hf (by rw [fval_len]; exact (List.getElem?_eq_some_iff.mp h7.2.2).1) d (fun H1 locs1 hP1 hD1 hS1 => ?_)
  have e1 := ww_set (T := S.setI a i v) (e := .inr (κ, (fval S a 0 (lay κ)).set i (.int v))) hD ha hk1 rfl (by rw [wcell_o F.cy (S.setI a i v) hK h7.1, fval_setI _ _ _ _ _ h7.2.2]) (fun b hb => wcell_eq _ _ _ _ rfl rfl (va_up_ne _ _ hb).symm rfl rfl rfl rfl)
  rw [e1] at hP1 hD1
  exact k H1 locs1 ls hP1 hD1 hS1 hl
theorem g_putr (Z : Cx F cc nL own Ts ret) (κ i : Nat) {C : String} {T : u_T} {N ix v : Nat} (hc : vwCl[κ]? = some (C, T, N)) (h7 : κ < 7 ∧ i < N ∧ (lay κ)[i]? = some true) (ty0 : Nat → FieldType) (hty : ∀ k, k < N → parseFieldDescriptor (T k).2.2.1 = some (ty0 k)) (hnm : ∀ a, a < N → ∀ b, b < N → a ≠ b → (T a).2.1 ≠ (T b).2.1) (hfin : (T i).2.2.2 = false) (hin : ∀ w ∈ u_ws C T N, w ∈ Ts) (hlink : Cond.fieldLink own ix (T i).1 (T i).2.1 (T i).2.2.1 ∈ Ts) (d : decode cc pc = .ok (.putfield ix, 3)) (hn : narrow (ty0 i) (.ref v) = .ref v) (hf : fits (ty0 i) (.ref v) = true) (ha : a ∈ S.L) (hK : S.K a = κ) (k : G F nL (S.setR a i (some v)) kc ks Q (pc + 3) lv st) : G F nL S kc ks Q pc lv (.ref v :: .ref a :: st) := by
  intro H locs ls hP hD hS hl
  obtain ⟨k0, hk0⟩ := ww_at F.cy S ha
  have hk1 := hk0
  rw [wcell_o F.cy S hK h7.1] at hk0
  refine va_put Z.1 Z.2.1 Z.2.2.2.2.1 hin ty0 hty hnm Z.2.2.2.1 Z.2.2.2.2.2.2.1 hP hD hS k0 hk0 hc i h7.2.1 (Z.2.2.2.2.1 _ hlink) (fun _ h => h) hfin (hty i h7.2.1) hn hf (by rw [fval_len]; exact (List.getElem?_eq_some_iff.mp h7.2.2).1) d (fun H1 locs1 hP1 hD1 hS1 => ?_)
  have e1 := ww_set (T := S.setR a i (some v)) (e := .inr (κ, (fval S a 0 (lay κ)).set i (.ref v))) hD ha hk1 rfl (by rw [wcell_o F.cy (S.setR a i (some v)) hK h7.1, ← fval_setR _ _ _ _ _ h7.2.2]; rfl) (fun b hb => wcell_eq _ _ _ _ rfl (va_up_ne _ _ hb).symm rfl rfl rfl rfl rfl)
  rw [e1] at hP1 hD1
  exact k H1 locs1 ls hP1 hD1 hS1 hl
theorem g_putFr (Z : Cx F cc nL own Ts ret) (κ i : Nat) {C : String} {T : u_T} {N ix v : Nat} (hc : vwCl[κ]? = some (C, T, N)) (h7 : κ < 7 ∧ i < N ∧ (lay κ)[i]? = some true) (ty0 : Nat → FieldType) (hty : ∀ k, k < N → parseFieldDescriptor (T k).2.2.1 = some (ty0 k)) (hnm : ∀ a, a < N → ∀ b, b < N → a ≠ b → (T a).2.1 ≠ (T b).2.1) (hfin : (T i).2.2.2 = true) (hin : ∀ w ∈ u_ws C T N, w ∈ Ts) (hlink : Cond.fieldLink own ix (T i).1 (T i).2.1 (T i).2.2.1 ∈ Ts) (d : decode cc pc = .ok (.putfield ix, 3)) (hin2 : F.meth.name = "<init>") (hdecl : (T i).1 = own) (hn : narrow (ty0 i) (.ref v) = .ref v) (hf : fits (ty0 i) (.ref v) = true) (ha : a ∈ S.L) (hK : S.K a = κ) (k : G F nL (S.setR a i (some v)) kc ks Q (pc + 3) lv st) : G F nL S kc ks Q pc lv (.ref v :: .ref a :: st) := by
  intro H locs ls hP hD hS hl
  obtain ⟨k0, hk0⟩ := ww_at F.cy S ha
  have hk1 := hk0
  rw [wcell_o F.cy S hK h7.1] at hk0
  refine va_putF Z.1 Z.2.1 Z.2.2.2.2.1 hin ty0 hty hnm Z.2.2.2.1 Z.2.2.2.2.2.2.1 hP hD hS k0 hk0 hc i h7.2.1 (Z.2.2.2.2.1 _ hlink) (fun _ h => h) hfin hin2 hdecl (hty i h7.2.1) hn hf (by rw [fval_len]; exact (List.getElem?_eq_some_iff.mp h7.2.2).1) d (fun H1 locs1 hP1 hD1 hS1 => ?_)
  have e1 := ww_set (T := S.setR a i (some v)) (e := .inr (κ, (fval S a 0 (lay κ)).set i (.ref v))) hD ha hk1 rfl (by rw [wcell_o F.cy (S.setR a i (some v)) hK h7.1, ← fval_setR _ _ _ _ _ h7.2.2]; rfl) (fun b hb => wcell_eq _ _ _ _ rfl (va_up_ne _ _ hb).symm rfl rfl rfl rfl rfl)
  rw [e1] at hP1 hD1
  exact k H1 locs1 ls hP1 hD1 hS1 hl
theorem g_iald (Z : Cx F cc nL own Ts ret) {i : Int32} (d : decode cc pc = .ok (.iaload, 1)) (ha : a ∈ S.L) (hK : S.K a = 8) (hi : vp_in i (S.ln a)) (k : G F nL S kc ks Q (pc + 1) lv (.int (S.ri a i.toNatClampNeg) :: st)) : G F nL S kc ks Q pc lv (.int i :: .ref a :: st) := by
  intro H locs ls hP hD hS hl
  obtain ⟨k0, hk0⟩ := ww_at F.cy S ha
  rw [wcell_i F.cy S hK (by decide) (by decide)] at hk0
  exact va_iald Z.1 Z.2.1 Z.2.2.2.2.2.2.1 hP k0 1 hk0 rfl hi d (k H locs ls hP hD hS hl)
theorem g_bald (Z : Cx F cc nL own Ts ret) {i : Int32} (d : decode cc pc = .ok (.baload, 1)) (ha : a ∈ S.L) (hK : S.K a = 7) (hi : vp_in i (S.ln a)) (k : G F nL S kc ks Q (pc + 1) lv (.int (S.ri a i.toNatClampNeg) :: st)) : G F nL S kc ks Q pc lv (.int i :: .ref a :: st) := by
  intro H locs ls hP hD hS hl
  obtain ⟨k0, hk0⟩ := ww_at F.cy S ha
  rw [wcell_i F.cy S hK (by decide) (by decide)] at hk0
  exact va_bald Z.1 Z.2.1 Z.2.2.2.2.2.2.1 hP k0 0 hk0 rfl hi d (k H locs ls hP hD hS hl)
theorem g_lald (Z : Cx F cc nL own Ts ret) {i : Int32} (d : decode cc pc = .ok (.laload, 1)) (ha : a ∈ S.L) (hK : S.K a = 9) (hi : vp_in i (S.ln a)) (k : G F nL S kc ks Q (pc + 1) lv (.long (S.rj a i.toNatClampNeg) :: st)) : G F nL S kc ks Q pc lv (.int i :: .ref a :: st) := by
  intro H locs ls hP hD hS hl
  obtain ⟨k0, hk0⟩ := ww_at F.cy S ha
  rw [wcell_j F.cy S hK] at hk0
  exact va_lald Z.1 Z.2.1 Z.2.2.2.2.2.2.1 hP k0 2 hk0 rfl hi d (k H locs ls hP hD hS hl)
theorem g_iast (Z : Cx F cc nL own Ts ret) {i : Int32} {x : Int32} (d : decode cc pc = .ok (.iastore, 1)) (ha : a ∈ S.L) (hK : S.K a = 8) (hi : vp_in i (S.ln a)) (k : G F nL (S.rowI a (upd (S.ri a) i.toNatClampNeg x)) kc ks Q (pc + 1) lv st) : G F nL S kc ks Q pc lv (.int x :: .int i :: .ref a :: st) := by
  intro H locs ls hP hD hS hl
  obtain ⟨k0, hk0⟩ := ww_at F.cy S ha
  have hk1 := hk0
  rw [wcell_i F.cy S hK (by decide) (by decide)] at hk0
  refine va_iast Z.1 Z.2.1 Z.2.2.2.2.2.2.1 hP hD hS k0 1 hk0 rfl hi d (fun H1 locs1 hP1 hD1 hS1 => ?_)
  have e1 := ww_set (T := S.rowI a (upd (S.ri a) i.toNatClampNeg x)) (e := .inl (F.cy 8, S.ln a, (.inl (upd (S.ri a) i.toNatClampNeg x)))) hD ha hk1 rfl (by rw [wcell_i F.cy (S.rowI a (upd (S.ri a) i.toNatClampNeg x)) hK (by decide) (by decide)]; show _ = Sum.inl (F.cy 8, S.ln a, Sum.inl (va_up S.ri a _ a)); rw [va_up_self]) (fun b hb => wcell_eq _ _ _ _ rfl rfl rfl rfl (va_up_ne _ _ hb).symm rfl rfl)
  rw [e1] at hP1 hD1
  exact k H1 locs1 ls hP1 hD1 hS1 hl
theorem g_bast (Z : Cx F cc nL own Ts ret) {i : Int32} {x : Int32} (d : decode cc pc = .ok (.bastore, 1)) (ha : a ∈ S.L) (hK : S.K a = 7) (hi : vp_in i (S.ln a)) (k : G F nL (S.rowI a (upd (S.ri a) i.toNatClampNeg (vp_nar .byte x))) kc ks Q (pc + 1) lv st) : G F nL S kc ks Q pc lv (.int x :: .int i :: .ref a :: st) := by
  intro H locs ls hP hD hS hl
  obtain ⟨k0, hk0⟩ := ww_at F.cy S ha
  have hk1 := hk0
  rw [wcell_i F.cy S hK (by decide) (by decide)] at hk0
  refine va_bast Z.1 Z.2.1 Z.2.2.2.2.2.2.1 hP hD hS k0 0 hk0 rfl hi d (fun H1 locs1 hP1 hD1 hS1 => ?_)
  have e1 := ww_set (T := S.rowI a (upd (S.ri a) i.toNatClampNeg (vp_nar .byte x))) (e := .inl (F.cy 7, S.ln a, (.inl (upd (S.ri a) i.toNatClampNeg (vp_nar .byte x))))) hD ha hk1 rfl (by rw [wcell_i F.cy (S.rowI a (upd (S.ri a) i.toNatClampNeg (vp_nar .byte x))) hK (by decide) (by decide)]; show _ = Sum.inl (F.cy 7, S.ln a, Sum.inl (va_up S.ri a _ a)); rw [va_up_self]) (fun b hb => wcell_eq _ _ _ _ rfl rfl rfl rfl (va_up_ne _ _ hb).symm rfl rfl)
  rw [e1] at hP1 hD1
  exact k H1 locs1 ls hP1 hD1 hS1 hl
theorem g_last (Z : Cx F cc nL own Ts ret) {i : Int32} {x : Int64} (d : decode cc pc = .ok (.lastore, 1)) (ha : a ∈ S.L) (hK : S.K a = 9) (hi : vp_in i (S.ln a)) (k : G F nL (S.rowJ a (vp_updL (S.rj a) i.toNatClampNeg x)) kc ks Q (pc + 1) lv st) : G F nL S kc ks Q pc lv (.long x :: .int i :: .ref a :: st) := by
  intro H locs ls hP hD hS hl
  obtain ⟨k0, hk0⟩ := ww_at F.cy S ha
  have hk1 := hk0
  rw [wcell_j F.cy S hK] at hk0
  refine va_last Z.1 Z.2.1 Z.2.2.2.2.2.2.1 hP hD hS k0 2 hk0 rfl hi d (fun H1 locs1 hP1 hD1 hS1 => ?_)
  have e1 := ww_set (T := S.rowJ a (vp_updL (S.rj a) i.toNatClampNeg x)) (e := .inl (F.cy 9, S.ln a, (.inr (.inl (vp_updL (S.rj a) i.toNatClampNeg x))))) hD ha hk1 rfl (by rw [wcell_j F.cy (S.rowJ a (vp_updL (S.rj a) i.toNatClampNeg x)) hK]; show _ = Sum.inl (F.cy 9, S.ln a, Sum.inr (Sum.inl (va_up S.rj a _ a))); rw [va_up_self]) (fun b hb => wcell_eq _ _ _ _ rfl rfl rfl rfl rfl (va_up_ne _ _ hb).symm rfl)
  rw [e1] at hP1 hD1
  exact k H1 locs1 ls hP1 hD1 hS1 hl
theorem g_aald10 (Z : Cx F cc nL own Ts ret) {i : Int32} {v : Nat} (d : decode cc pc = .ok (.aaload, 1)) (ha : a ∈ S.L) (hK : S.K a = 10) (hi : vp_in i (S.ln a)) (hv : S.rr a i.toNatClampNeg = some v) (k : G F nL S kc ks Q (pc + 1) lv (.ref v :: st)) : G F nL S kc ks Q pc lv (.int i :: .ref a :: st) := by
  intro H locs ls hP hD hS hl
  obtain ⟨k0, hk0⟩ := ww_at F.cy S ha
  rw [wcell_r F.cy S hK (by decide)] at hk0
  refine va_aldq Z.1 Z.2.1 Z.2.2.2.2.2.2.1 hP k0 3 hk0 rfl hi d ?_
  rw [hv]
  exact k H locs ls hP hD hS hl
theorem g_aast10 (Z : Cx F cc nL own Ts ret) {i : Int32} {v : Nat} (d : decode cc pc = .ok (.aastore, 1)) (ha : a ∈ S.L) (hK : S.K a = 10) (hi : vp_in i (S.ln a)) (hv : v ∈ S.L) (hKv : S.K v = 1) (k : G F nL (S.rowR a (va_up (S.rr a) i.toNatClampNeg (some v))) kc ks Q (pc + 1) lv st) : G F nL S kc ks Q pc lv (.ref v :: .int i :: .ref a :: st) := by
  intro H locs ls hP hD hS hl
  obtain ⟨k0, hk0⟩ := ww_at F.cy S ha
  obtain ⟨k2, hk2⟩ := ww_at F.cy S hv
  have hk1 := hk0
  rw [wcell_r F.cy S hK (by decide)] at hk0
  rw [wcell_o F.cy S hKv (by decide)] at hk2
  refine va_astq (r := (RX1, TX1, 4)) Z.1 Z.2.1 Z.2.2.2.2.2.2.1 hP hD hS k0 3 k2 1 hk0 rfl hk2 rfl hi d (fun H1 locs1 hP1 hD1 hS1 => ?_)
  have e1 := ww_set (T := S.rowR a (va_up (S.rr a) i.toNatClampNeg (some v))) (e := .inl (F.cy 10, S.ln a, .inr (.inr (.inr (.inr (va_up (S.rr a) i.toNatClampNeg (some v))))))) hD ha hk1 rfl (by rw [wcell_r F.cy (S.rowR a (va_up (S.rr a) i.toNatClampNeg (some v))) hK (by decide)]; show _ = Sum.inl (F.cy 10, S.ln a, Sum.inr (Sum.inr (Sum.inr (Sum.inr (va_up S.rr a _ a))))); rw [va_up_self]) (fun b hb => wcell_eq _ _ _ _ rfl rfl rfl rfl rfl rfl (va_up_ne _ _ hb).symm)
  rw [e1] at hP1 hD1
  exact k H1 locs1 ls hP1 hD1 hS1 hl
theorem g_aald11 (Z : Cx F cc nL own Ts ret) {i : Int32} {v : Nat} (d : decode cc pc = .ok (.aaload, 1)) (ha : a ∈ S.L) (hK : S.K a = 11) (hi : vp_in i (S.ln a)) (hv : S.rr a i.toNatClampNeg = some v) (k : G F nL S kc ks Q (pc + 1) lv (.ref v :: st)) : G F nL S kc ks Q pc lv (.int i :: .ref a :: st) := by
  intro H locs ls hP hD hS hl
  obtain ⟨k0, hk0⟩ := ww_at F.cy S ha
  rw [wcell_r F.cy S hK (by decide)] at hk0
  refine va_aldq Z.1 Z.2.1 Z.2.2.2.2.2.2.1 hP k0 4 hk0 rfl hi d ?_
  rw [hv]
  exact k H locs ls hP hD hS hl
theorem g_aast11 (Z : Cx F cc nL own Ts ret) {i : Int32} {v : Nat} (d : decode cc pc = .ok (.aastore, 1)) (ha : a ∈ S.L) (hK : S.K a = 11) (hi : vp_in i (S.ln a)) (hv : v ∈ S.L) (hKv : S.K v = 2) (k : G F nL (S.rowR a (va_up (S.rr a) i.toNatClampNeg (some v))) kc ks Q (pc + 1) lv st) : G F nL S kc ks Q pc lv (.ref v :: .int i :: .ref a :: st) := by
  intro H locs ls hP hD hS hl
  obtain ⟨k0, hk0⟩ := ww_at F.cy S ha
  obtain ⟨k2, hk2⟩ := ww_at F.cy S hv
  have hk1 := hk0
  rw [wcell_r F.cy S hK (by decide)] at hk0
  rw [wcell_o F.cy S hKv (by decide)] at hk2
  refine va_astq (r := (RX2, TX2, 2)) Z.1 Z.2.1 Z.2.2.2.2.2.2.1 hP hD hS k0 4 k2 2 hk0 rfl hk2 rfl hi d (fun H1 locs1 hP1 hD1 hS1 => ?_)
  have e1 := ww_set (T := S.rowR a (va_up (S.rr a) i.toNatClampNeg (some v))) (e := .inl (F.cy 11, S.ln a, .inr (.inr (.inr (.inr (va_up (S.rr a) i.toNatClampNeg (some v))))))) hD ha hk1 rfl (by rw [wcell_r F.cy (S.rowR a (va_up (S.rr a) i.toNatClampNeg (some v))) hK (by decide)]; show _ = Sum.inl (F.cy 11, S.ln a, Sum.inr (Sum.inr (Sum.inr (Sum.inr (va_up S.rr a _ a))))); rw [va_up_self]) (fun b hb => wcell_eq _ _ _ _ rfl rfl rfl rfl rfl rfl (va_up_ne _ _ hb).symm)
  rw [e1] at hP1 hD1
  exact k H1 locs1 ls hP1 hD1 hS1 hl
theorem g_alen7 (Z : Cx F cc nL own Ts ret) (d : decode cc pc = .ok (.arraylength, 1)) (ha : a ∈ S.L) (hK : S.K a = 7) (k : G F nL S kc ks Q (pc + 1) lv (.int (nI (S.ln a)) :: st)) : G F nL S kc ks Q pc lv (.ref a :: st) := by
  intro H locs ls hP hD hS hl
  obtain ⟨k0, hk0⟩ := ww_at F.cy S ha
  rw [wcell_i F.cy S hK (by decide) (by decide)] at hk0
  exact va_alen Z.1 Z.2.1 Z.2.2.2.2.2.2.1 hP k0 0 hk0 rfl rfl d (k H locs ls hP hD hS hl)
theorem g_alen9 (Z : Cx F cc nL own Ts ret) (d : decode cc pc = .ok (.arraylength, 1)) (ha : a ∈ S.L) (hK : S.K a = 9) (k : G F nL S kc ks Q (pc + 1) lv (.int (nI (S.ln a)) :: st)) : G F nL S kc ks Q pc lv (.ref a :: st) := by
  intro H locs ls hP hD hS hl
  obtain ⟨k0, hk0⟩ := ww_at F.cy S ha
  rw [wcell_j F.cy S hK] at hk0
  exact va_alen Z.1 Z.2.1 Z.2.2.2.2.2.2.1 hP k0 2 hk0 rfl rfl d (k H locs ls hP hD hS hl)
theorem g_alen10 (Z : Cx F cc nL own Ts ret) (d : decode cc pc = .ok (.arraylength, 1)) (ha : a ∈ S.L) (hK : S.K a = 10) (k : G F nL S kc ks Q (pc + 1) lv (.int (nI (S.ln a)) :: st)) : G F nL S kc ks Q pc lv (.ref a :: st) := by
  intro H locs ls hP hD hS hl
  obtain ⟨k0, hk0⟩ := ww_at F.cy S ha
  rw [wcell_r F.cy S hK (by decide)] at hk0
  exact va_alen Z.1 Z.2.1 Z.2.2.2.2.2.2.1 hP k0 3 hk0 rfl rfl d (k H locs ls hP hD hS hl)
theorem g_alen11 (Z : Cx F cc nL own Ts ret) (d : decode cc pc = .ok (.arraylength, 1)) (ha : a ∈ S.L) (hK : S.K a = 11) (k : G F nL S kc ks Q (pc + 1) lv (.int (nI (S.ln a)) :: st)) : G F nL S kc ks Q pc lv (.ref a :: st) := by
  intro H locs ls hP hD hS hl
  obtain ⟨k0, hk0⟩ := ww_at F.cy S ha
  rw [wcell_r F.cy S hK (by decide)] at hk0
  exact va_alen Z.1 Z.2.1 Z.2.2.2.2.2.2.1 hP k0 4 hk0 rfl rfl d (k H locs ls hP hD hS hl)
theorem nw_now (Z : Cx F cc nL own Ts ret) {H : Heap} {locs : List Loc} (hS : va_S F.A F.H0 H locs) : NwO F.nw F.A F.s H := Z.2.2.2.2.2.2.2.2.2.1.kept hS.2.1
theorem g_alenNw (Z : Cx F cc nL own Ts ret) (d : decode cc pc = .ok (.arraylength, 1)) (k : G F nL S kc ks Q (pc + 1) lv (.int 0 :: st)) : G F nL S kc ks Q pc lv (.ref F.nw :: st) := by
  intro H locs ls hP hD hS hl
  obtain ⟨-, -, -, cell, h3, h4, h5⟩ := nw_now Z hS
  exact W.alen (n := 0) Z.1 Z.2.1 h3 h4 (by rw [h5]; rfl) rfl rfl d (k H locs ls hP hD hS hl)
theorem g_getsNw (Z : Cx F cc nL "RoaringIndex$Container" Ts ret) (d : decode cc pc = .ok (.getstatic 9, 3)) (k : G F nL S kc ks Q (pc + 3) lv (.ref F.nw :: st)) : G F nL S kc ks Q pc lv st := by
  intro H locs ls hP hD hS hl
  have hH := Z.2.2.2.2.2.2.2.2.2.2
  have hN := Z.2.2.2.2.2.2.2.2.2.1
  have hS' := hS
  rw [hH] at hN hS'
  exact va_getsN Z.1 Z.2.1 hN.2.1 hS' Z.2.2.2.1 (va_Nw.use rfl hN.1.1) (fun _ h => h) d (k H locs ls hP hD hS hl)
theorem g_newaB (Z : Cx F cc nL own Ts ret) {x : Int32} (n : Nat) (d : decode cc pc = .ok (.newarray .byte, 2)) (harr : Cond.arrayClass (newarray.typeOf .byte) ∈ Ts) (hx0 : ¬ x < 0) (hxn : x.toNatClampNeg = n) (hb : n * componentBytes .byte ≤ 536870912) (hc : kc + 1 ≤ F.R.cells) (hs : ks + n ≤ F.R.slots) (k : ∀ q, q ∉ S.L → G F nL (S.newA q 7 n) (kc + 1) (ks + n) Q (pc + 2) lv (.ref q :: st)) : G F nL S kc ks Q pc lv (.int x :: st) := by
  intro H locs ls hP hD hS hl
  refine va_newa (a0 := (n, .inl (fun _ => 0))) Z.1 Z.2.1 (Z.2.2.2.2.1 _ harr) (ty := .byte) rfl Z.2.2.2.2.2.2.1 hP hD hS Z.2.2.2.2.2.2.2.1 (fun cA => rfl) hx0 hxn hb hc hs d (fun q cA H1 hK1 hP1 hD1 hS1 => ?_)
  have hcA : cA = F.cy 7 := by
    have h1 : F.s.vm.findClass _ = some cA := (hK1.2 5 _ rfl).2
    have h2 : F.s.vm.findClass _ = some (F.cy 7) := (hK1.2 0 _ rfl).2
    exact Option.some.inj (h1.symm.trans h2)
  subst hcA
  obtain ⟨e1, hq⟩ := ww_push (T := S.newA q 7 n) hD1 rfl (by rw [wcell_i F.cy _ (va_up_self _ _ _) (by decide) (by decide)]; show _ = Sum.inl (F.cy 7, va_up S.ln q n q, _); rw [va_up_self]; show _ = Sum.inl (_, _, Sum.inl (va_up S.ri q _ q)); rw [va_up_self]) (fun b hb => wcell_eq _ _ _ _ (va_up_ne _ _ hb) rfl rfl (va_up_ne _ _ hb).symm (va_up_ne _ _ hb).symm (va_up_ne _ _ hb).symm (va_up_ne _ _ hb).symm)
  rw [e1] at hP1 hD1
  exact k q hq H1 locs ls hP1 hD1 hS1 hl
theorem g_newaI (Z : Cx F cc nL own Ts ret) {x : Int32} (n : Nat) (d : decode cc pc = .ok (.newarray .int, 2)) (harr : Cond.arrayClass (newarray.typeOf .int) ∈ Ts) (hx0 : ¬ x < 0) (hxn : x.toNatClampNeg = n) (hb : n * componentBytes .int ≤ 536870912) (hc : kc + 1 ≤ F.R.cells) (hs : ks + n ≤ F.R.slots) (k : ∀ q, q ∉ S.L → G F nL (S.newA q 8 n) (kc + 1) (ks + n) Q (pc + 2) lv (.ref q :: st)) : G F nL S kc ks Q pc lv (.int x :: st) := by
  intro H locs ls hP hD hS hl
  refine va_newa (a0 := (n, .inl (fun _ => 0))) Z.1 Z.2.1 (Z.2.2.2.2.1 _ harr) (ty := .int) rfl Z.2.2.2.2.2.2.1 hP hD hS Z.2.2.2.2.2.2.2.1 (fun cA => rfl) hx0 hxn hb hc hs d (fun q cA H1 hK1 hP1 hD1 hS1 => ?_)
  have hcA : cA = F.cy 8 := by
    have h1 : F.s.vm.findClass _ = some cA := (hK1.2 5 _ rfl).2
    have h2 : F.s.vm.findClass _ = some (F.cy 8) := (hK1.2 1 _ rfl).2
    exact Option.some.inj (h1.symm.trans h2)
  subst hcA
  obtain ⟨e1, hq⟩ := ww_push (T := S.newA q 8 n) hD1 rfl (by rw [wcell_i F.cy _ (va_up_self _ _ _) (by decide) (by decide)]; show _ = Sum.inl (F.cy 8, va_up S.ln q n q, _); rw [va_up_self]; show _ = Sum.inl (_, _, Sum.inl (va_up S.ri q _ q)); rw [va_up_self]) (fun b hb => wcell_eq _ _ _ _ (va_up_ne _ _ hb) rfl rfl (va_up_ne _ _ hb).symm (va_up_ne _ _ hb).symm (va_up_ne _ _ hb).symm (va_up_ne _ _ hb).symm)
  rw [e1] at hP1 hD1
  exact k q hq H1 locs ls hP1 hD1 hS1 hl
theorem g_newaJ (Z : Cx F cc nL own Ts ret) {x : Int32} (n : Nat) (d : decode cc pc = .ok (.newarray .long, 2)) (harr : Cond.arrayClass (newarray.typeOf .long) ∈ Ts) (hx0 : ¬ x < 0) (hxn : x.toNatClampNeg = n) (hb : n * componentBytes .long ≤ 536870912) (hc : kc + 1 ≤ F.R.cells) (hs : ks + n ≤ F.R.slots) (k : ∀ q, q ∉ S.L → G F nL (S.newA q 9 n) (kc + 1) (ks + n) Q (pc + 2) lv (.ref q :: st)) : G F nL S kc ks Q pc lv (.int x :: st) := by
  intro H locs ls hP hD hS hl
  refine va_newa (a0 := (n, .inr (.inl (fun _ => 0)))) Z.1 Z.2.1 (Z.2.2.2.2.1 _ harr) (ty := .long) rfl Z.2.2.2.2.2.2.1 hP hD hS Z.2.2.2.2.2.2.2.1 (fun cA => rfl) hx0 hxn hb hc hs d (fun q cA H1 hK1 hP1 hD1 hS1 => ?_)
  have hcA : cA = F.cy 9 := by
    have h1 : F.s.vm.findClass _ = some cA := (hK1.2 5 _ rfl).2
    have h2 : F.s.vm.findClass _ = some (F.cy 9) := (hK1.2 2 _ rfl).2
    exact Option.some.inj (h1.symm.trans h2)
  subst hcA
  obtain ⟨e1, hq⟩ := ww_push (T := S.newA q 9 n) hD1 rfl (by rw [wcell_j F.cy _ (va_up_self _ _ _)]; show _ = Sum.inl (F.cy 9, va_up S.ln q n q, _); rw [va_up_self]; show _ = Sum.inl (_, _, Sum.inr (Sum.inl (va_up S.rj q _ q))); rw [va_up_self]) (fun b hb => wcell_eq _ _ _ _ (va_up_ne _ _ hb) rfl rfl (va_up_ne _ _ hb).symm (va_up_ne _ _ hb).symm (va_up_ne _ _ hb).symm (va_up_ne _ _ hb).symm)
  rw [e1] at hP1 hD1
  exact k q hq H1 locs ls hP1 hD1 hS1 hl
theorem g_newq10 (Z : Cx F cc nL own Ts ret) {x : Int32} {ix : Nat} (n : Nat) (d : decode cc pc = .ok (.anewarray ix, 3)) (hclink : Cond.classLink own ix "RoaringIndex$Container" ∈ Ts) (hx0 : ¬ x < 0) (hxn : x.toNatClampNeg = n) (hb : n * 4 ≤ 536870912) (hc : kc + 1 ≤ F.R.cells) (hs : ks + n ≤ F.R.slots) (k : ∀ q, q ∉ S.L → G F nL (S.newA q 10 n) (kc + 1) (ks + n) Q (pc + 3) lv (.ref q :: st)) : G F nL S kc ks Q pc lv (.int x :: st) := by
  intro H locs ls hP hD hS hl
  refine va_newq Z.1 Z.2.1 Z.2.2.2.1 (Z.2.2.2.2.1 _ hclink) (Z.2.2.2.2.2.2.2.2.2.1.1.2.2.2.2.1) Z.2.2.2.2.2.2.1 hP hD hS Z.2.2.2.2.2.2.2.1 hx0 hxn hb hc hs d (fun q cA H1 hK1 hP1 hD1 hS1 => ?_)
  have hcA : cA = F.cy 10 := by
    obtain ⟨-, -, -, -, -, h1⟩ := (hK1.2 5 _ rfl).2
    obtain ⟨-, -, -, -, -, h2⟩ := (hK1.2 3 _ rfl).2
    exact Option.some.inj (h1.symm.trans h2)
  subst hcA
  obtain ⟨e1, hq⟩ := ww_push (T := S.newA q 10 n) hD1 rfl (by rw [wcell_r F.cy _ (va_up_self _ _ _) (by decide)]; show _ = Sum.inl (F.cy 10, va_up S.ln q n q, _); rw [va_up_self]; show _ = Sum.inl (_, _, Sum.inr (Sum.inr (Sum.inr (Sum.inr (va_up S.rr q _ q))))); rw [va_up_self]) (fun b hb => wcell_eq _ _ _ _ (va_up_ne _ _ hb) rfl rfl (va_up_ne _ _ hb).symm (va_up_ne _ _ hb).symm (va_up_ne _ _ hb).symm (va_up_ne _ _ hb).symm)
  rw [e1] at hP1 hD1
  exact k q hq H1 locs ls hP1 hD1 hS1 hl
theorem g_newq11 (Z : Cx F cc nL own Ts ret) {x : Int32} {ix : Nat} (n : Nat) (d : decode cc pc = .ok (.anewarray ix, 3)) (hclink : Cond.classLink own ix "RoaringIndex$NumberSet" ∈ Ts) (hx0 : ¬ x < 0) (hxn : x.toNatClampNeg = n) (hb : n * 4 ≤ 536870912) (hc : kc + 1 ≤ F.R.cells) (hs : ks + n ≤ F.R.slots) (k : ∀ q, q ∉ S.L → G F nL (S.newA q 11 n) (kc + 1) (ks + n) Q (pc + 3) lv (.ref q :: st)) : G F nL S kc ks Q pc lv (.int x :: st) := by
  intro H locs ls hP hD hS hl
  refine va_newq Z.1 Z.2.1 Z.2.2.2.1 (Z.2.2.2.2.1 _ hclink) (Z.2.2.2.2.2.2.2.2.2.1.1.2.2.2.2.2) Z.2.2.2.2.2.2.1 hP hD hS Z.2.2.2.2.2.2.2.1 hx0 hxn hb hc hs d (fun q cA H1 hK1 hP1 hD1 hS1 => ?_)
  have hcA : cA = F.cy 11 := by
    obtain ⟨-, -, -, -, -, h1⟩ := (hK1.2 5 _ rfl).2
    obtain ⟨-, -, -, -, -, h2⟩ := (hK1.2 4 _ rfl).2
    exact Option.some.inj (h1.symm.trans h2)
  subst hcA
  obtain ⟨e1, hq⟩ := ww_push (T := S.newA q 11 n) hD1 rfl (by rw [wcell_r F.cy _ (va_up_self _ _ _) (by decide)]; show _ = Sum.inl (F.cy 11, va_up S.ln q n q, _); rw [va_up_self]; show _ = Sum.inl (_, _, Sum.inr (Sum.inr (Sum.inr (Sum.inr (va_up S.rr q _ q))))); rw [va_up_self]) (fun b hb => wcell_eq _ _ _ _ (va_up_ne _ _ hb) rfl rfl (va_up_ne _ _ hb).symm (va_up_ne _ _ hb).symm (va_up_ne _ _ hb).symm (va_up_ne _ _ hb).symm)
  rw [e1] at hP1 hD1
  exact k q hq H1 locs ls hP1 hD1 hS1 hl
theorem g_new (Z : Cx F cc nL own Ts ret) (κ : Nat) {C : String} {T : u_T} {N ix : Nat} (hc : vwCl[κ]? = some (C, T, N)) (h7 : κ < 7) (ty0 : Nat → FieldType) (hty : ∀ k, k < N → parseFieldDescriptor (T k).2.2.1 = some (ty0 k)) (hin : ∀ w ∈ u_ws C T N, w ∈ Ts) (hfs : ∀ j, j < N → defaultValue (ty0 j) = vp_V (fval ([], fun _ => 0, fun _ _ => 0, fun _ _ => none, fun _ => 0, fun _ _ => 0, fun _ _ => 0, fun _ _ => none) 0 0 (lay κ)) j) (hcl : Cond.classLink own ix C ∈ Ts) (hinst : Cond.instantiable C N ∈ Ts) (hini : Cond.initialized C ∈ Ts) (d : decode cc pc = .ok (.new ix, 3)) (hcc : kc + 1 ≤ F.R.cells) (hs : ks + N ≤ F.R.slots) (k : ∀ q, q ∉ S.L → G F nL (S.newO q κ) (kc + 1) (ks + N) Q (pc + 3) lv (.ref q :: st)) : G F nL S kc ks Q pc lv st := by
  intro H locs ls hP hD hS hl
  refine va_new (ci := κ) Z.1 Z.2.1 Z.2.2.2.2.1 hin ty0 hty Z.2.2.2.1 (Z.2.2.2.2.1 _ hcl) (Z.2.2.2.2.1 _ hinst) (Z.2.2.2.2.1 _ hini) Z.2.2.2.2.2.2.1 hP hD hS Z.2.2.2.2.2.2.2.1 hc hfs hcc hs d (fun q H1 hP1 hD1 hS1 => ?_)
  obtain ⟨e1, hq⟩ := ww_push (T := S.newO q κ) hD1 rfl (by
    rw [wcell_o F.cy _ (va_up_self _ _ _) h7]
    congr 2
    apply List.ext_getElem?
    intro i
    rw [fval_get, fval_get]
    show _ = (lay κ)[i]?.map (fun b => match b with | true => va_rf (va_up S.fr q (fun _ => none) q (0 + i)) | false => .int (va_up S.fi q (fun _ => 0) q (0 + i)))
    rw [va_up_self, va_up_self]) (fun b hb => wcell_eq _ _ _ _ (va_up_ne _ _ hb) (va_up_ne _ _ hb).symm (va_up_ne _ _ hb).symm rfl rfl rfl rfl)
  rw [e1] at hP1 hD1
  exact k q hq H1 locs ls hP1 hD1 hS1 hl
theorem g_objinit (Z : Cx F cc nL own Ts ret) {ix : Nat} (hl1 : Cond.methodLink own ix objectInit ∈ Ts) (hl2 : Cond.instanceMethod objectInit ∈ Ts) (hl3 : Cond.code objectInit ⟨#[0xb1]⟩ 1 none ∈ Ts) (d : decode cc pc = .ok (.invokespecial ix, 3)) (hf : 1 ≤ F.R.frames) (hlo : 20 ≤ F.R.locals) (hst : (st.map fun v => v.category).sum ≤ 8) (k : G F nL S kc ks Q (pc + 3) lv st) : G F nL S kc ks Q pc lv (.ref a :: st) := by
  intro H locs ls hP hD hS hl
  exact W.objInit Z.1 Z.2.1 Z.2.2.2.1 (Z.2.2.2.2.1 _ hl1) (Z.2.2.2.2.1 _ hl2) (Z.2.2.2.2.1 _ hl3) rfl (hl.1.trans Z.2.2.1.symm) rfl d hf (Nat.le_trans (Nat.add_le_add_right (lv_room (m := F.m) (pc := pc) (ls := ls) (rest := .ref a :: st) hst) 12) hlo) (k H locs ls hP hD hS hl)
end HR
