section HR2
variable {F : Fx} {cc : ByteArray} {nL : Nat} {own : String} {Ts : List Cond} {ret : Option FieldType} {S : PS} {kc ks : Nat} {Q : State → Prop} {pc : Nat} {lv : List (Nat × Value)} {st : List Value} {a : Nat}
theorem g_copyJ (Z : Cx F cc nL own Ts ret) {ix a0 : Nat} {sp dp n : Int32} (hl1 : Cond.methodLink own ix arraycopyName ∈ Ts) (hl2 : Cond.native arraycopyName ∈ Ts) (hl3 : Cond.static arraycopyName ∈ Ts) (hl4 : Cond.initialized "java/lang/System" ∈ Ts) (d : decode cc pc = .ok (.invokestatic ix, 3)) (ha0 : a0 ∈ S.L) (hK0 : S.K a0 = 9) (ha : a ∈ S.L) (hK : S.K a = 9) (h1 : ¬ sp < 0) (h2 : ¬ dp < 0) (h3 : ¬ n < 0) (h4 : sp.toNatClampNeg + n.toNatClampNeg ≤ S.ln a0) (h5 : dp.toNatClampNeg + n.toNatClampNeg ≤ S.ln a) (hf : 1 ≤ F.R.frames) (hlo : (st.map fun v => v.category).sum + (nativeFrameWords "java/lang/System" "arraycopy" 5 + 11) ≤ F.R.locals) (k : G F nL (S.rowJ a (va_cpy (S.rj a0) (S.rj a) sp.toNatClampNeg dp.toNatClampNeg n.toNatClampNeg)) kc ks Q (pc + 3) lv st) : G F nL S kc ks Q pc lv (.int n :: .int dp :: .ref a :: .int sp :: .ref a0 :: st) := by
  intro H locs ls hP hD hS hl
  obtain ⟨k0, hk0⟩ := ww_at F.cy S ha
  obtain ⟨k2, hk2⟩ := ww_at F.cy S ha0
  have hk1 := hk0
  rw [wcell_j F.cy S hK] at hk0
  rw [wcell_j F.cy S hK0] at hk2
  refine va_copyl (ty := .long) Z.1 Z.2.1 (Z.2.2.1.trans hl.1.symm) Z.2.2.2.1 (Z.2.2.2.2.1 _ hl1) (Z.2.2.2.2.1 _ hl2) (Z.2.2.2.2.1 _ hl3) (Z.2.2.2.2.1 _ hl4) Z.2.2.2.2.2.2.1 hP hD hS k2 k0 2 2 hk2 hk0 rfl rfl rfl h1 h2 h3 h4 h5 (fun i _ => rfl) hf hlo d (fun H1 locs1 hP1 hD1 hS1 => ?_)
  have e1 := ww_set (T := S.rowJ a (va_cpy (S.rj a0) (S.rj a) sp.toNatClampNeg dp.toNatClampNeg n.toNatClampNeg)) (e := .inl (F.cy 9, S.ln a, .inr (.inl (va_cpy (S.rj a0) (S.rj a) sp.toNatClampNeg dp.toNatClampNeg n.toNatClampNeg)))) hD ha hk1 rfl (by rw [wcell_j F.cy (S.rowJ a (va_cpy (S.rj a0) (S.rj a) sp.toNatClampNeg dp.toNatClampNeg n.toNatClampNeg)) hK]; show _ = Sum.inl (F.cy 9, S.ln a, Sum.inr (Sum.inl (va_up S.rj a _ a))); rw [va_up_self]) (fun b hb => wcell_eq _ _ _ _ rfl rfl rfl rfl rfl (va_up_ne _ _ hb).symm rfl)
  rw [e1] at hP1 hD1
  exact k H1 locs1 ls hP1 hD1 hS1 hl
end HR2
