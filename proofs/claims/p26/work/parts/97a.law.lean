/-! THE LAW, with what both hold -/
section
variable {F : Fx} {cc : ByteArray} {nL : Nat} {own : String} {Ts : List Cond} {ret : Option FieldType} {S M : PS} {kc ks : Nat} {Q : State → Prop} {pc : Nat} {lv : List (Nat × Value)} {st : List Value}
theorem h_lcmp {x y : Int64} (Z : Cx F cc nL own Ts ret) (d : decode cc pc = .ok (.lcmp, 1)) (k : G2 F nL S M kc ks Q (pc + 1) lv (.int (lg_cmp x y) :: st)) : G2 F nL S M kc ks Q pc lv (.long y :: .long x :: st) := fun H locs ls hP hD hS hl => W.lcmp Z.1 Z.2.1 d (k H locs ls hP hD hS hl)
theorem h_if_eq {x : Int32} {off : Int} (Z : Cx F cc nL own Ts ret) (tgt : Nat) (d : decode cc pc = .ok (.ifCond .eq off, 3)) (ht : (pc : Int) + off = (tgt : Int)) (kt : x = 0 → G2 F nL S M kc ks Q tgt lv st) (kf : ¬ x = 0 → G2 F nL S M kc ks Q (pc + 3) lv st) : G2 F nL S M kc ks Q pc lv (.int x :: st) := fun H locs ls hP hD hS hl => lv_if_eq Z.1 Z.2.1 d ht (fun h => kt h H locs ls hP hD hS hl) (fun h => kf h H locs ls hP hD hS hl)
end
def LJ (nw x m w g : Nat) (S M : PS) : Prop := ∃ sa pl la br h n u rd rk rt fa so O V B, FX S nw x sa pl la br h n u rd rk rt w fa so O V B ∧ (g = 0 ∨ (g = 1 ∧ n = 60000)) ∧ ∃ A C R, mOk A m ∧ M = mP A m (C, R) ∧ MV C V ∧ RBy R u B ∧ R.fa = nI fa ∧ R.wk = nI w
theorem Chg.det {V W W2 : Sv} {key : Nat} {go : Prop} {g : (Nat → Int64) → Nat → Int64} {r r2 : Int32} (hs : Srt V) (h : Chg V key go g r W) (k : Chg V key go g r2 W2) : W = W2 ∧ r = r2 := by
  rcases h with ⟨i, hi, hk, hc⟩ | ⟨i, hix, hno, hc⟩
  · rcases k with ⟨j, hj, hkj, kc⟩ | ⟨j, hjx, hnj, -⟩
    · have e : i = j := by
        rcases Nat.lt_trichotomy i j with q | q | q
        · have := hs i j q hj; omega
        · exact q
        · have := hs j i q hi; omega
      subst e
      rcases hc with ⟨h1, h2, h3⟩ | ⟨h1, ⟨q, hq, hne⟩, h3⟩
      · rcases kc with ⟨k1, k2, -⟩ | ⟨-, ⟨q, hq, hne⟩, -⟩
        · exact ⟨h2.trans k2.symm, h1.trans k1.symm⟩
        · exact absurd (h3 q hq) hne
      · rcases kc with ⟨-, -, k3⟩ | ⟨k1, -, k3⟩
        · exact absurd (k3 q hq) hne
        · refine ⟨?_, h1.trans k1.symm⟩
          rcases h3 with ⟨a1, a2⟩ | ⟨a1, a2⟩ <;> rcases k3 with ⟨b1, b2⟩ | ⟨b1, b2⟩
          · exact a2.trans b2.symm
          · omega
          · omega
          · exact a2.trans b2.symm
    · have e := hjx.uniq hs hi hk
      subst e
      exact absurd hk (hnj hi)
  · rcases k with ⟨j, hj, hkj, -⟩ | ⟨j, hjx, hnj, kc⟩
    · have e := hix.uniq hs hj hkj
      subst e
      exact absurd hkj (hno hj)
    · have e := hix.det hs hjx
      subst e
      rcases hc with ⟨a1, a2, a3⟩ | ⟨a1, a2, a3, a4⟩ | ⟨a1, a2, a3, a4, a5⟩ <;> rcases kc with ⟨b1, b2, b3⟩ | ⟨b1, b2, b3, b4⟩ | ⟨b1, b2, b3, b4, b5⟩
      · exact ⟨a3.trans b3.symm, a2.trans b2.symm⟩
      · exact absurd a1 b1
      · exact absurd a1 b1
      · exact absurd b1 a1
      · exact ⟨a4.trans b4.symm, a3.trans b3.symm⟩
      · omega
      · exact absurd b1 a1
      · omega
      · exact ⟨a5.trans b5.symm, a3.trans b3.symm⟩
theorem s_eq {j k : Nat} (h : nI j = nI k) (hj : j < 65536) (hk : k < 65536) : j = k := (nI_eq (by omega) (by omega)).mp h
theorem MV.cg {C : C5} {V V2 : Nat → Sv} (h : MV C V) (e : ∀ i, i < 8 → V2 i = V i) : MV C V2 := fun s hs => by rw [e s hs]; exact h s hs
theorem rgOk.uniq {a b c d e : Int32} {j key f t j2 key2 f2 t2 : Nat} (h : rgOk a b c d e j key f t) (k : rgOk a b c d e j2 key2 f2 t2) : j = j2 ∧ key = key2 ∧ f = f2 ∧ t = t2 := by
  obtain ⟨h1, h2, h3, h4, h5, h6, h7, h8, -⟩ := h
  obtain ⟨k1, k2, k3, k4, k5, k6, k7, k8, -⟩ := k
  exact ⟨s_eq (h2.symm.trans k2) (by omega) (by omega), s_eq (h4.symm.trans k4) h3 k3, s_eq (h6.symm.trans k6) h5 k5, s_eq (h8.symm.trans k8) h7 k7⟩
theorem stOk.uniq {a b c d : Int32} {j key f q j2 key2 f2 q2 : Nat} (h : stOk a b c d j key f q) (k : stOk a b c d j2 key2 f2 q2) : j = j2 ∧ key = key2 ∧ f = f2 ∧ q = q2 := by
  obtain ⟨h1, h2, h3, h4, h5, h6, h7, h8, h9⟩ := h
  obtain ⟨k1, k2, k3, k4, k5, k6, k7, k8, k9⟩ := k
  exact ⟨s_eq (h2.symm.trans k2) (by omega) (by omega), s_eq (h4.symm.trans k4) h3 k3, s_eq (h6.symm.trans k6) h5 k5, s_eq (h9.symm.trans k9) h8 k8⟩
theorem RBy.of {R : MR} {u : Nat} {Y : List Nat} (h1 : R.si = nI Y.length) (h2 : Y.length ≤ 60000) (h3 : ∀ i, i < Y.length → Y.getD i 0 < 256 ∧ R.bt i = nI (Y.getD i 0)) : RBy R Y.length (fun i => Y.getD i 0) := ⟨h1, h2, h3⟩

set_option maxRecDepth 100000 in
set_option maxHeartbeats 2000000 in
/-- add -/
theorem lw_add {F : Fx} {Q : State → Prop} {b L x m k w g : Nat} {xs : Nat → Int32} {S M : PS} (X : LX F b L xs) (hk : 6 * k + 6 ≤ L) (hI : LJ F.nw x m w g S M) (nx : ∀ (S2 M2 : PS) (w2 g2 : Nat), LJ F.nw x m w2 g2 S2 M2 → G2 F 4 S2 M2 (200 + (k + 1) + 12 * (300 - w2) + g2) (170000 + 1024 * (k + 1) + 12288 * (300 - w2) + 60000 * g2) Q 984 (lvL b x m (6 * k)) []) : G2 F 4 S M (200 + k + 12 * (300 - w) + g) (170000 + 1024 * k + 12288 * (300 - w) + 60000 * g) Q 148 (lvL b x m (6 * k)) [] := by
  obtain ⟨Z, -, -, -, hL, hRf, hRc, hRs, hRl⟩ := id X
  obtain ⟨sa, pl, la, br, h, n, u, rd, rk, rt, fa, so, O, V, B, hx, hg, A, C, R, ho, rfl, hM, hB, hfa, hw⟩ := hI
  have hw3 : w ≤ 300 := hx.1.1.2.2.2.2.2.2.2.2.2
  have hV := hx.2.2
  refine h_aload_n Z dL_law_148 rfl ?_
  refine h_arg X 149 1 (by omega) (by decide) dL_law_149 dL_law_150 dL_law_151 dL_law_152 dL_law_153 ?_
  refine h_arg X 154 2 (by omega) (by decide) dL_law_154 dL_law_155 dL_law_156 dL_law_157 dL_law_158 ?_
  refine h_xI Z (f_X6_add F.l F.D F.cy F.nw S x sa pl la br h n u rd rk rt w fa so O V B hx _ _) 2 gL_law_X6_add rfl (by decide +kernel) (by rw [hRf, hRl]; decide) hx.1.1.1 (κ := 5) hx.1.1.2.1 rfl (by decide) rfl rfl (Nat.le_of_ble_eq_true rfl) dL_law_159 (by rw [hRc, hRs]; omega) (fun r T hp => ?_)
  refine h_pop Z dL_law_162 rfl ?_
  refine h_aload_n Z dL_law_163 rfl ?_
  refine h_arg X 164 1 (by omega) (by decide) dL_law_164 dL_law_165 dL_law_166 dL_law_167 dL_law_168 ?_
  refine h_arg X 169 2 (by omega) (by decide) dL_law_169 dL_law_170 dL_law_171 dL_law_172 dL_law_173 ?_
  refine h_mI Z (f_X7_add F.l F.D F.cy F.nw A m ho C R V hM hV _ _) 2 gL_law_X7_add rfl (by decide +kernel) (by rw [hRf, hRl]; decide) mP_x (κ := 6) mP_Kx rfl (by decide) rfl rfl (Nat.le_of_ble_eq_true rfl) dL_law_174 (by clear hp; rw [hRc, hRs]; omega) (fun r2 T2 hp2 => ?_)
  refine h_pop Z dL_law_177 rfl ?_
  refine h_goto Z 984 dL_law_178 (by decide) ?_
  rcases hp with ⟨j, hj, ej, W, O2, hch, hx2⟩ | ⟨hno, er, rfl⟩ <;> rcases hp2 with ⟨j2, hj2, ej2, W2, E, rfl, hch2, hM2⟩ | ⟨hno2, er2, rfl⟩
  · have e1 := s_eq (ej.symm.trans ej2) (by omega) (by omega)
    subst e1
    obtain ⟨e2, e3⟩ := Chg.det (hV j hj).2.1 hch hch2
    subst e2
    exact h_widen (by omega) (by omega) (nx T _ w g ⟨sa, pl, la, br, h, n, u, rd, rk, rt, fa, so, O2, _, B, hx2, hg, A, E, R, ho, rfl, hM2, hB, hfa, hw⟩)
  · exact absurd ⟨j, hj, ej⟩ hno2
  · exact absurd ⟨j2, hj2, ej2⟩ hno
  · exact h_widen (by omega) (by omega) (nx S _ w g ⟨sa, pl, la, br, h, n, u, rd, rk, rt, fa, so, O, V, B, hx, hg, A, C, R, ho, rfl, hM, hB, hfa, hw⟩)

set_option maxRecDepth 100000 in
set_option maxHeartbeats 2000000 in
/-- remove -/
theorem lw_remove {F : Fx} {Q : State → Prop} {b L x m k w g : Nat} {xs : Nat → Int32} {S M : PS} (X : LX F b L xs) (hk : 6 * k + 6 ≤ L) (hI : LJ F.nw x m w g S M) (nx : ∀ (S2 M2 : PS) (w2 g2 : Nat), LJ F.nw x m w2 g2 S2 M2 → G2 F 4 S2 M2 (200 + (k + 1) + 12 * (300 - w2) + g2) (170000 + 1024 * (k + 1) + 12288 * (300 - w2) + 60000 * g2) Q 984 (lvL b x m (6 * k)) []) : G2 F 4 S M (200 + k + 12 * (300 - w) + g) (170000 + 1024 * k + 12288 * (300 - w) + 60000 * g) Q 181 (lvL b x m (6 * k)) [] := by
  obtain ⟨Z, -, -, -, hL, hRf, hRc, hRs, hRl⟩ := id X
  obtain ⟨sa, pl, la, br, h, n, u, rd, rk, rt, fa, so, O, V, B, hx, hg, A, C, R, ho, rfl, hM, hB, hfa, hw⟩ := hI
  have hw3 : w ≤ 300 := hx.1.1.2.2.2.2.2.2.2.2.2
  have hV := hx.2.2
  refine h_aload_n Z dL_law_181 rfl ?_
  refine h_arg X 182 1 (by omega) (by decide) dL_law_182 dL_law_183 dL_law_184 dL_law_185 dL_law_186 ?_
  refine h_arg X 187 2 (by omega) (by decide) dL_law_187 dL_law_188 dL_law_189 dL_law_190 dL_law_191 ?_
  refine h_xI Z (f_X6_remove F.l F.D F.cy F.nw S x sa pl la br h n u rd rk rt w fa so O V B hx _ _) 2 gL_law_X6_remove rfl (by decide +kernel) (by rw [hRf, hRl]; decide) hx.1.1.1 (κ := 5) hx.1.1.2.1 rfl (by decide) rfl rfl (Nat.le_of_ble_eq_true rfl) dL_law_192 (by rw [hRc, hRs]; omega) (fun r T hp => ?_)
  refine h_pop Z dL_law_195 rfl ?_
  refine h_aload_n Z dL_law_196 rfl ?_
  refine h_arg X 197 1 (by omega) (by decide) dL_law_197 dL_law_198 dL_law_199 dL_law_200 dL_law_201 ?_
  refine h_arg X 202 2 (by omega) (by decide) dL_law_202 dL_law_203 dL_law_204 dL_law_205 dL_law_206 ?_
  refine h_mI Z (f_X7_remove F.l F.D F.cy F.nw A m ho C R V hM hV _ _) 2 gL_law_X7_remove rfl (by decide +kernel) (by rw [hRf, hRl]; decide) mP_x (κ := 6) mP_Kx rfl (by decide) rfl rfl (Nat.le_of_ble_eq_true rfl) dL_law_207 (by clear hp; rw [hRc, hRs]; omega) (fun r2 T2 hp2 => ?_)
  refine h_pop Z dL_law_210 rfl ?_
  refine h_goto Z 984 dL_law_211 (by decide) ?_
  rcases hp with ⟨j, hj, ej, W, O2, hch, hx2⟩ | ⟨hno, er, rfl⟩ <;> rcases hp2 with ⟨j2, hj2, ej2, W2, E, rfl, hch2, hM2⟩ | ⟨hno2, er2, rfl⟩
  · have e1 := s_eq (ej.symm.trans ej2) (by omega) (by omega)
    subst e1
    obtain ⟨e2, e3⟩ := Chg.det (hV j hj).2.1 hch hch2
    subst e2
    exact h_widen (by omega) (by omega) (nx T _ w g ⟨sa, pl, la, br, h, n, u, rd, rk, rt, fa, so, O2, _, B, hx2, hg, A, E, R, ho, rfl, hM2, hB, hfa, hw⟩)
  · exact absurd ⟨j, hj, ej⟩ hno2
  · exact absurd ⟨j2, hj2, ej2⟩ hno
  · exact h_widen (by omega) (by omega) (nx S _ w g ⟨sa, pl, la, br, h, n, u, rd, rk, rt, fa, so, O, V, B, hx, hg, A, C, R, ho, rfl, hM, hB, hfa, hw⟩)

set_option maxRecDepth 100000 in
set_option maxHeartbeats 2000000 in
/-- range -/
theorem lw_range {F : Fx} {Q : State → Prop} {b L x m k w g : Nat} {xs : Nat → Int32} {S M : PS} (X : LX F b L xs) (hk : 6 * k + 6 ≤ L) (hI : LJ F.nw x m w g S M) (nx : ∀ (S2 M2 : PS) (w2 g2 : Nat), LJ F.nw x m w2 g2 S2 M2 → G2 F 4 S2 M2 (200 + (k + 1) + 12 * (300 - w2) + g2) (170000 + 1024 * (k + 1) + 12288 * (300 - w2) + 60000 * g2) Q 984 (lvL b x m (6 * k)) []) : G2 F 4 S M (200 + k + 12 * (300 - w) + g) (170000 + 1024 * k + 12288 * (300 - w) + 60000 * g) Q 214 (lvL b x m (6 * k)) [] := by
  obtain ⟨Z, -, -, -, hL, hRf, hRc, hRs, hRl⟩ := id X
  obtain ⟨sa, pl, la, br, h, n, u, rd, rk, rt, fa, so, O, V, B, hx, hg, A, C, R, ho, rfl, hM, hB, hfa, hw⟩ := hI
  have hw3 : w ≤ 300 := hx.1.1.2.2.2.2.2.2.2.2.2
  have hV := hx.2.2
  refine h_aload_n Z dL_law_214 rfl ?_
  refine h_arg X 215 1 (by omega) (by decide) dL_law_215 dL_law_216 dL_law_217 dL_law_218 dL_law_219 ?_
  refine h_arg X 220 2 (by omega) (by decide) dL_law_220 dL_law_221 dL_law_222 dL_law_223 dL_law_224 ?_
  refine h_arg X 225 3 (by omega) (by decide) dL_law_225 dL_law_226 dL_law_227 dL_law_228 dL_law_229 ?_
  refine h_arg X 230 4 (by omega) (by decide) dL_law_230 dL_law_231 dL_law_232 dL_law_233 dL_law_234 ?_
  refine h_arg X 235 5 (by omega) (by decide) dL_law_235 dL_law_236 dL_law_237 dL_law_238 dL_law_239 ?_
  refine h_xI Z (f_X6_range F.l F.D F.cy F.nw S x sa pl la br h n u rd rk rt w fa so O V B hx _ _ _ _ _) 5 gL_law_X6_range rfl (by decide +kernel) (by rw [hRf, hRl]; decide) hx.1.1.1 (κ := 5) hx.1.1.2.1 rfl (by decide) rfl rfl (Nat.le_of_ble_eq_true rfl) dL_law_240 (by rw [hRc, hRs]; omega) (fun r T hp => ?_)
  refine h_pop Z dL_law_243 rfl ?_
  refine h_aload_n Z dL_law_244 rfl ?_
  refine h_arg X 245 1 (by omega) (by decide) dL_law_245 dL_law_246 dL_law_247 dL_law_248 dL_law_249 ?_
  refine h_arg X 250 2 (by omega) (by decide) dL_law_250 dL_law_251 dL_law_252 dL_law_253 dL_law_254 ?_
  refine h_arg X 255 3 (by omega) (by decide) dL_law_255 dL_law_256 dL_law_257 dL_law_258 dL_law_259 ?_
  refine h_arg X 260 4 (by omega) (by decide) dL_law_260 dL_law_261 dL_law_262 dL_law_263 dL_law_264 ?_
  refine h_arg X 265 5 (by omega) (by decide) dL_law_265 dL_law_266 dL_law_267 dL_law_268 dL_law_269 ?_
  refine h_mI Z (f_X7_range F.l F.D F.cy F.nw A m ho C R V hM hV _ _ _ _ _) 5 gL_law_X7_range rfl (by decide +kernel) (by rw [hRf, hRl]; decide) mP_x (κ := 6) mP_Kx rfl (by decide) rfl rfl (Nat.le_of_ble_eq_true rfl) dL_law_270 (by clear hp; rw [hRc, hRs]; omega) (fun r2 T2 hp2 => ?_)
  refine h_pop Z dL_law_273 rfl ?_
  refine h_goto Z 984 dL_law_274 (by decide) ?_
  rcases hp with ⟨j, key, f, t, hok, r0, W, O2, hch, er, hx2⟩ | ⟨hno, er, rfl⟩ <;> rcases hp2 with ⟨j2, key2, f2, t2, hok2, r02, W2, E, rfl, hch2, er2, hM2⟩ | ⟨hno2, er2, rfl⟩
  · obtain ⟨e1, e2, e3, e4⟩ := hok.uniq hok2
    subst e1 e2 e3 e4
    obtain ⟨e5, e6⟩ := Chg.det (hV j hok.1).2.1 hch hch2
    subst e5 e6
    exact h_widen (by omega) (by omega) (nx T _ w g ⟨sa, pl, la, br, h, n, u, rd, rk, rt, fa, so, O2, _, B, hx2, hg, A, E, R, ho, rfl, hM2, hB, hfa, hw⟩)
  · exact absurd ⟨j, key, f, t, hok⟩ hno2
  · exact absurd ⟨j2, key2, f2, t2, hok2⟩ hno
  · exact h_widen (by omega) (by omega) (nx S _ w g ⟨sa, pl, la, br, h, n, u, rd, rk, rt, fa, so, O, V, B, hx, hg, A, C, R, ho, rfl, hM, hB, hfa, hw⟩)

set_option maxRecDepth 100000 in
set_option maxHeartbeats 2000000 in
/-- steps -/
theorem lw_steps {F : Fx} {Q : State → Prop} {b L x m k w g : Nat} {xs : Nat → Int32} {S M : PS} (X : LX F b L xs) (hk : 6 * k + 6 ≤ L) (hI : LJ F.nw x m w g S M) (nx : ∀ (S2 M2 : PS) (w2 g2 : Nat), LJ F.nw x m w2 g2 S2 M2 → G2 F 4 S2 M2 (200 + (k + 1) + 12 * (300 - w2) + g2) (170000 + 1024 * (k + 1) + 12288 * (300 - w2) + 60000 * g2) Q 984 (lvL b x m (6 * k)) []) : G2 F 4 S M (200 + k + 12 * (300 - w) + g) (170000 + 1024 * k + 12288 * (300 - w) + 60000 * g) Q 277 (lvL b x m (6 * k)) [] := by
  obtain ⟨Z, -, -, -, hL, hRf, hRc, hRs, hRl⟩ := id X
  obtain ⟨sa, pl, la, br, h, n, u, rd, rk, rt, fa, so, O, V, B, hx, hg, A, C, R, ho, rfl, hM, hB, hfa, hw⟩ := hI
  have hw3 : w ≤ 300 := hx.1.1.2.2.2.2.2.2.2.2.2
  have hV := hx.2.2
  refine h_aload_n Z dL_law_277 rfl ?_
  refine h_arg X 278 1 (by omega) (by decide) dL_law_278 dL_law_279 dL_law_280 dL_law_281 dL_law_282 ?_
  refine h_arg X 283 2 (by omega) (by decide) dL_law_283 dL_law_284 dL_law_285 dL_law_286 dL_law_287 ?_
  refine h_arg X 288 3 (by omega) (by decide) dL_law_288 dL_law_289 dL_law_290 dL_law_291 dL_law_292 ?_
  refine h_arg X 293 4 (by omega) (by decide) dL_law_293 dL_law_294 dL_law_295 dL_law_296 dL_law_297 ?_
  refine h_xI Z (f_X6_steps F.l F.D F.cy F.nw S x sa pl la br h n u rd rk rt w fa so O V B hx _ _ _ _) 4 gL_law_X6_steps rfl (by decide +kernel) (by rw [hRf, hRl]; decide) hx.1.1.1 (κ := 5) hx.1.1.2.1 rfl (by decide) rfl rfl (Nat.le_of_ble_eq_true rfl) dL_law_298 (by rw [hRc, hRs]; omega) (fun r T hp => ?_)
  refine h_pop Z dL_law_301 rfl ?_
  refine h_aload_n Z dL_law_302 rfl ?_
  refine h_arg X 303 1 (by omega) (by decide) dL_law_303 dL_law_304 dL_law_305 dL_law_306 dL_law_307 ?_
  refine h_arg X 308 2 (by omega) (by decide) dL_law_308 dL_law_309 dL_law_310 dL_law_311 dL_law_312 ?_
  refine h_arg X 313 3 (by omega) (by decide) dL_law_313 dL_law_314 dL_law_315 dL_law_316 dL_law_317 ?_
  refine h_arg X 318 4 (by omega) (by decide) dL_law_318 dL_law_319 dL_law_320 dL_law_321 dL_law_322 ?_
  refine h_mI Z (f_X7_steps F.l F.D F.cy F.nw A m ho C R V hM hV _ _ _ _) 4 gL_law_X7_steps rfl (by decide +kernel) (by rw [hRf, hRl]; decide) mP_x (κ := 6) mP_Kx rfl (by decide) rfl rfl (Nat.le_of_ble_eq_true rfl) dL_law_323 (by clear hp; rw [hRc, hRs]; omega) (fun r2 T2 hp2 => ?_)
  refine h_pop Z dL_law_326 rfl ?_
  refine h_goto Z 984 dL_law_327 (by decide) ?_
  rcases hp with ⟨j, key, f, q, hok, r0, W, O2, hch, er, hx2⟩ | ⟨hno, er, rfl⟩ <;> rcases hp2 with ⟨j2, key2, f2, q2, hok2, r02, W2, E, rfl, hch2, er2, hM2⟩ | ⟨hno2, er2, rfl⟩
  · obtain ⟨e1, e2, e3, e4⟩ := hok.uniq hok2
    subst e1 e2 e3 e4
    obtain ⟨e5, e6⟩ := Chg.det (hV j hok.1).2.1 hch hch2
    subst e5 e6
    exact h_widen (by omega) (by omega) (nx T _ w g ⟨sa, pl, la, br, h, n, u, rd, rk, rt, fa, so, O2, _, B, hx2, hg, A, E, R, ho, rfl, hM2, hB, hfa, hw⟩)
  · exact absurd ⟨j, key, f, q, hok⟩ hno2
  · exact absurd ⟨j2, key2, f2, q2, hok2⟩ hno
  · exact h_widen (by omega) (by omega) (nx S _ w g ⟨sa, pl, la, br, h, n, u, rd, rk, rt, fa, so, O, V, B, hx, hg, A, C, R, ho, rfl, hM, hB, hfa, hw⟩)

set_option maxRecDepth 100000 in
set_option maxHeartbeats 2000000 in
/-- clear -/
theorem lw_clear {F : Fx} {Q : State → Prop} {b L x m k w g : Nat} {xs : Nat → Int32} {S M : PS} (X : LX F b L xs) (hk : 6 * k + 6 ≤ L) (hI : LJ F.nw x m w g S M) (nx : ∀ (S2 M2 : PS) (w2 g2 : Nat), LJ F.nw x m w2 g2 S2 M2 → G2 F 4 S2 M2 (200 + (k + 1) + 12 * (300 - w2) + g2) (170000 + 1024 * (k + 1) + 12288 * (300 - w2) + 60000 * g2) Q 984 (lvL b x m (6 * k)) []) : G2 F 4 S M (200 + k + 12 * (300 - w) + g) (170000 + 1024 * k + 12288 * (300 - w) + 60000 * g) Q 330 (lvL b x m (6 * k)) [] := by
  obtain ⟨Z, -, -, -, hL, hRf, hRc, hRs, hRl⟩ := id X
  obtain ⟨sa, pl, la, br, h, n, u, rd, rk, rt, fa, so, O, V, B, hx, hg, A, C, R, ho, rfl, hM, hB, hfa, hw⟩ := hI
  have hw3 : w ≤ 300 := hx.1.1.2.2.2.2.2.2.2.2.2
  have hV := hx.2.2
  refine h_aload_n Z dL_law_330 rfl ?_
  refine h_arg X 331 1 (by omega) (by decide) dL_law_331 dL_law_332 dL_law_333 dL_law_334 dL_law_335 ?_
  refine h_xI Z (f_X6_clear F.l F.D F.cy F.nw S x sa pl la br h n u rd rk rt w fa so O V B hx _) 1 gL_law_X6_clear rfl (by decide +kernel) (by rw [hRf, hRl]; decide) hx.1.1.1 (κ := 5) hx.1.1.2.1 rfl (by decide) rfl rfl (Nat.le_of_ble_eq_true rfl) dL_law_336 (by rw [hRc, hRs]; omega) (fun r T hp => ?_)
  refine h_pop Z dL_law_339 rfl ?_
  refine h_aload_n Z dL_law_340 rfl ?_
  refine h_arg X 341 1 (by omega) (by decide) dL_law_341 dL_law_342 dL_law_343 dL_law_344 dL_law_345 ?_
  refine h_mI Z (f_X7_clear F.l F.D F.cy F.nw A m ho C R V hM hV _) 1 gL_law_X7_clear rfl (by decide +kernel) (by rw [hRf, hRl]; decide) mP_x (κ := 6) mP_Kx rfl (by decide) rfl rfl (Nat.le_of_ble_eq_true rfl) dL_law_346 (by clear hp; rw [hRc, hRs]; omega) (fun r2 T2 hp2 => ?_)
  refine h_pop Z dL_law_349 rfl ?_
  refine h_goto Z 984 dL_law_350 (by decide) ?_
  rcases hp with ⟨j, hj, ej, er, O2, hx2⟩ | ⟨hno, er, rfl⟩ <;> rcases hp2 with ⟨j2, hj2, ej2, er2, E, rfl, hM2⟩ | ⟨hno2, er2, rfl⟩
  · have e1 := s_eq (ej.symm.trans ej2) (by omega) (by omega)
    subst e1
    exact h_widen (by omega) (by omega) (nx T _ w g ⟨sa, pl, la, br, h, n, u, rd, rk, rt, fa, so, O2, _, B, hx2, hg, A, E, R, ho, rfl, hM2, hB, hfa, hw⟩)
  · exact absurd ⟨j, hj, ej⟩ hno2
  · exact absurd ⟨j2, hj2, ej2⟩ hno
  · exact h_widen (by omega) (by omega) (nx S _ w g ⟨sa, pl, la, br, h, n, u, rd, rk, rt, fa, so, O, V, B, hx, hg, A, C, R, ho, rfl, hM, hB, hfa, hw⟩)
