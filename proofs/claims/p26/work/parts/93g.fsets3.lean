theorem Srt.ins {V : Sv} (hs : Srt V) {key i : Nat} {d : Int32} {W : Nat → Int64} (hi : IsIx V key i) (hne : i < V.1 → (V.2 i).1 ≠ key) : Srt (V.ins i (key, d, W)) := by
  have hlo : ∀ k, k < i → (V.2 k).1 < key := hi.2.1
  have hhi : ∀ k, i ≤ k → k < V.1 → key < (V.2 k).1 := by
    intro k h1 h2
    have a := hi.2.2 (by omega)
    have b := hne (by omega)
    by_cases e : i = k
    · subst e; omega
    · have := hs i k (by omega) h2; omega
  intro a b hab hb
  have hb2 : b < V.1 + 1 := hb
  show (if a < i then V.2 a else if a = i then (key, d, W) else V.2 (a - 1)).1 < (if b < i then V.2 b else if b = i then (key, d, W) else V.2 (b - 1)).1
  by_cases h1 : b < i
  · rw [if_pos h1, if_pos (by omega)]; exact hs a b hab (by have := hi.1; omega)
  · rw [if_neg h1]
    by_cases h2 : b = i
    · rw [if_pos h2, if_pos (by omega)]; exact hlo a (by omega)
    · rw [if_neg h2]
      by_cases h3 : a < i
      · rw [if_pos h3]
        have := hlo a h3
        have := hhi (b - 1) (by omega) (by omega)
        omega
      · rw [if_neg h3]
        by_cases h4 : a = i
        · rw [if_pos h4]; exact hhi (b - 1) (by omega) (by omega)
        · rw [if_neg h4]; exact hs (a - 1) (b - 1) (by omega) (by omega)
theorem Srt.put {V : Sv} (hs : Srt V) {i : Nat} {d : Int32} {W : Nat → Int64} : Srt (V.put i ((V.2 i).1, d, W)) := by
  intro a b hab hb
  have h := hs a b hab hb
  show (if a = i then ((V.2 i).1, d, W) else V.2 a).1 < (if b = i then ((V.2 i).1, d, W) else V.2 b).1
  by_cases h1 : a = i
  · subst h1; rw [if_pos rfl, if_neg (by omega)]; exact h
  · rw [if_neg h1]
    by_cases h2 : b = i
    · subst h2; rw [if_pos rfl]; exact h
    · rw [if_neg h2]; exact h
theorem Srt.del {V : Sv} (hs : Srt V) {i : Nat} : Srt (V.del i) := by
  intro a b hab hb
  have hb2 : b < V.1 - 1 := hb
  show (if a < i then V.2 a else V.2 (a + 1)).1 < (if b < i then V.2 b else V.2 (b + 1)).1
  by_cases h1 : b < i
  · rw [if_pos h1, if_pos (by omega)]; exact hs a b hab (by omega)
  · rw [if_neg h1]
    by_cases h2 : a < i
    · rw [if_pos h2]; exact hs a (b + 1) (by omega) (by omega)
    · rw [if_neg h2]; exact hs (a + 1) (b + 1) (by omega) (by omega)
theorem put_ins (V : Sv) (i : Nat) (a c : Cn) : (V.ins i a).put i c = V.ins i c := by
  refine Prod.ext rfl (funext (fun k => ?_))
  show (if k = i then c else (if k < i then V.2 k else if k = i then a else V.2 (k - 1))) = (if k < i then V.2 k else if k = i then c else V.2 (k - 1))
  by_cases h : k = i
  · subst h; rw [if_pos rfl, if_neg (Nat.lt_irrefl _), if_pos rfl]
  · rw [if_neg h, if_neg h, if_neg h]
theorem put_put (V : Sv) (i : Nat) (a c : Cn) : (V.put i a).put i c = V.put i c := by
  refine Prod.ext rfl (funext (fun k => ?_))
  show (if k = i then c else (if k = i then a else V.2 k)) = (if k = i then c else V.2 k)
  by_cases h : k = i
  · rw [if_pos h, if_pos h]
  · rw [if_neg h, if_neg h, if_neg h]
theorem del_put (V : Sv) (i : Nat) (a : Cn) : (V.put i a).del i = V.del i := by
  refine Prod.ext rfl (funext (fun k => ?_))
  show (if k < i then (if k = i then a else V.2 k) else (if k + 1 = i then a else V.2 (k + 1))) = (if k < i then V.2 k else V.2 (k + 1))
  by_cases h : k < i
  · rw [if_pos h, if_pos h, if_neg (show ¬ k = i by omega)]
  · rw [if_neg h, if_neg h, if_neg (show ¬ k + 1 = i by omega)]
theorem sv_put_at (V : Sv) (i : Nat) (a : Cn) : (V.put i a).2 i = a := if_pos rfl
theorem sv_ins_at (V : Sv) (i : Nat) (a : Cn) : (V.ins i a).2 i = a := by
  show (if i < i then V.2 i else if i = i then a else V.2 (i - 1)) = a
  rw [if_neg (Nat.lt_irrefl _), if_pos rfl]
/-- an owner's name may be another where no cell is -/
theorem SV.ow {S : PS} {nw : Nat} {O O2 : Nat → Nat} {b s it : Nat} {C : Nat → Nat} {V : Sv} (hn : nw ∉ S.L) (hO : ∀ a ∈ S.L, O2 a = O a) (h : SV S nw O b s it C V) : SV S nw O2 b s it C V := SV.keep (fun _ h => h) hO Ag.rf (fun _ _ _ => Ag.rf) hn h
theorem SV.congr {S : PS} {nw : Nat} {O : Nat → Nat} {b s it : Nat} {C : Nat → Nat} {V V2 : Sv} (hn : V.1 = V2.1) (he : ∀ i, i < V.1 → (V.2 i).1 = (V2.2 i).1 ∧ (V.2 i).2.1 = (V2.2 i).2.1 ∧ ∀ j, j < 1024 → (V.2 i).2.2 j = (V2.2 i).2.2 j) (h : SV S nw O b s it C V) : SV S nw O b s it C V2 := by
  obtain ⟨h1, h2, h3, h4, h5, hB, h7⟩ := h
  refine ⟨h1, h2, h3, by rw [← hn]; exact h4, by rw [← hn]; exact h5, hB, fun i hi => ?_⟩
  rw [← hn] at hi
  obtain ⟨w, k1, k2, k3, k4, k5, k6⟩ := h7 i hi
  obtain ⟨e1, e2, e3⟩ := he i hi
  exact ⟨w, k1, by rw [← e1]; exact k2, by rw [← e1]; exact k3, by rw [← e2]; exact k4, by rw [← tot_congr e3]; exact k5, fun j hj => (k6 j hj).trans (e3 j hj)⟩
theorem SV.putC {T : PS} {nw : Nat} {O : Nat → Nat} {b s it : Nat} {C : Nat → Nat} {V : Sv} {i k : Nat} {d : Int32} {R W : Nat → Int64} (hW : ∀ j, j < 1024 → R j = W j) (h : SV T nw O b s it C (V.put i (k, d, R))) : SV T nw O b s it C (V.put i (k, d, W)) := by
  refine SV.congr (V := V.put i (k, d, R)) rfl (fun j hj => ?_) h
  show ((if j = i then (k, d, R) else V.2 j) : Cn).1 = ((if j = i then (k, d, W) else V.2 j) : Cn).1 ∧ ((if j = i then (k, d, R) else V.2 j) : Cn).2.1 = ((if j = i then (k, d, W) else V.2 j) : Cn).2.1 ∧ ∀ q, q < 1024 → ((if j = i then (k, d, R) else V.2 j) : Cn).2.2 q = ((if j = i then (k, d, W) else V.2 j) : Cn).2.2 q
  by_cases e : j = i
  · simp only [if_pos e]; exact ⟨trivial, trivial, hW⟩
  · simp only [if_neg e]; exact ⟨trivial, trivial, fun _ _ => trivial⟩
/-- a container of a set has another value -/
theorem SV.put {S : PS} {nw : Nat} {O : Nat → Nat} {b s it : Nat} {C : Nat → Nat} {V : Sv} (hv : SV S nw O b s it C V) {i w : Nat} (hi : i < V.1) (hn : nw ∉ S.L) (hq : Cq S (C i) w) {k : Nat} (hk : k < 65536) (d : Int32) (R : Nat → Int64) :
    SV (CS S (C i) w (nI k) d (nI (tot R)) R) nw O b s it C (V.put i (k, d, R)) ∧ Kp (fun a => O a = b) S (CS S (C i) w (nI k) d (nI (tot R)) R) := by
  obtain ⟨h1, h2, h3, h4, h5, hB, h7⟩ := id hv
  have hrm : Rm nw S (C i) S w := Or.inl ⟨rfl, hq⟩
  obtain ⟨a1, a2, a3, a4, a5, a6, a7⟩ := hB.chg (s := s) (i := i) (k := k) (d := d) (v := nI (tot R)) (R := R) h1 h2 (by omega) hrm hk hn
  refine ⟨SV.ow (O := va_up O w b) hn (fun a ha => (a1 a ha).symm) ⟨a6, a7.1.trans h2, by rw [a7.2.2.1]; exact h3, by rw [a7.2.1]; exact h4, h5, a3, fun j hj => ?_⟩, a2⟩
  show Cv _ (C j) (if j = i then (k, d, R) else V.2 j)
  have hj2 : j < V.1 := hj
  by_cases e : j = i
  · subst e
    rw [if_pos rfl]
    exact ⟨w, a4, CS_g0, hk, CS_g1, CS_g2, fun q hq => by rw [CS_gR]⟩
  · rw [if_neg e]
    exact a5 j (by omega) e _ (h7 j hj2)
theorem CS_setd (S : PS) (c w : Nat) (d : Int32) : S.setI c 1 d = CS S c w (S.fi c 0) d (S.fi c 2) (S.rj w) := (congrArg (fun X : PS => X.setI c 1 d) (CS_id S c w)).trans CS_d
/-- what a call that changes the lows of a key leaves -/
def Chg (V : Sv) (key : Nat) (go : Prop) (g : (Nat → Int64) → Nat → Int64) (r : Int32) (V2 : Sv) : Prop :=
  (∃ i, i < V.1 ∧ (V.2 i).1 = key ∧ ((r = 0 ∧ V2 = V ∧ ∀ j, j < 1024 → g (V.2 i).2.2 j = (V.2 i).2.2 j) ∨ (r = 1 ∧ (∃ j, j < 1024 ∧ g (V.2 i).2.2 j ≠ (V.2 i).2.2 j) ∧ ((tot (g (V.2 i).2.2) = 0 ∧ V2 = V.del i) ∨ (0 < tot (g (V.2 i).2.2) ∧ V2 = V.put i (key, plK (nI (tot (g (V.2 i).2.2))), g (V.2 i).2.2)))))) ∨
  (∃ i, IsIx V key i ∧ (i < V.1 → (V.2 i).1 ≠ key) ∧ ((go ∧ r = 0 ∧ V2 = V) ∨ (¬ go ∧ 6 ≤ V.1 ∧ r = -3 ∧ V2 = V) ∨ (¬ go ∧ V.1 < 6 ∧ r = 1 ∧ 0 < tot (g zW) ∧ V2 = V.ins i (key, plK (nI (tot (g zW))), g zW))))
theorem rg_congr {h : Int32} {f t : Nat} {A B : Nat → Int64} (e : ∀ j, j < 1024 → A j = B j) : ∀ j, j < 1024 → rg h f t A j = rg h f t B j := by
  intro j hj
  unfold rg rgW
  rw [e j hj]
theorem stR_congr {f q : Nat} {A B : Nat → Int64} (e : ∀ j, j < 1024 → A j = B j) : ∀ n, (∀ i, i < n → f + q * i ≤ 65535) → ∀ j, j < 1024 → stR A f q n j = stR B f q n j
  | 0, _ => e
  | n + 1, hb => by
    intro j hj
    have ih := stR_congr e n (fun i hi => hb i (by omega))
    have hl := hb n (by omega)
    show orb (stR A f q n) (f + q * n) j = orb (stR B f q n) (f + q * n) j
    unfold orb
    by_cases h : j = (f + q * n) / 64
    · rw [h, pk_uLs, pk_uLs, ih _ (by omega)]
    · rw [pk_uLn h, pk_uLn h]; exact ih j hj
theorem tot_pos {W : Nat → Int64} {l : Nat} (hl : l < 65536) (h : cb W 0 l = 1) : 0 < tot W := by
  have h1 : ct W 0 (l + 1) = ct W 0 l + 1 := by show ct W 0 l + cb W 0 l = _; rw [h]
  have h2 := ct_mono' W 0 (show l + 1 ≤ 65536 by omega)
  rw [tot_ct]
  omega
theorem rg_pos {h : Int32} {f t : Nat} (hf : f < 65536) (hft : f ≤ t) (hne : ¬ h = 1) {A : Nat → Int64} (hA : ∀ j, j < 1024 → A j = 0) : 0 < tot (rg h f t A) := by
  refine tot_pos hf ?_
  rw [rg_bit h hf, if_pos ⟨Nat.le_refl _, hft⟩]
  have hz : cb A 0 f = 0 := by rw [cbz, hA _ (by omega), show wv 0 = 0 from rfl]; simp
  unfold bH
  rw [hz]
  by_cases h0 : h = 0
  · rw [if_pos h0]
  · rw [if_neg h0, if_neg hne]
theorem stR_pos {f q : Nat} (hf : f < 65536) {A : Nat → Int64} : ∀ n, 0 < n → (∀ i, i < n → f + q * i ≤ 65535) → cb (stR A f q n) 0 f = 1
  | 0, h, _ => absurd h (Nat.lt_irrefl _)
  | n + 1, _, hb => by
    show cb (orb (stR A f q n) (f + q * n)) 0 f = 1
    rw [orb_bit _ (by have := hb n (by omega); omega)]
    by_cases h : f = f + q * n
    · rw [if_pos h]
    · rw [if_neg h]
      refine stR_pos hf n ?_ (fun i hi => hb i (by omega))
      rcases Nat.eq_zero_or_pos n with e | e
      · subst e; exact absurd rfl h
      · exact e

set_option maxRecDepth 100000 in
set_option maxHeartbeats 2000000 in
/-- the kind of a container that has changed; an empty one goes -/
theorem f_X2_settle (l : Launch) (D : va_G) (cy : Nat → ClassId) (nw : Nat) (S : PS) (O : Nat → Nat) (b s it : Nat) (C : Nat → Nat) (V : Sv) (hv : SV S nw O b s it C V) (i : Nat) (hi : i < V.1) (hsr0 : Srt V) (x : Int32) (hx : x = 0 ∨ x = 1) : kI l yX2_settle wsX2_settle 2 46 D cy nw [.ref s, .ref (C i), .int x] S (fun r T => (x = 0 ∧ r = 0 ∧ S = T) ∨ (x = 1 ∧ r = 1 ∧ Kp (fun a => O a = b ∨ a = s) S T ∧ ((tot (V.2 i).2.2 = 0 ∧ ∃ C2, SV T nw O b s it C2 (V.del i)) ∨ (0 < tot (V.2 i).2.2 ∧ SV T nw O b s it C (V.put i ((V.2 i).1, plK (nI (tot (V.2 i).2.2)), (V.2 i).2.2)))))) 0 0 := by
  refine enterI (cc := cX2_settle) (nL := 3) (ret := (some .int)) (by decide +kernel) rfl (Nat.le_of_ble_eq_true rfl) ?_
  intro F Z hl hR hD hcy hnw hnm
  subst hl hD hcy hnw
  have hRf : F.R.frames = 2 := by rw [hR]
  have hRc : F.R.cells = 0 := by rw [hR]
  have hRs : F.R.slots = 0 := by rw [hR]
  have hRl : F.R.locals = 46 := by rw [hR]
  have in1 : ∀ w ∈ u_ws RX1 TX1 4, w ∈ wsX2_settle := by decide +kernel
  have lk26 : Cond.fieldLink RX2 26 (TX1 0).1 (TX1 0).2.1 (TX1 0).2.2.1 ∈ wsX2_settle := by decide +kernel
  have lk63 : Cond.fieldLink RX2 63 (TX1 2).1 (TX1 2).2.1 (TX1 2).2.2.1 ∈ wsX2_settle := by decide +kernel
  refine g_nw Z (fun hnw => ?_)
  have hs := hv.at
  obtain ⟨hsL, hsK, hsit, hitL, hitK, hitl, hsu, hu7, hsw, hsr⟩ := id hs
  obtain ⟨w, hcq, ek, hk16, ed, et, ew⟩ := hv.cv hi
  obtain ⟨hcL, hcK, hww, hwL, hwK, hwl⟩ := id hcq
  have ewt : tot (S.rj w) = tot (V.2 i).2.2 := tot_congr ew
  have hx1 : ¬ x = 0 → x = 1 := fun h => hx.resolve_left h
  refine g_iload_n Z dX2_settle_0 rfl ?_
  refine g_if_ne Z 6 dX2_settle_1 (by decide) (fun h1 => ?_) (fun h1 => ?_)
  · refine g_aload_n Z dX2_settle_6 rfl ?_
    refine g_cvV Z (f_X1_setPlainKind F.l F.D F.cy F.nw S (C i) hcL hcK) 0 gX2_settle_X1_setPlainKind rfl (by decide +kernel) (by rw [hRf, hRl]; decide) (by assumption) (κ := 1) (by assumption) rfl (by decide) rfl rfl (Nat.le_of_ble_eq_true rfl) dX2_settle_7 (by rw [hRc, hRs]; omega) (fun U hp => ?_)
    subst hp
    obtain ⟨hsv, hkp⟩ := hv.put hi hnw hcq hk16 (plK (nI (tot (V.2 i).2.2))) (S.rj w)
    rw [ewt, ← ek, ← et, ← CS_setd] at hsv hkp
    have hsv2 : SV (S.setI (C i) 1 (plK (S.fi (C i) 2))) F.nw O b s it C (V.put i ((V.2 i).1, plK (S.fi (C i) 2), (V.2 i).2.2)) := SV.putC ew hsv
    have kpm : Kp (fun a => O a = b ∨ a = s) S (S.setI (C i) 1 (plK (S.fi (C i) 2))) := hkp.mono (fun a _ h => Or.inl h)
    refine g_aload_n Z dX2_settle_10 rfl ?_
    refine g_geti Z 1 2 rfl (by decide) in1 lk63 dX2_settle_11 (by assumption) (by assumption) ?_
    rw [show PS.fi (S.setI (C i) 1 _) (C i) 2 = S.fi (C i) 2 from up2_ne _ _ (Or.inr (by decide))]
    refine g_if_ne Z 25 dX2_settle_14 (by decide) (fun h14 => ?_) (fun h14 => ?_)
    · have ht0 : 0 < tot (V.2 i).2.2 := by
        rcases Nat.eq_zero_or_pos (tot (V.2 i).2.2) with e | e
        · rw [et, e] at h14; exact absurd nI_0 h14
        · exact e
      refine g_iconst (v := 1) Z dX2_settle_25 (by decide) ?_
      exact g_iret Z dX2_settle_26 (by omega) (by omega) (by first | exact Or.inr ⟨hx1 h1, rfl, kpm.tr hk2, Or.inl ⟨ht0, C2, hs3⟩⟩ | exact Or.inr ⟨hx1 h1, rfl, kpm, Or.inr ⟨ht0, by rw [← et]; exact hsv2⟩⟩)
    · have ht0 : tot (V.2 i).2.2 = 0 := by
        rw [et] at h14; exact (nI_eq (by have := tot_le (V.2 i).2.2; omega) (by decide)).mp (h14.trans nI_0.symm)
      refine g_aload_n Z dX2_settle_17 rfl ?_
      refine g_aload_n Z dX2_settle_18 rfl ?_
      refine g_geti Z 1 0 rfl (by decide) in1 lk26 dX2_settle_19 (by assumption) (by assumption) ?_
      rw [show PS.fi (S.setI (C i) 1 _) (C i) 0 = nI (V.2 i).1 from (up2_ne _ _ (Or.inr (by decide))).trans ek]
      refine g_cvV Z (f_X2_leaveOut F.l F.D F.cy F.nw _ O b s it C _ hsv2 (V.2 i).1 i hk16 hsr0.put hi (by rw [sv_put_at])) 1 gX2_settle_X2_leaveOut rfl (by decide +kernel) (by rw [hRf, hRl]; decide) (by assumption) (κ := 2) (by assumption) rfl (by decide) rfl rfl (Nat.le_of_ble_eq_true rfl) dX2_settle_22 (by rw [hRc, hRs]; omega) (fun V3 hp2 => ?_)
      obtain ⟨C2, hk2, hs3⟩ := hp2
      rw [del_put] at hs3
      refine g_iconst (v := 1) Z dX2_settle_25 (by decide) ?_
      exact g_iret Z dX2_settle_26 (by omega) (by omega) (by first | exact Or.inr ⟨hx1 h1, rfl, kpm.tr hk2, Or.inl ⟨ht0, C2, hs3⟩⟩ | exact Or.inr ⟨hx1 h1, rfl, kpm, Or.inr ⟨ht0, by rw [← et]; exact hsv2⟩⟩)
  · have hx0 : x = 0 := h1
    refine g_iconst (v := 0) Z dX2_settle_4 (by decide) ?_
    exact g_iret Z dX2_settle_5 (by omega) (by omega) (Or.inl ⟨hx0, rfl, rfl⟩)

/-- a set's cells behind a call that changed its lows -/
def After (S T : PS) (nw : Nat) (O : Nat → Nat) (b s it : Nat) (V : Sv) : Prop := ∃ O2 C2, (∀ a ∈ S.L, O2 a = O a) ∧ Kp (fun a => O a = b ∨ a = s) S T ∧ SV T nw O2 b s it C2 V
theorem chg_sv {S T U : PS} {nw : Nat} {O : Nat → Nat} {b s it : Nat} {C : Nat → Nat} {V : Sv} {key i w : Nat} {g : (Nat → Int64) → Nat → Int64} {go : Prop} {R : Nat → Int64} {x r : Int32}
    (hi : i < V.1) (hkey : (V.2 i).1 = key) (hR : ∀ j, j < 1024 → R j = g (V.2 i).2.2 j) (hfl : Fl x (S.rj w) R) (ew : ∀ j, j < 1024 → S.rj w j = (V.2 i).2.2 j) (hs0 : SV S nw O b s it C V)
    (hkp : Kp (fun a => O a = b) S T) (hsT : x = 0 → SV T nw O b s it C V)
    (hp : (x = 0 ∧ r = 0 ∧ T = U) ∨ (x = 1 ∧ r = 1 ∧ Kp (fun a => O a = b ∨ a = s) T U ∧ ((tot ((V.put i (key, (V.2 i).2.1, g (V.2 i).2.2)).2 i).2.2 = 0 ∧ ∃ C2, SV U nw O b s it C2 ((V.put i (key, (V.2 i).2.1, g (V.2 i).2.2)).del i)) ∨ (0 < tot ((V.put i (key, (V.2 i).2.1, g (V.2 i).2.2)).2 i).2.2 ∧ SV U nw O b s it C ((V.put i (key, (V.2 i).2.1, g (V.2 i).2.2)).put i (((V.put i (key, (V.2 i).2.1, g (V.2 i).2.2)).2 i).1, plK (nI (tot ((V.put i (key, (V.2 i).2.1, g (V.2 i).2.2)).2 i).2.2)), ((V.put i (key, (V.2 i).2.1, g (V.2 i).2.2)).2 i).2.2)))))) :
    ∃ V2, Chg V key go g r V2 ∧ After S U nw O b s it V2 := by
  have km : Kp (fun a => O a = b ∨ a = s) S T := hkp.mono (fun a _ h => Or.inl h)
  rcases hp with ⟨rfl, rfl, rfl⟩ | ⟨rfl, rfl, hk2, hp⟩
  · refine ⟨V, Or.inl ⟨i, hi, hkey, Or.inl ⟨rfl, rfl, fun j hj => ?_⟩⟩, O, C, fun _ _ => rfl, km, hsT rfl⟩
    rcases hfl with ⟨-, h⟩ | ⟨h, -⟩
    · rw [← hR j hj, h j hj]; exact ew j hj
    · exact absurd h (by decide)
  · have hne : ∃ j, j < 1024 ∧ g (V.2 i).2.2 j ≠ (V.2 i).2.2 j := by
      rcases hfl with ⟨h, -⟩ | ⟨-, j, hj, h⟩
      · exact absurd h (by decide)
      · exact ⟨j, hj, by rw [← hR j hj, ← ew j hj]; exact h⟩
    rw [sv_put_at, del_put, put_put] at hp
    rcases hp with ⟨h0, C2, h1⟩ | ⟨h0, h1⟩
    · exact ⟨V.del i, Or.inl ⟨i, hi, hkey, Or.inr ⟨rfl, hne, Or.inl ⟨h0, rfl⟩⟩⟩, O, C2, fun _ _ => rfl, km.tr hk2, h1⟩
    · exact ⟨_, Or.inl ⟨i, hi, hkey, Or.inr ⟨rfl, hne, Or.inr ⟨h0, rfl⟩⟩⟩, O, C, fun _ _ => rfl, km.tr hk2, h1⟩

/-- a container of a set has other words -/
theorem SV.putW {S : PS} {nw : Nat} {O : Nat → Nat} {b s it : Nat} {C : Nat → Nat} {V : Sv} (hv : SV S nw O b s it C V) {i w : Nat} (hi : i < V.1) (hn : nw ∉ S.L) (hq : Cq S (C i) w) {R W : Nat → Int64} (hW : ∀ j, j < 1024 → R j = W j) :
    SV (CS S (C i) w (S.fi (C i) 0) (S.fi (C i) 1) (nI (tot R)) R) nw O b s it C (V.put i ((V.2 i).1, (V.2 i).2.1, W)) ∧ Kp (fun a => O a = b) S (CS S (C i) w (S.fi (C i) 0) (S.fi (C i) 1) (nI (tot R)) R) := by
  obtain ⟨w', hq', ek, hk16, ed, -, -⟩ := hv.cv hi
  obtain ⟨h1, h2⟩ := hv.put hi hn hq hk16 (V.2 i).2.1 R
  rw [ek, ed]
  exact ⟨SV.putC hW h1, h2⟩
theorem SV.putS {nw : Nat} {O : Nat → Nat} {b s it : Nat} {C : Nat → Nat} {V : Sv} {i : Nat} {W : Nat → Int64} {T : PS} (hW : ∀ j, j < 1024 → W j = (V.2 i).2.2 j) (h : SV T nw O b s it C (V.put i ((V.2 i).1, (V.2 i).2.1, W))) : SV T nw O b s it C V := by
  refine SV.congr (V := V.put i ((V.2 i).1, (V.2 i).2.1, W)) rfl (fun j hj => ?_) h
  show ((if j = i then ((V.2 i).1, (V.2 i).2.1, W) else V.2 j) : Cn).1 = (V.2 j).1 ∧ ((if j = i then ((V.2 i).1, (V.2 i).2.1, W) else V.2 j) : Cn).2.1 = (V.2 j).2.1 ∧ ∀ q, q < 1024 → ((if j = i then ((V.2 i).1, (V.2 i).2.1, W) else V.2 j) : Cn).2.2 q = (V.2 j).2.2 q
  by_cases e : j = i
  · simp only [if_pos e]; rw [e]; exact ⟨rfl, rfl, hW⟩
  · simp only [if_neg e]; exact ⟨trivial, trivial, fun _ _ => trivial⟩
theorem Kp.tr2 {O O2 : Nat → Nat} {b s : Nat} {S T U : PS} (hO : ∀ a ∈ S.L, O2 a = O a) (h : Kp (fun a => O a = b ∨ a = s) S T) (k : Kp (fun a => O2 a = b ∨ a = s) T U) : Kp (fun a => O a = b ∨ a = s) S U :=
  ⟨fun a ha => k.1 a (h.1 a ha), fun a ha hn => (h.2 a ha hn).tr (k.2 a (h.1 a ha) (fun q => hn (q.imp (fun e => (hO a ha).symm.trans e) id)))⟩
theorem chg_new {S T U : PS} {nw : Nat} {O O2 : Nat → Nat} {b s it : Nat} {C2 : Nat → Nat} {V : Sv} {key i : Nat} {g : (Nat → Int64) → Nat → Int64} {go : Prop} {x r : Int32} {A R : Nat → Int64} {X : PS}
    (hn : V.1 < 6) (hix : IsIx V key i) (hne : i < V.1 → (V.2 i).1 ≠ key) (hgo : ¬ go) (hO : ∀ a ∈ S.L, O2 a = O a) (hk1 : Kp (fun a => O a = b ∨ a = s) S T) (hkX : Kp (fun a => O2 a = b) T X) (hpos : 0 < tot (g zW)) (hA : ∀ j, j < 1024 → A j = 0) (hR : ∀ j, j < 1024 → R j = g zW j) (hfl : Fl x A R)
    (hp : (x = 0 ∧ r = 0 ∧ X = U) ∨ (x = 1 ∧ r = 1 ∧ Kp (fun a => O2 a = b ∨ a = s) X U ∧ ((tot ((V.ins i (key, 0, g zW)).2 i).2.2 = 0 ∧ ∃ C3, SV U nw O2 b s it C3 ((V.ins i (key, 0, g zW)).del i)) ∨ (0 < tot ((V.ins i (key, 0, g zW)).2 i).2.2 ∧ SV U nw O2 b s it C2 ((V.ins i (key, 0, g zW)).put i (((V.ins i (key, 0, g zW)).2 i).1, plK (nI (tot ((V.ins i (key, 0, g zW)).2 i).2.2)), ((V.ins i (key, 0, g zW)).2 i).2.2)))))) :
    ∃ V2, Chg V key go g r V2 ∧ After S U nw O b s it V2 := by
  rcases hp with ⟨rfl, -, -⟩ | ⟨-, rfl, hk2, hp⟩
  · exfalso
    rcases hfl with ⟨-, h⟩ | ⟨h, -⟩
    · have e : tot (g zW) = tot zW := tot_congr (fun j hj => by rw [← hR j hj, h j hj]; exact hA j hj)
      rw [tot_zW] at e
      omega
    · exact absurd h (by decide)
  · rw [sv_ins_at, put_ins] at hp
    rcases hp with ⟨h0, -⟩ | ⟨-, h1⟩
    · exact absurd h0 (Nat.ne_of_gt hpos)
    · exact ⟨_, Or.inr ⟨i, hix, hne, Or.inr (Or.inr ⟨hgo, hn, rfl, hpos, rfl⟩)⟩, O2, C2, hO, (hk1.tr2 hO (hkX.mono (fun a _ h => Or.inl h))).tr2 hO hk2, h1⟩

set_option maxRecDepth 100000 in
set_option maxHeartbeats 2000000 in
/-- numbers of a key come, go or turn -/
theorem f_X2_changeSpan (l : Launch) (D : va_G) (cy : Nat → ClassId) (nw : Nat) (S : PS) (O : Nat → Nat) (b s it : Nat) (C : Nat → Nat) (V : Sv) (hv : SV S nw O b s it C V) (hsrt : Srt V) (key f t : Nat) (hk : key < 65536) (hf : f < 65536) (ht : t < 65536) (hft : f ≤ t) (h : Int32) : kI l yX2_changeSpan wsX2_changeSpan 3 69 D cy nw [.ref s, .int (nI key), .int (nI f), .int (nI t), .int h] S (fun r T => ∃ V2, Chg V key (h = 1) (rg h f t) r V2 ∧ After S T nw O b s it V2) 1 1024 := by
  refine enterI (cc := cX2_changeSpan) (nL := 6) (ret := (some .int)) (by decide +kernel) rfl (Nat.le_of_ble_eq_true rfl) ?_
  intro F Z hl hR hD hcy hnw hnm
  subst hl hD hcy hnw
  have hRf : F.R.frames = 3 := by rw [hR]
  have hRc : F.R.cells = 1 := by rw [hR]
  have hRs : F.R.slots = 1024 := by rw [hR]
  have hRl : F.R.locals = 69 := by rw [hR]
  refine g_nw Z (fun hnw => ?_)
  have hs := hv.at
  obtain ⟨hsL, hsK, hsit, hitL, hitK, hitl, hsu, hu7, hsw, hsr⟩ := id hs
  have j16 : (h = 1 → ∃ k, k < V.1 ∧ (V.2 k).1 = key) → G F 6 S 0 0 (QI F (fun r T => ∃ V2, Chg V key (h = 1) (rg h f t) r V2 ∧ After S T F.nw O b s it V2) 1 1024) 16 [(0, .ref s), (1, .int (nI key)), (2, .int (nI f)), (3, .int (nI t)), (4, .int h)] [] := by
    intro hgo
    have hng : ∀ i, IsIx V key i → (i < V.1 → (V.2 i).1 ≠ key) → ¬ h = 1 := by
      intro i hix hno e
      obtain ⟨k, hk1, hk2⟩ := hgo e
      obtain rfl := hix.uniq hsrt hk1 hk2
      exact hno hk1 hk2
    refine g_aload_n Z dX2_changeSpan_16 rfl ?_
    refine g_iload_n Z dX2_changeSpan_17 rfl ?_
    refine g_cvR Z (f_X2_findOrMake F.l F.D F.cy F.nw S O b s it C V hv key hk) 1 gX2_changeSpan_X2_findOrMake rfl (by decide +kernel) (by rw [hRf, hRl]; decide) (by assumption) (κ := 2) (by assumption) rfl (by decide) rfl rfl (Nat.le_of_ble_eq_true rfl) dX2_changeSpan_18 (by rw [hRc, hRs]; omega) (fun r T hp => ?_)
    rcases hp with ⟨rfl, rfl, h6, i, hix, hno⟩ | ⟨rfl, i, hi, hkey, rfl⟩ | ⟨h6, i, O2, C2, hix, hno, rfl, hO2, hkp, hsv⟩
    · refine g_astoreN Z dX2_changeSpan_21 (by decide) ?_
      refine g_aloadN Z dX2_changeSpan_23 rfl ?_
      refine g_ifnonnullN Z dX2_changeSpan_25 ?_
      refine g_bipush (v := (-3)) Z dX2_changeSpan_28 (by decide) ?_
      exact g_iret Z dX2_changeSpan_30 (by omega) (by omega) (⟨V, Or.inr ⟨i, hix, hno, Or.inr (Or.inl ⟨hng i hix hno, h6, rfl, rfl⟩)⟩, O, C, fun _ _ => rfl, Kp.rf, hv⟩)
    · obtain ⟨w, hcq, ek, hk16, ed, et, ew⟩ := hv.cv hi
      obtain ⟨hcL, hcK, -, -⟩ := id hcq
      have hvt : S.fi (C i) 2 = nI (tot (S.rj w)) := et.trans (congrArg nI (tot_congr ew).symm)
      refine g_astore Z dX2_changeSpan_21 (by decide) ?_
      refine g_aload Z dX2_changeSpan_23 rfl ?_
      refine g_ifnonnull Z 31 dX2_changeSpan_25 (by decide) ?_
      refine g_aload_n Z dX2_changeSpan_31 rfl ?_
      refine g_aload Z dX2_changeSpan_32 rfl ?_
      refine g_aload Z dX2_changeSpan_34 rfl ?_
      refine g_iload_n Z dX2_changeSpan_36 rfl ?_
      refine g_iload_n Z dX2_changeSpan_37 rfl ?_
      refine g_iload Z dX2_changeSpan_38 rfl ?_
      refine g_cvI Z (f_X1_changeLows F.l F.D F.cy F.nw S (C i) w hcq hvt f t hf ht hft h) 3 gX2_changeSpan_X1_changeLows rfl (by decide +kernel) (by rw [hRf, hRl]; decide) (by assumption) (κ := 1) (by assumption) rfl (by decide) rfl rfl (Nat.le_of_ble_eq_true rfl) dX2_changeSpan_40 (by rw [hRc, hRs]; omega) (fun r2 U hp2 => ?_)
      obtain ⟨rfl, hfl⟩ := hp2
      have hWR : ∀ j, j < 1024 → rg h f t (S.rj w) j = rg h f t (V.2 i).2.2 j := rg_congr ew
      have hsv2 := hv.putW hi hnw hcq hWR
      have hsL3 := hsv2.1.1
      have hsK3 := hsv2.1.2.1
      subst hkey
      refine g_cvI Z (f_X2_settle F.l F.D F.cy F.nw _ O b s it C _ hsv2.1 i hi hsrt.put _ hfl.v) 2 gX2_changeSpan_X2_settle rfl (by decide +kernel) (by rw [hRf, hRl]; decide) (by assumption) (κ := 2) (by assumption) rfl (by decide) rfl rfl (Nat.le_of_ble_eq_true rfl) dX2_changeSpan_43 (by rw [hRc, hRs]; omega) (fun r3 U hp3 => ?_)
      have hfin := chg_sv (go := (h = 1)) (g := (rg h f t)) (V := V) (i := i) (w := w) hi rfl hWR hfl ew hv hsv2.2 (fun e => (SV.putS (fun j hj => by
        rcases hfl with ⟨-, h⟩ | ⟨h, -⟩
        · rw [← hWR j hj, h j hj]; exact ew j hj
        · exact absurd (h.symm.trans e) (by decide)) hsv2.1)) hp3
      exact g_iret Z dX2_changeSpan_46 (by omega) (by omega) (hfin)
    · refine g_nw Z (fun hnT => ?_)
      have hi1 : i < (V.ins i (key, 0, zW)).1 := by have := hix.1; show i < V.1 + 1; omega
      obtain ⟨w, hcq, ek, hk16, ed, et, ew⟩ := hsv.cv hi1
      rw [sv_ins_at] at ek ed et ew
      obtain ⟨hcL, hcK, -, -⟩ := id hcq
      have hsL2 := hsv.1
      have hsK2 := hsv.2.1
      have hA : ∀ j, j < 1024 → T.rj w j = 0 := ew
      have hvt : T.fi (C2 i) 2 = nI (tot (T.rj w)) := et.trans (congrArg nI (tot_congr ew).symm)
      refine g_astore Z dX2_changeSpan_21 (by decide) ?_
      refine g_aload Z dX2_changeSpan_23 rfl ?_
      refine g_ifnonnull Z 31 dX2_changeSpan_25 (by decide) ?_
      refine g_aload_n Z dX2_changeSpan_31 rfl ?_
      refine g_aload Z dX2_changeSpan_32 rfl ?_
      refine g_aload Z dX2_changeSpan_34 rfl ?_
      refine g_iload_n Z dX2_changeSpan_36 rfl ?_
      refine g_iload_n Z dX2_changeSpan_37 rfl ?_
      refine g_iload Z dX2_changeSpan_38 rfl ?_
      refine g_cvI Z (f_X1_changeLows F.l F.D F.cy F.nw T (C2 i) w hcq hvt f t hf ht hft h) 3 gX2_changeSpan_X1_changeLows rfl (by decide +kernel) (by rw [hRf, hRl]; decide) (by assumption) (κ := 1) (by assumption) rfl (by decide) rfl rfl (Nat.le_of_ble_eq_true rfl) dX2_changeSpan_40 (by rw [hRc, hRs]; omega) (fun r2 U hp2 => ?_)
      obtain ⟨rfl, hfl⟩ := hp2
      have hWR : ∀ j, j < 1024 → rg h f t (T.rj w) j = rg h f t zW j := rg_congr ew
      obtain ⟨hsv2, hkX⟩ := hsv.putW hi1 hnT hcq hWR
      rw [sv_ins_at, put_ins] at hsv2
      have hsL3 := hsv2.1
      have hsK3 := hsv2.2.1
      have hngo := hng i hix hno
      have hpos := rg_pos (h := h) hf hft hngo (A := zW) (fun _ _ => rfl)
      refine g_cvI Z (f_X2_settle F.l F.D F.cy F.nw _ O2 b s it C2 _ hsv2 i hi1 (hsrt.ins hix hno) _ hfl.v) 2 gX2_changeSpan_X2_settle rfl (by decide +kernel) (by rw [hRf, hRl]; decide) (by assumption) (κ := 2) (by assumption) rfl (by decide) rfl rfl (Nat.le_of_ble_eq_true rfl) dX2_changeSpan_43 (by rw [hRc, hRs]; omega) (fun r3 U hp3 => ?_)
      have hfin := chg_new (go := (h = 1)) (g := (rg h f t)) (V := V) (i := i) h6 hix hno hngo hO2 hkp hkX hpos hA hWR hfl hp3
      exact g_iret Z dX2_changeSpan_46 (by omega) (by omega) (hfin)
  refine g_iload Z dX2_changeSpan_0 rfl ?_
  refine g_iconst (v := 1) Z dX2_changeSpan_2 (by decide) ?_
  refine g_icmp_ne Z 16 dX2_changeSpan_3 (by decide) (fun h3 => ?_) (fun h3 => ?_)
  · exact g_lv (by (repeat (first | exact trivial | refine And.intro rfl ?_)); done) (j16 (fun e => absurd e h3))
  · refine g_aload_n Z dX2_changeSpan_6 rfl ?_
    refine g_iload_n Z dX2_changeSpan_7 rfl ?_
    refine g_cvR Z (f_X2_find F.l F.D F.cy F.nw S O b s it C V hv key hk) 1 gX2_changeSpan_X2_find rfl (by decide +kernel) (by rw [hRf, hRl]; decide) (by assumption) (κ := 2) (by assumption) rfl (by decide) rfl rfl (Nat.le_of_ble_eq_true rfl) dX2_changeSpan_8 (by rw [hRc, hRs]; omega) (fun r U hp => ?_)
    obtain ⟨rfl, hr⟩ := hp
    rcases hr with ⟨k, hk1, hk2, rfl⟩ | ⟨rfl, i, hix, hno⟩
    · refine g_ifnonnull Z 16 dX2_changeSpan_11 (by decide) ?_
      exact g_lv (by (repeat (first | exact trivial | refine And.intro rfl ?_)); done) (j16 (fun _ => ⟨k, hk1, hk2⟩))
    · refine g_ifnonnullN Z dX2_changeSpan_11 ?_
      refine g_iconst (v := 0) Z dX2_changeSpan_14 (by decide) ?_
      exact g_iret Z dX2_changeSpan_15 (by omega) (by omega) (⟨V, Or.inr ⟨i, hix, hno, Or.inl ⟨h3, rfl, rfl⟩⟩, O, C, fun _ _ => rfl, Kp.rf, hv⟩)

/-- how many steps there are -/
def stP (f q N : Nat) : Prop := 65535 < f + q * N ∧ ∀ i, i < N → f + q * i ≤ 65535
theorem stP_uniq {f q N M : Nat} (h : stP f q N) (k : stP f q M) : N = M := by
  rcases Nat.lt_trichotomy N M with e | e | e
  · have := k.2 N e; have := h.1; omega
  · exact e
  · have := h.2 M e; have := k.1; omega
theorem stP_pos {f q N : Nat} (hf : f < 65536) (h : stP f q N) : 0 < N := by
  rcases Nat.eq_zero_or_pos N with e | e
  · subst e; have := h.1; omega
  · exact e

set_option maxRecDepth 100000 in
set_option maxHeartbeats 2000000 in
/-- numbers of a key come by steps -/
theorem f_X2_putSteps (l : Launch) (D : va_G) (cy : Nat → ClassId) (nw : Nat) (S : PS) (O : Nat → Nat) (b s it : Nat) (C : Nat → Nat) (V : Sv) (hv : SV S nw O b s it C V) (hsrt : Srt V) (key f q N : Nat) (hk : key < 65536) (hf : f < 65536) (hq1 : 1 ≤ q) (hq : q < 65536) (hN : stP f q N) : kI l yX2_putSteps wsX2_putSteps 3 69 D cy nw [.ref s, .int (nI key), .int (nI f), .int (nI q)] S (fun r T => ∃ V2, Chg V key False (fun W => stR W f q N) r V2 ∧ After S T nw O b s it V2) 1 1024 := by
  refine enterI (cc := cX2_putSteps) (nL := 5) (ret := (some .int)) (by decide +kernel) rfl (Nat.le_of_ble_eq_true rfl) ?_
  intro F Z hl hR hD hcy hnw hnm
  subst hl hD hcy hnw
  have hRf : F.R.frames = 3 := by rw [hR]
  have hRc : F.R.cells = 1 := by rw [hR]
  have hRs : F.R.slots = 1024 := by rw [hR]
  have hRl : F.R.locals = 69 := by rw [hR]
  refine g_nw Z (fun hnw => ?_)
  have hs := hv.at
  obtain ⟨hsL, hsK, hsit, hitL, hitK, hitl, hsu, hu7, hsw, hsr⟩ := id hs
  have hngo : ¬ False := fun h => h
  refine g_aload_n Z dX2_putSteps_0 rfl ?_
  refine g_iload_n Z dX2_putSteps_1 rfl ?_
  refine g_cvR Z (f_X2_findOrMake F.l F.D F.cy F.nw S O b s it C V hv key hk) 1 gX2_putSteps_X2_findOrMake rfl (by decide +kernel) (by rw [hRf, hRl]; decide) (by assumption) (κ := 2) (by assumption) rfl (by decide) rfl rfl (Nat.le_of_ble_eq_true rfl) dX2_putSteps_2 (by rw [hRc, hRs]; omega) (fun r T hp => ?_)
  rcases hp with ⟨rfl, rfl, h6, i, hix, hno⟩ | ⟨rfl, i, hi, hkey, rfl⟩ | ⟨h6, i, O2, C2, hix, hno, rfl, hO2, hkp, hsv⟩
  · refine g_astoreN Z dX2_putSteps_5 (by decide) ?_
    refine g_aloadN Z dX2_putSteps_7 rfl ?_
    refine g_ifnonnullN Z dX2_putSteps_9 ?_
    refine g_bipush (v := (-3)) Z dX2_putSteps_12 (by decide) ?_
    exact g_iret Z dX2_putSteps_14 (by omega) (by omega) (⟨V, Or.inr ⟨i, hix, hno, Or.inr (Or.inl ⟨hngo, h6, rfl, rfl⟩)⟩, O, C, fun _ _ => rfl, Kp.rf, hv⟩)
  · obtain ⟨w, hcq, ek, hk16, ed, et, ew⟩ := hv.cv hi
    obtain ⟨hcL, hcK, -, -⟩ := id hcq
    have hvt : S.fi (C i) 2 = nI (tot (S.rj w)) := et.trans (congrArg nI (tot_congr ew).symm)
    refine g_astore Z dX2_putSteps_5 (by decide) ?_
    refine g_aload Z dX2_putSteps_7 rfl ?_
    refine g_ifnonnull Z 15 dX2_putSteps_9 (by decide) ?_
    refine g_aload_n Z dX2_putSteps_15 rfl ?_
    refine g_aload Z dX2_putSteps_16 rfl ?_
    refine g_aload Z dX2_putSteps_18 rfl ?_
    refine g_iload_n Z dX2_putSteps_20 rfl ?_
    refine g_iload_n Z dX2_putSteps_21 rfl ?_
    refine g_cvI Z (f_X1_putLowsBySteps F.l F.D F.cy F.nw S (C i) w hcq hvt f q hf hq1 hq) 2 gX2_putSteps_X1_putLowsBySteps rfl (by decide +kernel) (by rw [hRf, hRl]; decide) (by assumption) (κ := 1) (by assumption) rfl (by decide) rfl rfl (Nat.le_of_ble_eq_true rfl) dX2_putSteps_22 (by rw [hRc, hRs]; omega) (fun r2 U hp2 => ?_)
    obtain ⟨N2, n1, n2, rfl, hfl⟩ := hp2
    have e2 : N = N2 := stP_uniq hN ⟨n1, n2⟩
    subst e2
    have hWR : ∀ j, j < 1024 → stR (S.rj w) f q N j = stR (V.2 i).2.2 f q N j := stR_congr ew N n2
    have hsv2 := hv.putW hi hnw hcq hWR
    have hsL3 := hsv2.1.1
    have hsK3 := hsv2.1.2.1
    subst hkey
    refine g_cvI Z (f_X2_settle F.l F.D F.cy F.nw _ O b s it C _ hsv2.1 i hi hsrt.put _ hfl.v) 2 gX2_putSteps_X2_settle rfl (by decide +kernel) (by rw [hRf, hRl]; decide) (by assumption) (κ := 2) (by assumption) rfl (by decide) rfl rfl (Nat.le_of_ble_eq_true rfl) dX2_putSteps_25 (by rw [hRc, hRs]; omega) (fun r3 U hp3 => ?_)
    have hfin := chg_sv (go := False) (g := (fun W => stR W f q N)) (V := V) (i := i) (w := w) hi rfl hWR hfl ew hv hsv2.2 (fun e => (SV.putS (fun j hj => by
      rcases hfl with ⟨-, h⟩ | ⟨h, -⟩
      · rw [← hWR j hj, h j hj]; exact ew j hj
      · exact absurd (h.symm.trans e) (by decide)) hsv2.1)) hp3
    exact g_iret Z dX2_putSteps_28 (by omega) (by omega) (hfin)
  · refine g_nw Z (fun hnT => ?_)
    have hi1 : i < (V.ins i (key, 0, zW)).1 := by have := hix.1; show i < V.1 + 1; omega
    obtain ⟨w, hcq, ek, hk16, ed, et, ew⟩ := hsv.cv hi1
    rw [sv_ins_at] at ek ed et ew
    obtain ⟨hcL, hcK, -, -⟩ := id hcq
    have hsL2 := hsv.1
    have hsK2 := hsv.2.1
    have hA : ∀ j, j < 1024 → T.rj w j = 0 := ew
    have hvt : T.fi (C2 i) 2 = nI (tot (T.rj w)) := et.trans (congrArg nI (tot_congr ew).symm)
    refine g_astore Z dX2_putSteps_5 (by decide) ?_
    refine g_aload Z dX2_putSteps_7 rfl ?_
    refine g_ifnonnull Z 15 dX2_putSteps_9 (by decide) ?_
    refine g_aload_n Z dX2_putSteps_15 rfl ?_
    refine g_aload Z dX2_putSteps_16 rfl ?_
    refine g_aload Z dX2_putSteps_18 rfl ?_
    refine g_iload_n Z dX2_putSteps_20 rfl ?_
    refine g_iload_n Z dX2_putSteps_21 rfl ?_
    refine g_cvI Z (f_X1_putLowsBySteps F.l F.D F.cy F.nw T (C2 i) w hcq hvt f q hf hq1 hq) 2 gX2_putSteps_X1_putLowsBySteps rfl (by decide +kernel) (by rw [hRf, hRl]; decide) (by assumption) (κ := 1) (by assumption) rfl (by decide) rfl rfl (Nat.le_of_ble_eq_true rfl) dX2_putSteps_22 (by rw [hRc, hRs]; omega) (fun r2 U hp2 => ?_)
    obtain ⟨N2, n1, n2, rfl, hfl⟩ := hp2
    have e2 : N = N2 := stP_uniq hN ⟨n1, n2⟩
    subst e2
    have hWR : ∀ j, j < 1024 → stR (T.rj w) f q N j = stR zW f q N j := stR_congr ew N n2
    obtain ⟨hsv2, hkX⟩ := hsv.putW hi1 hnT hcq hWR
    rw [sv_ins_at, put_ins] at hsv2
    have hsL3 := hsv2.1
    have hsK3 := hsv2.2.1
    have hpos : 0 < tot (stR zW f q N) := tot_pos hf (stR_pos hf N (stP_pos hf hN) hN.2)
    refine g_cvI Z (f_X2_settle F.l F.D F.cy F.nw _ O2 b s it C2 _ hsv2 i hi1 (hsrt.ins hix hno) _ hfl.v) 2 gX2_putSteps_X2_settle rfl (by decide +kernel) (by rw [hRf, hRl]; decide) (by assumption) (κ := 2) (by assumption) rfl (by decide) rfl rfl (Nat.le_of_ble_eq_true rfl) dX2_putSteps_25 (by rw [hRc, hRs]; omega) (fun r3 U hp3 => ?_)
    have hfin := chg_new (go := False) (g := (fun W => stR W f q N)) (V := V) (i := i) h6 hix hno hngo hO2 hkp hkX hpos hA hWR hfl hp3
    exact g_iret Z dX2_putSteps_28 (by omega) (by omega) (hfin)
