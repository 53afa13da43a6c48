/-! THE WHOLE OBJECT AND WHAT IT HOLDS -/
def FOx (S : PS) (x sa pl br rd w : Nat) (so O : Nat → Nat) : Prop := x ∈ S.L ∧ S.K x = 5 ∧ O x = 17 ∧ S.fr x 0 = some sa ∧ S.fr x 1 = some (so 8) ∧ S.fr x 2 = some pl ∧ S.fr x 3 = some br ∧ S.fr x 4 = some rd ∧ S.fi x 5 = nI w ∧ w ≤ 300
def FOb (S : PS) (br h n u : Nat) (O : Nat → Nat) (B : Nat → Nat) : Prop := ByV S br h n u B ∧ O br = 17 ∧ O h = 17
def FOr (S : PS) (rd rk rt fa : Nat) (O : Nat → Nat) : Prop := RdC S rd rk rt ∧ O rd = 17 ∧ O rk = 17 ∧ O rt = 17 ∧ S.fi rd 0 = nI fa
def FO (S : PS) (x sa pl la br h n u rd rk rt w fa : Nat) (so O : Nat → Nat) (B : Nat → Nat) : Prop := FOx S x sa pl br rd w so O ∧ SaQ S sa so O ∧ (∃ d, PlQ S pl la d so O) ∧ FOb S br h n u O B ∧ FOr S rd rk rt fa O
def FX (S : PS) (nw x sa pl la br h n u rd rk rt w fa : Nat) (so O : Nat → Nat) (V : Nat → Sv) (B : Nat → Nat) : Prop := FO S x sa pl la br h n u rd rk rt w fa so O B ∧ GV S nw so O V ∧ ∀ i, i < 8 → Vok (V i)
section FXS
variable {S U : PS} {nw x sa pl la br h n u rd rk rt w fa : Nat} {so O O2 : Nat → Nat} {V : Nat → Sv} {B : Nat → Nat}
theorem FOx.ag (hL : ∀ a ∈ S.L, a ∈ U.L) (hO : ∀ a ∈ S.L, O2 a = O a) (ha : Ag S U x) (k : FOx S x sa pl br rd w so O) : FOx U x sa pl br rd w so O2 := by
  obtain ⟨k1, k2, k3, k4, k5, k6, k7, k8, k9, k10⟩ := k
  exact ⟨hL _ k1, ha.1.trans k2, (hO _ k1).trans k3, by rw [ha.2.2.1]; exact k4, by rw [ha.2.2.1]; exact k5, by rw [ha.2.2.1]; exact k6, by rw [ha.2.2.1]; exact k7, by rw [ha.2.2.1]; exact k8, by rw [ha.2.1]; exact k9, k10⟩
theorem SaQ.ag (hL : ∀ a ∈ S.L, a ∈ U.L) (hO : ∀ a ∈ S.L, O2 a = O a) (ha : Ag S U sa) (k : SaQ S sa so O) : SaQ U sa so O2 := by
  obtain ⟨k1, k2, k3, k4, k5⟩ := k
  exact ⟨hL _ k1, ha.1.trans k2, ha.2.2.2.1.trans k3, fun i hi => by rw [ha.2.2.2.2.2.2]; exact k4 i hi, (hO _ k1).trans k5⟩
theorem PlQ.ag {d : Nat} (hL : ∀ a ∈ S.L, a ∈ U.L) (hO : ∀ a ∈ S.L, O2 a = O a) (ha : Ag S U pl) (hb : Ag S U la) (k : PlQ S pl la d so O) : PlQ U pl la d so O2 := by
  obtain ⟨k1, k2, k3, k4, k5, k6, k7, k8, k9, k10⟩ := k
  exact ⟨hL _ k1, ha.1.trans k2, by rw [ha.2.2.1]; exact k3, hL _ k4, hb.1.trans k5, hb.2.2.2.1.trans k6, fun i hi => by rw [hb.2.2.2.2.2.2]; exact k7 i hi, by rw [ha.2.1]; exact k8, (hO _ k1).trans k9, (hO _ k4).trans k10⟩
theorem FOb.ag (hL : ∀ a ∈ S.L, a ∈ U.L) (hO : ∀ a ∈ S.L, O2 a = O a) (ha : Ag S U br) (hb : Ag S U h) (k : FOb S br h n u O B) : FOb U br h n u O2 B := by
  obtain ⟨k1, k2, k3⟩ := k
  exact ⟨k1.ag hL ha hb, (hO _ k1.1.1).trans k2, (hO _ k1.1.2.2.2.1).trans k3⟩
theorem RdC.ag (hL : ∀ a ∈ S.L, a ∈ U.L) (ha : Ag S U rd) (hb : Ag S U rk) (hc : Ag S U rt) (k : RdC S rd rk rt) : RdC U rd rk rt := by
  obtain ⟨k1, k2, k3, k4, k5, k6, k7, k8, k9, k10, k11⟩ := k
  exact ⟨hL _ k1, ha.1.trans k2, by rw [ha.2.2.1]; exact k3, hL _ k4, hb.1.trans k5, hb.2.2.2.1.trans k6, by rw [ha.2.2.1]; exact k7, hL _ k8, hc.1.trans k9, hc.2.2.2.1.trans k10, k11⟩
theorem FOr.ag (hL : ∀ a ∈ S.L, a ∈ U.L) (hO : ∀ a ∈ S.L, O2 a = O a) (ha : Ag S U rd) (hb : Ag S U rk) (hc : Ag S U rt) (k : FOr S rd rk rt fa O) : FOr U rd rk rt fa O2 := by
  obtain ⟨k1, k2, k3, k4, k5⟩ := k
  exact ⟨k1.ag hL ha hb hc, (hO _ k1.1).trans k2, (hO _ k1.2.2.2.1).trans k3, (hO _ k1.2.2.2.2.2.2.2.1).trans k4, by rw [ha.2.1]; exact k5⟩
/-- cells of the object: all have the label 17, none is a set -/
theorem FO.cells (k : FO S x sa pl la br h n u rd rk rt w fa so O B) : ∀ a, (a = x ∨ a = sa ∨ a = pl ∨ a = la ∨ a = br ∨ a = h ∨ a = rd ∨ a = rk ∨ a = rt) → a ∈ S.L ∧ O a = 17 ∧ S.K a ≠ 2 := by
  obtain ⟨⟨a1, a2, a3, -⟩, ⟨b1, b2, -, -, b5⟩, ⟨d, c1, c2, -, c4, c5, -, -, -, c9, c10⟩, ⟨⟨⟨d1, d2, -, d4, d5, -⟩, -⟩, d6, d7⟩, ⟨⟨e1, e2, -, e4, e5, -, -, e8, e9, -⟩, e10, e11, e12, -⟩⟩ := k
  intro a ha
  rcases ha with rfl | rfl | rfl | rfl | rfl | rfl | rfl | rfl | rfl
  · exact ⟨a1, a3, by omega⟩
  · exact ⟨b1, b5, by omega⟩
  · exact ⟨c1, c9, by omega⟩
  · exact ⟨c4, c10, by omega⟩
  · exact ⟨d1, d6, by omega⟩
  · exact ⟨d4, d7, by omega⟩
  · exact ⟨e1, e10, by omega⟩
  · exact ⟨e4, e11, by omega⟩
  · exact ⟨e8, e12, by omega⟩
theorem FO.gen (hL : ∀ a ∈ S.L, a ∈ U.L) (hO : ∀ a ∈ S.L, O2 a = O a) (hA : ∀ a ∈ S.L, O a = 17 → S.K a ≠ 2 → Ag S U a) (k : FO S x sa pl la br h n u rd rk rt w fa so O B) : FO U x sa pl la br h n u rd rk rt w fa so O2 B := by
  have hc := k.cells
  have ag : ∀ a, (a = x ∨ a = sa ∨ a = pl ∨ a = la ∨ a = br ∨ a = h ∨ a = rd ∨ a = rk ∨ a = rt) → Ag S U a := fun a ha => hA a (hc a ha).1 (hc a ha).2.1 (hc a ha).2.2
  obtain ⟨k1, k2, ⟨d, k3⟩, k4, k5⟩ := k
  exact ⟨k1.ag hL hO (ag x (by simp)), k2.ag hL hO (ag sa (by simp)), ⟨d, k3.ag hL hO (ag pl (by simp)) (ag la (by simp))⟩, k4.ag hL hO (ag br (by simp)) (ag h (by simp)), k5.ag hL hO (ag rd (by simp)) (ag rk (by simp)) (ag rt (by simp))⟩
theorem FO.ge (hg : GV S nw so O V) (hO : ∀ a ∈ S.L, O2 a = O a) (hE : GE S U so O) (k : FO S x sa pl la br h n u rd rk rt w fa so O B) : FO U x sa pl la br h n u rd rk rt w fa so O2 B :=
  k.gen hE.1 hO (fun a ha h17 hk => (hE.keep ha h17 (hg.kne hk)).2)
theorem FX.ge {V2 : Nat → Sv} (k : FX S nw x sa pl la br h n u rd rk rt w fa so O V B) (hO : ∀ a ∈ S.L, O2 a = O a) (hE : GE S U so O) (hg : GV U nw so O2 V2) (hv : ∀ i, i < 8 → Vok (V2 i)) : FX U nw x sa pl la br h n u rd rk rt w fa so O2 V2 B := ⟨k.1.ge k.2.1 hO hE, hg, hv⟩
/-- one set has become another -/
theorem FX.one (k : FX S nw x sa pl la br h n u rd rk rt w fa so O V B) {be it : Nat → Nat} {C : Nat → Nat → Nat} (hgx : GX S nw O so be it C V) {j : Nat} (hj : j < 8) {W : Sv} (hn : nw ∉ U.L) (ha : After S U nw O (be j) (so j) (it j) W) (hW : Vok W) : ∃ O2, FX U nw x sa pl la br h n u rd rk rt w fa so O2 (va_up V j W) B := by
  obtain ⟨O2, h1, h2, h3⟩ := hgx.after (i := j) (by omega) hn ha
  refine ⟨O2, k.ge h1 h3 h2 (fun i hi => ?_)⟩
  by_cases e : i = j
  · subst e; rw [va_up_self]; exact hW
  · rw [va_up_ne _ _ e]; exact k.2.2 i hi
theorem FX.work {w2 : Nat} (hn : nw ∉ S.L) (k : FX S nw x sa pl la br h n u rd rk rt w fa so O V B) (hw : w2 ≤ 300) : FX (S.setI x 5 (nI w2)) nw x sa pl la br h n u rd rk rt w2 fa so O V B := by
  obtain ⟨⟨k1, k2, ⟨d, k3⟩, k4, k5⟩, kg, kv⟩ := k
  have hA : ∀ a, a ≠ x → Ag S (S.setI x 5 (nI w2)) a := fun a ha => ⟨rfl, va_up_ne _ _ ha, rfl, rfl, rfl, rfl, rfl⟩
  have hLw : ∀ a ∈ S.L, a ∈ (S.setI x 5 (nI w2)).L := fun _ h => h
  have hk : ∀ {a : Nat}, S.K a ≠ 5 → a ≠ x := fun ha e => ha (by rw [e]; exact k1.2.1)
  refine ⟨⟨⟨k1.1, k1.2.1, k1.2.2.1, k1.2.2.2.1, k1.2.2.2.2.1, k1.2.2.2.2.2.1, k1.2.2.2.2.2.2.1, k1.2.2.2.2.2.2.2.1, up2_self _ _ _ _, hw⟩, k2, ⟨d, k3.ag hLw (fun _ _ => rfl) (hA _ (hk (by rw [k3.2.1]; decide))) (hA _ (hk (by rw [k3.2.2.2.2.1]; decide)))⟩, k4.ag hLw (fun _ _ => rfl) (hA _ (hk (by rw [k4.1.1.2.1]; decide))) (hA _ (hk (by rw [k4.1.1.2.2.2.2.1]; decide))), k5.ag hLw (fun _ _ => rfl) (hA _ (hk (by rw [k5.1.2.1]; decide))) (hA _ (hk (by rw [k5.1.2.2.2.2.1]; decide))) (hA _ (hk (by rw [k5.1.2.2.2.2.2.2.2.2.1]; decide)))⟩, kg.frame (p := x) hn ⟨hLw, fun a _ ha => hA a ha⟩ k1.2.2.1 (by rw [k1.2.1]; decide), kv⟩
end FXS
theorem plK_01 (v : Int32) : plK v = 0 ∨ plK v = 1 := by
  unfold plK
  by_cases e : (4096 : Int32) < v
  · rw [if_pos e]; exact Or.inr rfl
  · rw [if_neg e]; exact Or.inl rfl
theorem Vok.put {V : Sv} (hV : Vok V) {i key : Nat} {d : Int32} {W : Nat → Int64} (hi : i < V.1) (hk : (V.2 i).1 = key) (hd : d = 0 ∨ d = 1 ∨ d = 2) (ht : 0 < tot W) : Vok (V.put i (key, d, W)) := by
  have e : ∀ j, ((V.put i (key, d, W)).2 j).1 = (V.2 j).1 := by
    intro j
    show (if j = i then (key, d, W) else V.2 j).1 = _
    by_cases q : j = i
    · rw [if_pos q, q]; exact hk.symm
    · rw [if_neg q]
  refine ⟨hV.1, fun a b h1 h2 => by rw [e, e]; exact hV.2.1 a b h1 h2, fun j hj => ⟨by rw [e]; exact (hV.2.2 j hj).1, ?_⟩⟩
  show 0 < tot (if j = i then (key, d, W) else V.2 j).2.2 ∧ ((if j = i then (key, d, W) else V.2 j).2.1 = 0 ∨ (if j = i then (key, d, W) else V.2 j).2.1 = 1 ∨ (if j = i then (key, d, W) else V.2 j).2.1 = 2)
  by_cases q : j = i
  · rw [if_pos q]; exact ⟨ht, hd⟩
  · rw [if_neg q]; exact (hV.2.2 j hj).2
theorem Vok.del {V : Sv} (hV : Vok V) (i : Nat) : Vok (V.del i) := by
  have hat : ∀ j, (V.del i).2 j = V.2 (if j < i then j else j + 1) := by
    intro j
    show (if j < i then V.2 j else V.2 (j + 1)) = _
    by_cases q : j < i
    · rw [if_pos q, if_pos q]
    · rw [if_neg q, if_neg q]
  have hn : (V.del i).1 = V.1 - 1 := rfl
  refine ⟨by rw [hn]; have := hV.1; omega, fun a b h1 h2 => ?_, fun j hj => ?_⟩
  · rw [hat, hat]
    rw [hn] at h2
    refine hV.2.1 _ _ ?_ ?_
    · by_cases q : a < i <;> by_cases q2 : b < i <;> simp only [q, q2, if_true, if_false] <;> omega
    · by_cases q2 : b < i <;> simp only [q2, if_true, if_false] <;> omega
  · rw [hat]
    rw [hn] at hj
    exact hV.2.2 _ (by by_cases q2 : j < i <;> simp only [q2, if_true, if_false] <;> omega)
theorem Vok.ins {V : Sv} (hV : Vok V) {i key : Nat} {d : Int32} {W : Nat → Int64} (h6 : V.1 < 6) (hix : IsIx V key i) (hno : i < V.1 → (V.2 i).1 ≠ key) (hk : key < 65536) (hd : d = 0 ∨ d = 1 ∨ d = 2) (ht : 0 < tot W) : Vok (V.ins i (key, d, W)) := by
  have lo : ∀ j, j < i → (V.2 j).1 < key := hix.2.1
  have hi : ∀ j, i ≤ j → j < V.1 → key < (V.2 j).1 := by
    intro j h1 h2
    have h3 := hix.2.2 (by omega)
    have h4 := hno (by omega)
    rcases Nat.lt_or_ge i j with q | q
    · have := hV.2.1 i j q h2; omega
    · have : j = i := by omega
      subst this; omega
  have hi2 := hix.1
  refine ⟨by show V.1 + 1 ≤ 6; omega, fun a b h1 h2 => ?_, fun j hj => ?_⟩
  · have h2' : b < V.1 + 1 := h2
    show (if a < i then V.2 a else if a = i then (key, d, W) else V.2 (a - 1)).1 < (if b < i then V.2 b else if b = i then (key, d, W) else V.2 (b - 1)).1
    by_cases q1 : a < i
    · rw [if_pos q1]
      by_cases q2 : b < i
      · rw [if_pos q2]; exact hV.2.1 a b h1 (by omega)
      · rw [if_neg q2]
        by_cases q3 : b = i
        · rw [if_pos q3]; exact lo a q1
        · rw [if_neg q3]
          have := lo a q1
          have := hi (b - 1) (by omega) (by omega)
          omega
    · rw [if_neg q1, if_neg (show ¬ b < i by omega)]
      by_cases q3 : a = i
      · rw [if_pos q3, if_neg (show ¬ b = i by omega)]; exact hi (b - 1) (by omega) (by omega)
      · rw [if_neg q3, if_neg (show ¬ b = i by omega)]; exact hV.2.1 _ _ (by omega) (by omega)
  · have hj' : j < V.1 + 1 := hj
    show (if j < i then V.2 j else if j = i then (key, d, W) else V.2 (j - 1)).1 < 65536 ∧ 0 < tot (if j < i then V.2 j else if j = i then (key, d, W) else V.2 (j - 1)).2.2 ∧ ((if j < i then V.2 j else if j = i then (key, d, W) else V.2 (j - 1)).2.1 = 0 ∨ (if j < i then V.2 j else if j = i then (key, d, W) else V.2 (j - 1)).2.1 = 1 ∨ (if j < i then V.2 j else if j = i then (key, d, W) else V.2 (j - 1)).2.1 = 2)
    by_cases q1 : j < i
    · rw [if_pos q1]; exact hV.2.2 j (by omega)
    · rw [if_neg q1]
      by_cases q2 : j = i
      · rw [if_pos q2]; exact ⟨hk, ht, hd⟩
      · rw [if_neg q2]; exact hV.2.2 (j - 1) (by omega)
theorem Chg.ok {V V2 : Sv} {key : Nat} {go : Prop} {g : (Nat → Int64) → Nat → Int64} {r : Int32} (hV : Vok V) (hk : key < 65536) (h : Chg V key go g r V2) : Vok V2 := by
  have p3 : ∀ v, plK v = 0 ∨ plK v = 1 ∨ plK v = 2 := fun v => (plK_01 v).imp id Or.inl
  rcases h with ⟨i, hi, hkey, ⟨-, rfl, -⟩ | ⟨-, -, ⟨-, rfl⟩ | ⟨ht, rfl⟩⟩⟩ | ⟨i, hix, hno, ⟨-, -, rfl⟩ | ⟨-, -, -, rfl⟩ | ⟨-, h6, -, ht, rfl⟩⟩
  · exact hV
  · exact hV.del i
  · exact hV.put hi hkey (p3 _) ht
  · exact hV
  · exact hV
  · exact hV.ins h6 hix hno hk (p3 _) ht

/-- upper and lower half of a number -/
def kyI (v : Int32) : Nat := v.toBitVec.toNat / 2 ^ 16
def loI (v : Int32) : Nat := v.toBitVec.toNat % 2 ^ 16
theorem nI_bv (v : Int32) : nI v.toBitVec.toNat = v := by
  obtain ⟨n, hn, rfl⟩ := wb_of32 v
  have e : (nI n).toBitVec.toNat = n := by
    show (BitVec.ofNat 32 n).toNat = n
    rw [BitVec.toNat_ofNat]
    exact Nat.mod_eq_of_lt hn
  rw [e]
theorem kyI_lt (v : Int32) : kyI v < 65536 := by
  have := v.toBitVec.isLt
  unfold kyI
  omega
theorem loI_lt (v : Int32) : loI v < 65536 := Nat.mod_lt _ (by decide)
theorem kyI_eq (v : Int32) : (v.toUInt32 >>> ((16 : Int32).toUInt32 &&& Int32.toUInt32 31)).toInt32 = nI (kyI v) := by
  conv => lhs; rw [← nI_bv v]
  exact pk_ushrN v.toBitVec.isLt 16 16 (by decide)
theorem loI_eq (v : Int32) : v &&& 65535 = nI (loI v) := pk_and v 16 (by decide)

set_option maxRecDepth 100000 in
set_option maxHeartbeats 2000000 in
/-- a number comes or goes -/
theorem f_X6_add (l : Launch) (D : va_G) (cy : Nat → ClassId) (nw : Nat) (S : PS) (x sa pl la br h n u rd rk rt w fa : Nat) (so O : Nat → Nat) (V : Nat → Sv) (B : Nat → Nat) (hx : FX S nw x sa pl la br h n u rd rk rt w fa so O V B) (a v : Int32) : kI l yX6_add wsX6_add 4 94 D cy nw [.ref x, .int a, .int v] S (fun r T => (∃ j, j < 8 ∧ a = nI j ∧ ∃ W O2, Chg (V j) (kyI v) ((0 : Int32) = 1) (rg 0 (loI v) (loI v)) r W ∧ FX T nw x sa pl la br h n u rd rk rt w fa so O2 (va_up V j W) B) ∨ (¬ isS a ∧ r = -2 ∧ S = T)) 1 1024 := by
  refine enterI (cc := cX6_add) (nL := 3) (ret := (some .int)) (by decide +kernel) rfl (Nat.le_of_ble_eq_true rfl) ?_
  intro F Z hl hR hD hcy hnw hnm
  subst hl hD hcy hnw
  have hRf : F.R.frames = 4 := by rw [hR]
  have hRc : F.R.cells = 1 := by rw [hR]
  have hRs : F.R.slots = 1024 := by rw [hR]
  have hRl : F.R.locals = 94 := by rw [hR]
  have in5 : ∀ w ∈ u_ws RX6 TX6 6, w ∈ wsX6_add := by decide +kernel
  have lk11 : Cond.fieldLink RX6 11 (TX6 0).1 (TX6 0).2.1 (TX6 0).2.2.1 ∈ wsX6_add := by decide +kernel
  obtain ⟨hFO, hGV, hVok⟩ := id hx
  obtain ⟨hFx, hSa, ⟨dp, hPl⟩, hFb, hFr⟩ := id hFO
  obtain ⟨hxL, hxK, hxO, hsa, hsp, hpl, hbr, hrd, hxw, hw3⟩ := id hFx
  obtain ⟨hsaL, hsaK, hsal, hsas, hsaO⟩ := id hSa
  obtain ⟨be, it, C, hgx⟩ := id hGV
  refine g_iload_n Z dX6_add_0 rfl ?_
  refine g_csI Z (c_X6_isNoSet F.l F.D F.cy F.nw _ _) 1 gX6_add_X6_isNoSet rfl (by decide +kernel) (by rw [hRf, hRl]; decide) rfl rfl (Nat.le_of_ble_eq_true rfl) dX6_add_1 (by rw [hRc, hRs]; omega) (fun r0 T0 hq0 => ?_)
  obtain ⟨rfl, hi⟩ := hq0
  refine g_if_eq Z 12 dX6_add_4 (by decide) (fun h4 => ?_) (fun h4 => ?_)
  · obtain ⟨j, hj, rfl⟩ := isIx_0 hi h4
    have hsv := (hgx.1 j (by omega)).1
    have hcj : (nI j).toNatClampNeg = j := nI_clamp (by omega)
    have hsL := hsv.1
    have hsK := hsv.2.1
    refine g_aload_n Z dX6_add_12 rfl ?_
    refine g_getr Z 5 0 rfl (by decide) in5 lk11 dX6_add_13 (by assumption) (by assumption) (by assumption) ?_
    refine g_iload_n Z dX6_add_16 rfl ?_
    refine g_aald11 Z dX6_add_17 (by assumption) (by assumption) (by exact vin_of hsal (by omega) (by decide)) (by rw [hcj]; exact hsas j hj) ?_
    refine g_iload_n Z dX6_add_18 rfl ?_
    refine g_csI Z (c_X6_keyOf F.l F.D F.cy F.nw _ _) 1 gX6_add_X6_keyOf rfl (by decide +kernel) (by rw [hRf, hRl]; decide) rfl rfl (Nat.le_of_ble_eq_true rfl) dX6_add_19 (by rw [hRc, hRs]; omega) (fun r1 T1 hq1 => ?_)
    obtain ⟨rfl, rfl⟩ := hq1
    rw [kyI_eq]
    refine g_iload_n Z dX6_add_22 rfl ?_
    refine g_csI Z (c_X6_lowOf F.l F.D F.cy F.nw _ _) 1 gX6_add_X6_lowOf rfl (by decide +kernel) (by rw [hRf, hRl]; decide) rfl rfl (Nat.le_of_ble_eq_true rfl) dX6_add_23 (by rw [hRc, hRs]; omega) (fun r1 T1 hq1 => ?_)
    obtain ⟨rfl, rfl⟩ := hq1
    rw [loI_eq]
    refine g_iload_n Z dX6_add_26 rfl ?_
    refine g_csI Z (c_X6_lowOf F.l F.D F.cy F.nw _ _) 1 gX6_add_X6_lowOf rfl (by decide +kernel) (by rw [hRf, hRl]; decide) rfl rfl (Nat.le_of_ble_eq_true rfl) dX6_add_27 (by rw [hRc, hRs]; omega) (fun r1 T1 hq1 => ?_)
    obtain ⟨rfl, rfl⟩ := hq1
    rw [loI_eq]
    refine g_iconst (v := 0) Z dX6_add_30 (by decide) ?_
    refine g_cvI Z (f_X2_changeSpan F.l F.D F.cy F.nw S O (be j) (so j) (it j) (C j) (V j) hsv (hVok j hj).2.1 (kyI v) (loI v) (loI v) (kyI_lt v) (loI_lt v) (loI_lt v) (Nat.le_refl _) 0) 4 gX6_add_X2_changeSpan rfl (by decide +kernel) (by rw [hRf, hRl]; decide) (by assumption) (κ := 2) (by assumption) rfl (by decide) rfl rfl (Nat.le_of_ble_eq_true rfl) dX6_add_31 (by rw [hRc, hRs]; omega) (fun r2 T2 hp => ?_)
    obtain ⟨W, hch, haf⟩ := hp
    refine g_nw Z (fun hnT => ?_)
    obtain ⟨O2, hx2⟩ := hx.one hgx hj hnT haf (hch.ok (hVok j hj) (kyI_lt v))
    exact g_iret Z dX6_add_34 (by omega) (by omega) (by first | exact Or.inl ⟨j, hj, rfl, W, O2, hch, hx2⟩ | exact Or.inr ⟨hno, rfl, rfl⟩)
  · have hno := isIx_1 (by decide) hi h4
    refine g_bipush (v := (-2)) Z dX6_add_7 (by decide) ?_
    refine g_goto Z 34 dX6_add_9 (by decide) ?_
    exact g_iret Z dX6_add_34 (by omega) (by omega) (by first | exact Or.inl ⟨j, hj, rfl, W, O2, hch, hx2⟩ | exact Or.inr ⟨hno, rfl, rfl⟩)

set_option maxRecDepth 100000 in
set_option maxHeartbeats 2000000 in
/-- a number comes or goes -/
theorem f_X6_remove (l : Launch) (D : va_G) (cy : Nat → ClassId) (nw : Nat) (S : PS) (x sa pl la br h n u rd rk rt w fa : Nat) (so O : Nat → Nat) (V : Nat → Sv) (B : Nat → Nat) (hx : FX S nw x sa pl la br h n u rd rk rt w fa so O V B) (a v : Int32) : kI l yX6_remove wsX6_remove 4 94 D cy nw [.ref x, .int a, .int v] S (fun r T => (∃ j, j < 8 ∧ a = nI j ∧ ∃ W O2, Chg (V j) (kyI v) ((1 : Int32) = 1) (rg 1 (loI v) (loI v)) r W ∧ FX T nw x sa pl la br h n u rd rk rt w fa so O2 (va_up V j W) B) ∨ (¬ isS a ∧ r = -2 ∧ S = T)) 1 1024 := by
  refine enterI (cc := cX6_remove) (nL := 3) (ret := (some .int)) (by decide +kernel) rfl (Nat.le_of_ble_eq_true rfl) ?_
  intro F Z hl hR hD hcy hnw hnm
  subst hl hD hcy hnw
  have hRf : F.R.frames = 4 := by rw [hR]
  have hRc : F.R.cells = 1 := by rw [hR]
  have hRs : F.R.slots = 1024 := by rw [hR]
  have hRl : F.R.locals = 94 := by rw [hR]
  have in5 : ∀ w ∈ u_ws RX6 TX6 6, w ∈ wsX6_remove := by decide +kernel
  have lk11 : Cond.fieldLink RX6 11 (TX6 0).1 (TX6 0).2.1 (TX6 0).2.2.1 ∈ wsX6_remove := by decide +kernel
  obtain ⟨hFO, hGV, hVok⟩ := id hx
  obtain ⟨hFx, hSa, ⟨dp, hPl⟩, hFb, hFr⟩ := id hFO
  obtain ⟨hxL, hxK, hxO, hsa, hsp, hpl, hbr, hrd, hxw, hw3⟩ := id hFx
  obtain ⟨hsaL, hsaK, hsal, hsas, hsaO⟩ := id hSa
  obtain ⟨be, it, C, hgx⟩ := id hGV
  refine g_iload_n Z dX6_remove_0 rfl ?_
  refine g_csI Z (c_X6_isNoSet F.l F.D F.cy F.nw _ _) 1 gX6_remove_X6_isNoSet rfl (by decide +kernel) (by rw [hRf, hRl]; decide) rfl rfl (Nat.le_of_ble_eq_true rfl) dX6_remove_1 (by rw [hRc, hRs]; omega) (fun r0 T0 hq0 => ?_)
  obtain ⟨rfl, hi⟩ := hq0
  refine g_if_eq Z 12 dX6_remove_4 (by decide) (fun h4 => ?_) (fun h4 => ?_)
  · obtain ⟨j, hj, rfl⟩ := isIx_0 hi h4
    have hsv := (hgx.1 j (by omega)).1
    have hcj : (nI j).toNatClampNeg = j := nI_clamp (by omega)
    have hsL := hsv.1
    have hsK := hsv.2.1
    refine g_aload_n Z dX6_remove_12 rfl ?_
    refine g_getr Z 5 0 rfl (by decide) in5 lk11 dX6_remove_13 (by assumption) (by assumption) (by assumption) ?_
    refine g_iload_n Z dX6_remove_16 rfl ?_
    refine g_aald11 Z dX6_remove_17 (by assumption) (by assumption) (by exact vin_of hsal (by omega) (by decide)) (by rw [hcj]; exact hsas j hj) ?_
    refine g_iload_n Z dX6_remove_18 rfl ?_
    refine g_csI Z (c_X6_keyOf F.l F.D F.cy F.nw _ _) 1 gX6_remove_X6_keyOf rfl (by decide +kernel) (by rw [hRf, hRl]; decide) rfl rfl (Nat.le_of_ble_eq_true rfl) dX6_remove_19 (by rw [hRc, hRs]; omega) (fun r1 T1 hq1 => ?_)
    obtain ⟨rfl, rfl⟩ := hq1
    rw [kyI_eq]
    refine g_iload_n Z dX6_remove_22 rfl ?_
    refine g_csI Z (c_X6_lowOf F.l F.D F.cy F.nw _ _) 1 gX6_remove_X6_lowOf rfl (by decide +kernel) (by rw [hRf, hRl]; decide) rfl rfl (Nat.le_of_ble_eq_true rfl) dX6_remove_23 (by rw [hRc, hRs]; omega) (fun r1 T1 hq1 => ?_)
    obtain ⟨rfl, rfl⟩ := hq1
    rw [loI_eq]
    refine g_iload_n Z dX6_remove_26 rfl ?_
    refine g_csI Z (c_X6_lowOf F.l F.D F.cy F.nw _ _) 1 gX6_remove_X6_lowOf rfl (by decide +kernel) (by rw [hRf, hRl]; decide) rfl rfl (Nat.le_of_ble_eq_true rfl) dX6_remove_27 (by rw [hRc, hRs]; omega) (fun r1 T1 hq1 => ?_)
    obtain ⟨rfl, rfl⟩ := hq1
    rw [loI_eq]
    refine g_iconst (v := 1) Z dX6_remove_30 (by decide) ?_
    refine g_cvI Z (f_X2_changeSpan F.l F.D F.cy F.nw S O (be j) (so j) (it j) (C j) (V j) hsv (hVok j hj).2.1 (kyI v) (loI v) (loI v) (kyI_lt v) (loI_lt v) (loI_lt v) (Nat.le_refl _) 1) 4 gX6_remove_X2_changeSpan rfl (by decide +kernel) (by rw [hRf, hRl]; decide) (by assumption) (κ := 2) (by assumption) rfl (by decide) rfl rfl (Nat.le_of_ble_eq_true rfl) dX6_remove_31 (by rw [hRc, hRs]; omega) (fun r2 T2 hp => ?_)
    obtain ⟨W, hch, haf⟩ := hp
    refine g_nw Z (fun hnT => ?_)
    obtain ⟨O2, hx2⟩ := hx.one hgx hj hnT haf (hch.ok (hVok j hj) (kyI_lt v))
    exact g_iret Z dX6_remove_34 (by omega) (by omega) (by first | exact Or.inl ⟨j, hj, rfl, W, O2, hch, hx2⟩ | exact Or.inr ⟨hno, rfl, rfl⟩)
  · have hno := isIx_1 (by decide) hi h4
    refine g_bipush (v := (-2)) Z dX6_remove_7 (by decide) ?_
    refine g_goto Z 34 dX6_remove_9 (by decide) ?_
    exact g_iret Z dX6_remove_34 (by omega) (by omega) (by first | exact Or.inl ⟨j, hj, rfl, W, O2, hch, hx2⟩ | exact Or.inr ⟨hno, rfl, rfl⟩)
