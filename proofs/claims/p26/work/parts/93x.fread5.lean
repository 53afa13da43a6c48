/-! READING A CONTAINER -/
def RwE (o q : Rw) : Prop := match o, q with
  | .inl f, .inl g => f = g
  | .inr (p, W), .inr (p2, W2) => p = p2 ∧ ∀ j, j < 1024 → W j = W2 j
  | _, _ => False
theorem rdAr_cg {B : Nat → Nat} {e : Nat} : ∀ (m p a : Nat) (R R2 : Nat → Int64), (∀ j, j < 1024 → R j = R2 j) → RwE (rdAr B e m p a R) (rdAr B e m p a R2)
  | 0, p, a, R, R2, h => ⟨rfl, h⟩
  | m + 1, p, a, R, R2, h => by
    unfold rdAr
    by_cases h1 : p + 2 ≤ e
    · rw [if_pos h1, if_pos h1]
      by_cases h2 : nuB B p 2 < a
      · rw [if_pos h2, if_pos h2]; exact rfl
      · rw [if_neg h2, if_neg h2]; exact rdAr_cg m _ _ _ _ (rg_congr h)
    · rw [if_neg h1, if_neg h1]; exact rfl
theorem rdRl_cg {B : Nat → Nat} {e : Nat} : ∀ (m p a : Nat) (R R2 : Nat → Int64), (∀ j, j < 1024 → R j = R2 j) → RwE (rdRl B e m p a R) (rdRl B e m p a R2)
  | 0, p, a, R, R2, h => ⟨rfl, h⟩
  | m + 1, p, a, R, R2, h => by
    unfold rdRl
    by_cases h1 : p + 4 ≤ e
    · rw [if_pos h1, if_pos h1]
      by_cases h2 : nuB B p 2 < a ∨ 65535 < nuB B p 2 + nuB B (p + 2) 2
      · rw [if_pos h2, if_pos h2]; exact rfl
      · rw [if_neg h2, if_neg h2]; exact rdRl_cg m _ _ _ _ (rg_congr h)
    · rw [if_neg h1, if_neg h1]; exact rfl
theorem rdFi_cg {tt : Nat} {o q : Rw} (h : RwE o q) : RwE (rdFi tt o) (rdFi tt q) := by
  rcases o with f | ⟨p, W⟩ <;> rcases q with g | ⟨p2, W2⟩
  · exact h
  · exact False.elim h
  · exact False.elim h
  · obtain ⟨h1, h2⟩ := h
    subst h1
    unfold rdFi
    show RwE (if tot W = tt then .inr (p, W) else .inl (8, p)) (if tot W2 = tt then .inr (p, W2) else .inl (8, p))
    rw [tot_congr h2]
    by_cases e : tot W2 = tt
    · rw [if_pos e, if_pos e]; exact ⟨rfl, h2⟩
    · rw [if_neg e, if_neg e]; exact rfl
theorem rdRn_cg {B : Nat → Nat} {e tt p : Nat} {R R2 : Nat → Int64} (h : ∀ j, j < 1024 → R j = R2 j) : RwE (rdRn B e tt p R) (rdRn B e tt p R2) := by
  unfold rdRn
  by_cases h1 : p + 2 ≤ e
  · rw [if_pos h1, if_pos h1]; exact rdFi_cg (rdRl_cg _ _ _ _ _ h)
  · rw [if_neg h1, if_neg h1]; exact rfl
theorem rdBm_cg {B : Nat → Nat} {e tt p : Nat} {R R2 : Nat → Int64} (h : ∀ j, j < 1024 → R j = R2 j) : RwE (rdBm B e tt p R) (rdBm B e tt p R2) := by
  have hb : ∀ j, j < 1024 → bmU B p R 1024 j = bmU B p R2 1024 j := by
    intro j hj
    unfold bmU
    rw [if_pos hj, if_pos hj]
  unfold rdBm
  rw [tot_congr hb]
  by_cases h1 : p + 8192 ≤ e
  · rw [if_pos h1, if_pos h1]
    by_cases h2 : tot (bmU B p R2 1024) = tt
    · rw [if_pos h2, if_pos h2]; exact ⟨rfl, hb⟩
    · rw [if_neg h2, if_neg h2]; exact rfl
  · rw [if_neg h1, if_neg h1]; exact rfl
/-- a container's body by its kind -/
def kdR (rb i tt : Nat) : Int32 := if rb / 2 ^ i % 2 = 0 then (if tt ≤ 4096 then 0 else 1) else 2
noncomputable def rdCo (B : Nat → Nat) (e rb i tt p : Nat) : Rw := if rb / 2 ^ i % 2 = 0 then (if tt ≤ 4096 then rdAr B e tt p 0 zW else rdBm B e tt p zW) else rdRn B e tt p zW
noncomputable def rdCt (B : Nat → Nat) (e rb i tt p : Nat) (pf : Option Nat) : Rw := match pf with
  | none => rdCo B e rb i tt p
  | some q => if nuB B (q + 4 * i) 4 = p then rdCo B e rb i tt p else .inl (6, q + 4 * i)
theorem RdP.r {S : PS} {rd c w : Nat} {x y k d : Int32} {o : Rw} {r : Int32} {T : PS} (h : RdP S rd c w x y k d o r T) : r = 0 ∨ r = 1 := by
  rcases o with ⟨f, g⟩ | ⟨p, W⟩
  · exact Or.inl h.1
  · exact Or.inr h.1
theorem ByV.ag {S U : PS} {br h n u : Nat} {B : Nat → Nat} (hL : ∀ a ∈ S.L, a ∈ U.L) (h1 : Ag S U br) (h2 : Ag S U h) (hb : ByV S br h n u B) : ByV U br h n u B := by
  obtain ⟨⟨k1, k2, k3, k4, k5, k6, k7, k8, k9, k10⟩, hB⟩ := hb
  exact ⟨⟨hL _ k1, h1.1.trans k2, by rw [h1.2.2.1]; exact k3, hL _ k4, h2.1.trans k5, h2.2.2.2.1.trans k6, k7, by rw [h1.2.1]; exact k8, k9, by rw [h2.2.2.2.2.1]; exact k10⟩, fun i hi => by rw [h2.2.2.2.2.1]; exact hB i hi⟩
theorem up3 {α : Type} (f : Nat → α) {s rd c : Nat} (h2 : s ≠ c) (h3 : rd ≠ c) (A B C : α) : va_up (va_up (va_up f s A) rd B) c C = va_up (va_up (va_up f c C) s A) rd B := by
  rw [up_comm _ h3, up_comm _ h2]
theorem RX_Q3 {S : PS} {s rd c w : Nat} {z x y p k d v : Int32} {R : Nat → Int64} (h1 : s ≠ rd) (h2 : s ≠ c) (h3 : rd ≠ c) : RX (S.setI s 1 z) rd c w x y p k d v R = Q3 ((CS S c w k d v R).setI s 1 z) rd x y p := by
  have e1 : PS.fi (S.setI s 1 z) rd = S.fi rd := va_up_ne _ _ (Ne.symm h1)
  have e2 : PS.fi (Q3 (S.setI s 1 z) rd x y p) c = S.fi c := (va_up_ne _ _ (Ne.symm h3)).trans (va_up_ne _ _ (Ne.symm h2))
  have e3 : PS.fi (CS S c w k d v R) s = S.fi s := va_up_ne _ _ h2
  have e4 : PS.fi ((CS S c w k d v R).setI s 1 z) rd = S.fi rd := (va_up_ne _ _ (Ne.symm h1)).trans (va_up_ne _ _ h3)
  show (S.L, S.K, va_up (va_up (va_up S.fi s (va_up (S.fi s) 1 z)) rd (c3 (PS.fi (S.setI s 1 z) rd) x y p)) c (c3 (PS.fi (Q3 (S.setI s 1 z) rd x y p) c) k d v), S.fr, S.ln, S.ri, va_up S.rj w R, S.rr) = (S.L, S.K, va_up (va_up (va_up S.fi c (c3 (S.fi c) k d v)) s (va_up (PS.fi (CS S c w k d v R) s) 1 z)) rd (c3 (PS.fi ((CS S c w k d v R).setI s 1 z) rd) x y p), S.fr, S.ln, S.ri, va_up S.rj w R, S.rr)
  rw [e1, e2, e3, e4, up3 _ h2 h3]
theorem RX_of {S : PS} {s rd c w p : Nat} {z k d v : Int32} {R : Nat → Int64} (h1 : s ≠ rd) (h2 : s ≠ c) (h3 : rd ≠ c) (hp : S.fi rd 2 = nI p) : (CS S c w k d v R).setI s 1 z = RX (S.setI s 1 z) rd c w (S.fi rd 0) (S.fi rd 1) (nI p) k d v R := by
  have e4 : PS.fi ((CS S c w k d v R).setI s 1 z) rd = S.fi rd := (va_up_ne _ _ (Ne.symm h1)).trans (va_up_ne _ _ h3)
  rw [RX_Q3 h1 h2 h3, ← hp, ← e4]
  exact Q3_id _ rd
/-- what reading a container leaves in a set and in the reader -/
def TcQ (S : PS) (nw : Nat) (O : Nat → Nat) (b s it : Nat) (C : Nat → Nat) (rd : Nat) (W : Sv) (U : PS) : Prop := ∃ O2, (∀ a ∈ S.L, O2 a = O a) ∧ Kp (fun a => O a = b ∨ a = s ∨ a = rd) S U ∧ SV U nw O2 b s it C W ∧ U.K rd = S.K rd ∧ U.fr rd = S.fr rd
theorem tc_core {S S1 : PS} {nw : Nat} {O : Nat → Nat} {b s it : Nat} {C : Nat → Nat} {V : Sv} {rd w key : Nat} {x y p d : Int32} {R W : Nat → Int64} (hv : SV S nw O b s it C V) (hV : V.1 < 7) (hrm : Rm nw S (C V.1) S1 w) (hk : key < 65536) (hrL : rd ∈ S.L) (hrK : S.K rd = 4) (hO : O rd ≠ b) (hR : ∀ j, j < 1024 → R j = W j) (hn : nw ∉ S1.L) :
    TcQ S nw O b s it C rd (V.psh (key, d, W)) (RX (S1.setI s 1 (nI (V.1 + 1))) rd (C V.1) w x y p (nI key) d (nI (tot R)) R) ∧ PS.fi (RX (S1.setI s 1 (nI (V.1 + 1))) rd (C V.1) w x y p (nI key) d (nI (tot R)) R) rd = c3 (S.fi rd) x y p := by
  have hcK := (hv.cw (j := V.1) hV).2.1
  have h3 : rd ≠ C V.1 := fun e => by rw [e, hcK] at hrK; exact absurd hrK (by decide)
  have h2 : s ≠ C V.1 := fun e => by have := hv.2.1; rw [e, hcK] at this; exact absurd this (by decide)
  have h1 : s ≠ rd := fun e => by have := hv.2.1; rw [e, hrK] at this; exact absurd this (by decide)
  rw [tot_congr hR]
  obtain ⟨O2, a1, a2, a3⟩ := hv.sp.give (S1 := S1) (w := w) (a := (key, d, W)) (R := R) hV hrm hk hR hn
  obtain ⟨b1, b2⟩ := a3.used (m := V.1 + 1) (by omega)
  have hsv : SV ((CS S1 (C V.1) w (nI key) d (nI (tot W)) R).setI s 1 (nI (V.1 + 1))) nw O2 b s it C (V.psh (key, d, W)) := SP.sv (by omega) b1 rfl (fun i _ => rfl)
  have hag := hrm.ag hrL h3
  rw [RX_Q3 h1 h2 h3]
  have hrw : rd ≠ w := fun e => by
    rcases hrm with ⟨-, hq⟩ | ⟨-, hq, -⟩
    · have := hq.2.2.2.2.1; rw [← e, hrK] at this; exact absurd this (by decide)
    · rw [← e] at hq; exact hq hrL
  have k3 : ∀ a, a ≠ rd → Ag ((CS S1 (C V.1) w (nI key) d (nI (tot W)) R).setI s 1 (nI (V.1 + 1))) (Q3 ((CS S1 (C V.1) w (nI key) d (nI (tot W)) R).setI s 1 (nI (V.1 + 1))) rd x y p) a := fun a ha => ⟨rfl, va_up_ne _ _ ha, rfl, rfl, rfl, rfl, rfl⟩
  refine ⟨⟨O2, a1, ?_, ?_, hag.1, hag.2.2.1⟩, ?_⟩
  · refine ((a2.mono (fun a _ h => Or.inl h)).tr ((b2.mono (fun a _ h => Or.inr (Or.inl h))).tr ?_))
    exact ⟨fun _ h => h, fun a _ hn2 => k3 a (fun e => hn2 (Or.inr (Or.inr e)))⟩
  · refine SV.keep (S := (CS S1 (C V.1) w (nI key) d (nI (tot W)) R).setI s 1 (nI (V.1 + 1))) (fun _ h => h) (fun _ _ => rfl) (k3 s h1) (fun a _ e => k3 a (fun q => ?_)) hn hsv
    rw [q, a1 rd hrL] at e
    exact hO e
  · show va_up _ rd _ rd = _
    rw [va_up_self]
    show c3 (PS.fi ((CS S1 (C V.1) w (nI key) d (nI (tot W)) R).setI s 1 (nI (V.1 + 1))) rd) x y p = _
    rw [show PS.fi ((CS S1 (C V.1) w (nI key) d (nI (tot W)) R).setI s 1 (nI (V.1 + 1))) rd = S.fi rd from (va_up_ne _ _ (Ne.symm h1)).trans ((va_up_ne _ _ h3).trans hag.2.1)]
def TcP (S : PS) (nw : Nat) (O : Nat → Nat) (b s it : Nat) (C : Nat → Nat) (rd : Nat) (V : Sv) (key : Nat) (d : Int32) (o : Rw) (r : Int32) (U : PS) : Prop := match o with
  | .inl (f, g) => r = 0 ∧ (∃ W, TcQ S nw O b s it C rd W U) ∧ U.fi rd 0 = nI f ∧ U.fi rd 1 = nI g
  | .inr (p, W) => r = 1 ∧ TcQ S nw O b s it C rd (V.psh (key, d, W)) U ∧ U.fi rd = va_up (S.fi rd) 2 (nI p)
theorem TcP.r {S : PS} {nw : Nat} {O : Nat → Nat} {b s it : Nat} {C : Nat → Nat} {rd : Nat} {V : Sv} {key : Nat} {d : Int32} {o : Rw} {r : Int32} {U : PS} (h : TcP S nw O b s it C rd V key d o r U) : r = 0 ∨ r = 1 := by
  rcases o with ⟨f, g⟩ | ⟨p, W⟩
  · exact Or.inl h.1
  · exact Or.inr h.1
theorem c3_up (g : Nat → Int32) (z : Int32) : c3 g (g 0) (g 1) z = va_up g 2 z := by
  rw [← c3_2 g (g 0) (g 1) (g 2) z, c3_id]
theorem tc_pst {S S1 : PS} {nw : Nat} {O : Nat → Nat} {b s it : Nat} {C : Nat → Nat} {V : Sv} {rd w key : Nat} {d : Int32} {o q : Rw} {r : Int32} {U : PS} (hv : SV S nw O b s it C V) (hV : V.1 < 7) (hrm : Rm nw S (C V.1) S1 w) (hk : key < 65536) (hrL : rd ∈ S.L) (hrK : S.K rd = 4) (hO : O rd ≠ b) (hn : nw ∉ S1.L) (ho : RwE o q) (h : RdP (S1.setI s 1 (nI (V.1 + 1))) rd (C V.1) w (S.fi rd 0) (S.fi rd 1) (nI key) d o r U) : TcP S nw O b s it C rd V key d q r U := by
  rcases o with ⟨f, g⟩ | ⟨p, W⟩ <;> rcases q with ⟨f2, g2⟩ | ⟨p2, W2⟩
  · cases ho
    obtain ⟨h1, p, W, rfl⟩ := h
    obtain ⟨c1, c2⟩ := tc_core (d := d) (x := nI f) (y := nI g) (p := p) (R := W) (W := W) hv hV hrm hk hrL hrK hO (fun _ _ => rfl) hn
    exact ⟨h1, ⟨_, c1⟩, (congrFun c2 0).trans rfl, (congrFun c2 1).trans rfl⟩
  · exact absurd ho (fun h => h)
  · exact absurd ho (fun h => h)
  · obtain ⟨e1, e2⟩ := ho
    subst e1
    obtain ⟨h1, rfl⟩ := h
    obtain ⟨c1, c2⟩ := tc_core (d := d) (x := S.fi rd 0) (y := S.fi rd 1) (p := nI p) (R := W) (W := W2) hv hV hrm hk hrL hrK hO e2 hn
    exact ⟨h1, c1, c2.trans (c3_up _ _)⟩
theorem tc_f {S : PS} {nw : Nat} {O : Nat → Nat} {b s it : Nat} {C : Nat → Nat} {V : Sv} {rd key f g : Nat} {d : Int32} (hv : SV S nw O b s it C V) (hrK : S.K rd = 4) (hrL : rd ∈ S.L) (hO : O rd ≠ b) (hn : nw ∉ S.L) : TcP S nw O b s it C rd V key d (.inl (f, g)) 0 ((S.setI rd 0 (nI f)).setI rd 1 (nI g)) := by
  have h1 : s ≠ rd := fun e => by have := hv.2.1; rw [e, hrK] at this; exact absurd this (by decide)
  have k3 : ∀ a, a ≠ rd → Ag S ((S.setI rd 0 (nI f)).setI rd 1 (nI g)) a := fun a ha => ⟨rfl, (va_up_ne _ _ ha).trans (va_up_ne _ _ ha), rfl, rfl, rfl, rfl, rfl⟩
  refine ⟨rfl, ⟨V, O, fun _ _ => rfl, ⟨fun _ h => h, fun a _ hn2 => k3 a (fun e => hn2 (Or.inr (Or.inr e)))⟩, SV.keep (S := S) (fun _ h => h) (fun _ _ => rfl) (k3 s h1) (fun a _ e => k3 a (fun q => hO (by rw [← q]; exact e))) hn hv, rfl, rfl⟩, ?_, up2_self _ _ _ _⟩
  exact (up2_ne _ _ (Or.inr (by decide))).trans (up2_self _ _ _ _)
theorem nI_m1 {q : Nat} (h : q < 2 ^ 31) : nI q ≠ -1 := fun e => by
  have := congrArg Int32.toInt e
  rw [nI_toInt (by omega)] at this
  have h2 : (-1 : Int32).toInt = -1 := by decide
  omega

set_option maxRecDepth 100000 in
set_option maxHeartbeats 2000000 in
/-- a container is read -/
theorem f_X4_takeContainer (l : Launch) (D : va_G) (cy : Nat → ClassId) (nw : Nat) (S : PS) (rd rk rt e : Nat) (hr : RdC S rd rk rt) (hre : S.fi rd 3 = nI e) (he6 : e ≤ 60000) (br h n u : Nat) (B : Nat → Nat) (hb : ByV S br h n u B) (heu : e ≤ u) (O : Nat → Nat) (b s it : Nat) (C : Nat → Nat) (V : Sv) (hv : SV S nw O b s it C V) (hi6 : V.1 < 6) (hO : O rd ≠ b) (p : Nat) (hrp : S.fi rd 2 = nI p) (hpe : p ≤ e) (rb : Nat) (hrb : S.fi rd 6 = nI rb) (hrb8 : rb < 256) (key : Nat) (hkey : key < 65536) (hkv : S.ri rk V.1 = nI key) (tt : Nat) (htt : tt ≤ 65536) (htv : S.ri rt V.1 = nI tt) (pf : Option Nat) (hpf : (pf = none ∧ S.fi rd 7 = -1) ∨ ∃ q : Nat, pf = some q ∧ S.fi rd 7 = nI q ∧ q + 4 * V.1 + 4 ≤ e) : kI l yX4_takeContainer wsX4_takeContainer 4 98 D cy nw [.ref rd, .ref br, .ref s, .int (nI V.1)] S (fun r T => TcP S nw O b s it C rd V key (kdR rb V.1 tt) (rdCt B e rb V.1 tt p pf) r T) 1 1024 := by
  refine enterI (cc := cX4_takeContainer) (nL := 5) (ret := (some .boolean)) (by decide +kernel) rfl (Nat.le_of_ble_eq_true rfl) ?_
  intro F Z hl hR hD hcy hnw hnm
  subst hl hD hcy hnw
  have hRf : F.R.frames = 4 := by rw [hR]
  have hRc : F.R.cells = 1 := by rw [hR]
  have hRs : F.R.slots = 1024 := by rw [hR]
  have hRl : F.R.locals = 98 := by rw [hR]
  have in1 : ∀ w ∈ u_ws RX1 TX1 4, w ∈ wsX4_takeContainer := by decide +kernel
  have in2 : ∀ w ∈ u_ws RX2 TX2 2, w ∈ wsX4_takeContainer := by decide +kernel
  have in4 : ∀ w ∈ u_ws RX4 TX4 10, w ∈ wsX4_takeContainer := by decide +kernel
  have lk9 : Cond.fieldLink RX4 9 (TX4 8).1 (TX4 8).2.1 (TX4 8).2.2.1 ∈ wsX4_takeContainer := by decide +kernel
  have lk15 : Cond.fieldLink RX4 15 (TX4 9).1 (TX4 9).2.1 (TX4 9).2.2.1 ∈ wsX4_takeContainer := by decide +kernel
  have lk25 : Cond.fieldLink RX4 25 (TX4 2).1 (TX4 2).2.1 (TX4 2).2.2.1 ∈ wsX4_takeContainer := by decide +kernel
  have lk43 : Cond.fieldLink RX4 43 (TX4 6).1 (TX4 6).2.1 (TX4 6).2.2.1 ∈ wsX4_takeContainer := by decide +kernel
  have lk46 : Cond.fieldLink RX4 46 (TX4 7).1 (TX4 7).2.1 (TX4 7).2.2.1 ∈ wsX4_takeContainer := by decide +kernel
  have lk49 : Cond.fieldLink RX4 49 (TX2 1).1 (TX2 1).2.1 (TX2 1).2.2.1 ∈ wsX4_takeContainer := by decide +kernel
  have lk98 : Cond.fieldLink RX4 98 (TX2 0).1 (TX2 0).2.1 (TX2 0).2.2.1 ∈ wsX4_takeContainer := by decide +kernel
  have lk108 : Cond.fieldLink RX4 108 (TX1 1).1 (TX1 1).2.1 (TX1 1).2.2.1 ∈ wsX4_takeContainer := by decide +kernel
  obtain ⟨hrL, hrK, hrk, hkL, hkK, hkl, hrt, htL, htK, htl, hkt⟩ := id hr
  obtain ⟨hsL, hsK, hsit, hsu, hu7, hBn, hcv⟩ := id hv
  obtain ⟨hitL, hitK, hitl, -, -, -, -⟩ := id hBn
  have hbL := hb.1.1
  have hbK := hb.1.2.1
  have hhK := hb.1.2.2.2.2.1
  have hhL := hb.1.2.2.2.1
  have hcl : (nI V.1).toNatClampNeg = V.1 := nI_clamp (by omega)
  have hcw := hv.cw (j := V.1) (by omega)
  have hcL := hcw.1
  have hcK := hcw.2.1
  have h3 : rd ≠ C V.1 := fun e => by rw [e, hcK] at hrK; exact absurd hrK (by decide)
  have h2 : s ≠ C V.1 := fun e => by rw [e, hcK] at hsK; exact absurd hsK (by decide)
  have h1 : s ≠ rd := fun e => by rw [e, hrK] at hsK; exact absurd hsK (by decide)
  have hbc : br ≠ C V.1 := fun e => by rw [e, hcK] at hbK; exact absurd hbK (by decide)
  have hhc : h ≠ C V.1 := fun e => by rw [e, hcK] at hhK; exact absurd hhK (by decide)
  have htc : rt ≠ C V.1 := fun e => by rw [e, hcK] at htK; exact absurd htK (by decide)
  have hbs : br ≠ s := fun e => by rw [e, hsK] at hbK; exact absurd hbK (by decide)
  have hhs : h ≠ s := fun e => by rw [e, hsK] at hhK; exact absurd hhK (by decide)
  have j45 : rdCt B e rb V.1 tt p pf = rdCo B e rb V.1 tt p → G F 5 S 0 0 (QI F (fun r T => TcP S F.nw O b s it C rd V key (kdR rb V.1 tt) (rdCt B e rb V.1 tt p pf) r T) 1 1024) 45 [(0, .ref rd), (1, .ref br), (2, .ref s), (3, .int (nI V.1))] [] := by
    intro hres
    rw [hres]
    refine g_aload_n Z dX4_takeContainer_45 rfl ?_
    refine g_getr Z 2 0 rfl (by decide) in2 lk98 dX4_takeContainer_46 (by assumption) (by assumption) (by exact hsit) ?_
    refine g_iload_n Z dX4_takeContainer_49 rfl ?_
    refine g_aald10 Z dX4_takeContainer_50 (by exact hitL) (by exact hitK) (by exact vin_of hitl (by omega) (by decide)) (by rw [hcl]; exact hv.rr (by omega)) ?_
    refine g_astore Z dX4_takeContainer_51 (by decide) ?_
    refine g_aload Z dX4_takeContainer_53 rfl ?_
    refine g_aload_n Z dX4_takeContainer_55 rfl ?_
    refine g_getr Z 4 8 rfl (by decide) in4 lk9 dX4_takeContainer_56 (by assumption) (by assumption) (by exact hrk) ?_
    refine g_iload_n Z dX4_takeContainer_59 rfl ?_
    refine g_iald Z dX4_takeContainer_60 (by exact hkL) (by exact hkK) (by exact vin_of hkl (by omega) (by decide)) ?_
    rw [hcl, hkv]
    refine g_cvV Z (f_X1_begin F.l F.D F.cy F.nw S (C V.1) hcL hcK hcw.ww (nI key)) 1 gX4_takeContainer_X1_begin rfl (by decide +kernel) (by rw [hRf, hRl]; decide) (by assumption) (κ := 1) (by assumption) rfl (by decide) rfl rfl (Nat.le_of_ble_eq_true rfl) dX4_takeContainer_61 (by rw [hRc, hRs]; omega) (fun T1 hp => ?_)
    obtain ⟨S1, w, R, hrm, hR0, rfl⟩ := hp
    refine g_nw Z (fun hnT => ?_)
    have hag := hrm.ag hrL h3
    have hagt := hrm.ag htL htc
    have hcq : Cq S1 (C V.1) w := hrm.cq hcL hcK
    have hL1 := hrm.L
    have hSb : ByV (S1.setI s 1 (nI (V.1 + 1))) br h n u B := ByV.ag (S := S1) (fun _ h => h) ⟨rfl, va_up_ne _ _ hbs, rfl, rfl, rfl, rfl, rfl⟩ ⟨rfl, va_up_ne _ _ hhs, rfl, rfl, rfl, rfl, rfl⟩ (ByV.ag hL1 (hrm.ag hbL hbc) (hrm.ag hhL hhc) hb)
    have hrL1 : rd ∈ S1.L := hL1 _ hrL
    have hrK1 : S1.K rd = 4 := hag.1.trans hrK
    have hrt1 : S1.fr rd 9 = some rt := by rw [hag.2.2.1]; exact hrt
    have htL1 : rt ∈ S1.L := hL1 _ htL
    have htK1 : S1.K rt = 8 := hagt.1.trans htK
    have htl1 : S1.ln rt = 6 := hagt.2.2.2.1.trans htl
    have htv1 : S1.ri rt V.1 = nI tt := by rw [hagt.2.2.2.2.1]; exact htv
    have hfi1 : PS.fi (S1.setI s 1 (nI (V.1 + 1))) rd = S.fi rd := (va_up_ne _ _ (Ne.symm h1)).trans hag.2.1
    have hre1 : PS.fi (S1.setI s 1 (nI (V.1 + 1))) rd 3 = nI e := by rw [hfi1]; exact hre
    have hsL1 : s ∈ S1.L := hL1 _ hsL
    have hsK1 : S1.K s = 2 := (hrm.ag hsL h2).1.trans hsK
    have htR : tot R = 0 := (tot_congr (V := zW) hR0).trans tot_zW
    have hrb1 : ∀ d : Int32, PS.fi (RX (S1.setI s 1 (nI (V.1 + 1))) rd (C V.1) w (S.fi rd 0) (S.fi rd 1) (nI p) (nI key) d (nI (tot R)) R) rd 6 = nI rb := fun d => (congrFun (RX_rd h3) 6).trans ((congrFun hfi1 6).trans hrb)
    have hcL1 : C V.1 ∈ S1.L := hcq.1
    have hcK1 : S1.K (C V.1) = 1 := hcq.2.1
    refine g_aload_n Z dX4_takeContainer_64 rfl ?_
    refine g_iload_n Z dX4_takeContainer_65 rfl ?_
    refine g_iconst (v := 1) Z dX4_takeContainer_66 (by decide) ?_
    refine g_iadd Z dX4_takeContainer_67 ?_
    rw [nI_1]
    refine g_puti Z 2 1 rfl (by decide) tyX2 tyX2_ok nmX2 rfl in2 lk49 dX4_takeContainer_68 rfl rfl (by exact hsL1) (by exact hsK1) ?_
    refine g_st ((RX_of (S := S1) (z := nI (V.1 + 1)) h1 h2 h3 (by rw [hag.2.1]; exact hrp)).trans (show RX (S1.setI s 1 (nI (V.1 + 1))) rd (C V.1) w (S1.fi rd 0) (S1.fi rd 1) (nI p) (nI key) 0 0 R = (RX (S1.setI s 1 (nI (V.1 + 1))) rd (C V.1) w (S.fi rd 0) (S.fi rd 1) (nI p) (nI key) 0 (nI (tot R)) R) by rw [hag.2.1, htR]; rfl)) ?_
    refine g_aload_n Z dX4_takeContainer_71 rfl ?_
    refine g_geti Z 4 6 rfl (by decide) in4 lk43 dX4_takeContainer_72 (by exact hrL1) (by exact hrK1) ?_
    rw [hrb1]
    refine g_iload_n Z dX4_takeContainer_75 rfl ?_
    refine g_iushr Z dX4_takeContainer_76 ?_
    rw [pk_ushrN (n := rb) (by omega) (nI V.1) V.1 (shk V.1 (by omega))]
    refine g_iconst (v := 1) Z dX4_takeContainer_77 (by decide) ?_
    refine g_iand Z dX4_takeContainer_78 ?_
    rw [show nI (rb / 2 ^ V.1) &&& 1 = nI (rb / 2 ^ V.1 % 2) from pk_andN (Nat.lt_of_le_of_lt (Nat.div_le_self _ _) (by omega)) 1 (by decide)]
    refine g_if_eq Z 102 dX4_takeContainer_79 (by decide) (fun h79 => ?_) (fun h79 => ?_)
    · have hz : rb / 2 ^ V.1 % 2 = 0 := nI_z (by omega) h79
      refine g_aload_n Z dX4_takeContainer_102 rfl ?_
      refine g_getr Z 4 9 rfl (by decide) in4 lk15 dX4_takeContainer_103 (by exact hrL1) (by exact hrK1) (by exact hrt1) ?_
      refine g_iload_n Z dX4_takeContainer_106 rfl ?_
      refine g_iald Z dX4_takeContainer_107 (by exact htL1) (by exact htK1) (by exact vin_of htl1 (by omega) (by decide)) ?_
      rw [show PS.ri (RX (S1.setI s 1 (nI (V.1 + 1))) rd (C V.1) w (S.fi rd 0) (S.fi rd 1) (nI p) (nI key) 0 (nI (tot R)) R) rt (nI V.1).toNatClampNeg = nI tt by rw [hcl]; exact htv1]
      refine g_sipush (v := 4096) Z dX4_takeContainer_108 (by decide) ?_
      refine g_icmp_gt Z 134 dX4_takeContainer_111 (by decide) (fun h111 => ?_) (fun h111 => ?_)
      · have hgt : ¬ tt ≤ 4096 := fun q => absurd ((nI_ltI (a := 4096) (b := tt) (by decide) (by omega)).mp h111) (by omega)
        refine g_aload Z dX4_takeContainer_134 rfl ?_
        refine g_iconst (v := 1) Z dX4_takeContainer_136 (by decide) ?_
        refine g_puti Z 1 1 rfl (by decide) tyX1 tyX1_ok nmX1 rfl in1 lk108 dX4_takeContainer_137 rfl rfl (by exact hcL1) (by exact hcK1) ?_
        rw [CS_d]
        refine g_aload_n Z dX4_takeContainer_140 rfl ?_
        refine g_aload_n Z dX4_takeContainer_141 rfl ?_
        refine g_aload Z dX4_takeContainer_142 rfl ?_
        refine g_aload_n Z dX4_takeContainer_144 rfl ?_
        refine g_getr Z 4 9 rfl (by decide) in4 lk15 dX4_takeContainer_145 (by exact hrL1) (by exact hrK1) (by exact hrt1) ?_
        refine g_iload_n Z dX4_takeContainer_148 rfl ?_
        refine g_iald Z dX4_takeContainer_149 (by exact htL1) (by exact htK1) (by exact vin_of htl1 (by omega) (by decide)) ?_
        rw [show PS.ri (RX (S1.setI s 1 (nI (V.1 + 1))) rd (C V.1) w (S.fi rd 0) (S.fi rd 1) (nI p) (nI key) 1 (nI (tot R)) R) rt (nI V.1).toNatClampNeg = nI tt by rw [hcl]; exact htv1]
        refine g_cvI Z (f_X4_takeBitmap F.l F.D F.cy F.nw (S1.setI s 1 (nI (V.1 + 1))) rd e hrL1 hrK1 hre1 he6 br h n u B hSb heu (C V.1) w hcq (S.fi rd 0) (S.fi rd 1) (nI key) 1 R p hpe tt htt hR0) 3 gX4_takeContainer_X4_takeBitmap rfl (by decide +kernel) (by rw [hRf, hRl]; decide) (by exact hrL1) (κ := 4) (by exact hrK1) rfl (by decide) rfl rfl (Nat.le_of_ble_eq_true rfl) dX4_takeContainer_150 (by rw [hRc, hRs]; omega) (fun r3 T3 hq => ?_)
        exact g_zret Z dX4_takeContainer_153 (nar01 hq.r) (by omega) (by omega) (by rw [show kdR rb V.1 tt = 1 from (if_pos hz).trans (if_neg hgt), show rdCo B e rb V.1 tt p = rdBm B e tt p zW from (if_pos hz).trans (if_neg hgt)]; exact tc_pst hv (by omega) hrm hkey hrL hrK hO hnT (rdBm_cg hR0) hq)
      · have hle : tt ≤ 4096 := Nat.le_of_not_lt (fun q => h111 ((nI_ltI (a := 4096) (b := tt) (by decide) (by omega)).mpr q))
        refine g_aload Z dX4_takeContainer_114 rfl ?_
        refine g_iconst (v := 0) Z dX4_takeContainer_116 (by decide) ?_
        refine g_puti Z 1 1 rfl (by decide) tyX1 tyX1_ok nmX1 rfl in1 lk108 dX4_takeContainer_117 rfl rfl (by exact hcL1) (by exact hcK1) ?_
        rw [CS_d]
        refine g_aload_n Z dX4_takeContainer_120 rfl ?_
        refine g_aload_n Z dX4_takeContainer_121 rfl ?_
        refine g_aload Z dX4_takeContainer_122 rfl ?_
        refine g_aload_n Z dX4_takeContainer_124 rfl ?_
        refine g_getr Z 4 9 rfl (by decide) in4 lk15 dX4_takeContainer_125 (by exact hrL1) (by exact hrK1) (by exact hrt1) ?_
        refine g_iload_n Z dX4_takeContainer_128 rfl ?_
        refine g_iald Z dX4_takeContainer_129 (by exact htL1) (by exact htK1) (by exact vin_of htl1 (by omega) (by decide)) ?_
        rw [show PS.ri (RX (S1.setI s 1 (nI (V.1 + 1))) rd (C V.1) w (S.fi rd 0) (S.fi rd 1) (nI p) (nI key) 0 (nI (tot R)) R) rt (nI V.1).toNatClampNeg = nI tt by rw [hcl]; exact htv1]
        refine g_cvI Z (f_X4_takeArray F.l F.D F.cy F.nw (S1.setI s 1 (nI (V.1 + 1))) rd e hrL1 hrK1 hre1 he6 br h n u B hSb heu (C V.1) w hcq (S.fi rd 0) (S.fi rd 1) (nI key) 0 R p hpe tt htt) 3 gX4_takeContainer_X4_takeArray rfl (by decide +kernel) (by rw [hRf, hRl]; decide) (by exact hrL1) (κ := 4) (by exact hrK1) rfl (by decide) rfl rfl (Nat.le_of_ble_eq_true rfl) dX4_takeContainer_130 (by rw [hRc, hRs]; omega) (fun r3 T3 hq => ?_)
        exact g_zret Z dX4_takeContainer_133 (nar01 hq.r) (by omega) (by omega) (by rw [show kdR rb V.1 tt = 0 from (if_pos hz).trans (if_pos hle), show rdCo B e rb V.1 tt p = rdAr B e tt p 0 zW from (if_pos hz).trans (if_pos hle)]; exact tc_pst hv (by omega) hrm hkey hrL hrK hO hnT (rdAr_cg _ _ _ _ _ hR0) hq)
    · have hz : ¬ rb / 2 ^ V.1 % 2 = 0 := fun q => h79 (by rw [q]; rfl)
      refine g_aload Z dX4_takeContainer_82 rfl ?_
      refine g_iconst (v := 2) Z dX4_takeContainer_84 (by decide) ?_
      refine g_puti Z 1 1 rfl (by decide) tyX1 tyX1_ok nmX1 rfl in1 lk108 dX4_takeContainer_85 rfl rfl (by exact hcL1) (by exact hcK1) ?_
      rw [CS_d]
      refine g_aload_n Z dX4_takeContainer_88 rfl ?_
      refine g_aload_n Z dX4_takeContainer_89 rfl ?_
      refine g_aload Z dX4_takeContainer_90 rfl ?_
      refine g_aload_n Z dX4_takeContainer_92 rfl ?_
      refine g_getr Z 4 9 rfl (by decide) in4 lk15 dX4_takeContainer_93 (by exact hrL1) (by exact hrK1) (by exact hrt1) ?_
      refine g_iload_n Z dX4_takeContainer_96 rfl ?_
      refine g_iald Z dX4_takeContainer_97 (by exact htL1) (by exact htK1) (by exact vin_of htl1 (by omega) (by decide)) ?_
      rw [show PS.ri (RX (S1.setI s 1 (nI (V.1 + 1))) rd (C V.1) w (S.fi rd 0) (S.fi rd 1) (nI p) (nI key) 2 (nI (tot R)) R) rt (nI V.1).toNatClampNeg = nI tt by rw [hcl]; exact htv1]
      refine g_cvI Z (f_X4_takeRuns F.l F.D F.cy F.nw (S1.setI s 1 (nI (V.1 + 1))) rd e hrL1 hrK1 hre1 he6 br h n u B hSb heu (C V.1) w hcq (S.fi rd 0) (S.fi rd 1) (nI key) 2 R p hpe tt htt) 3 gX4_takeContainer_X4_takeRuns rfl (by decide +kernel) (by rw [hRf, hRl]; decide) (by exact hrL1) (κ := 4) (by exact hrK1) rfl (by decide) rfl rfl (Nat.le_of_ble_eq_true rfl) dX4_takeContainer_98 (by rw [hRc, hRs]; omega) (fun r3 T3 hq => ?_)
      exact g_zret Z dX4_takeContainer_101 (nar01 hq.r) (by omega) (by omega) (by rw [show kdR rb V.1 tt = 2 from if_neg hz, show rdCo B e rb V.1 tt p = rdRn B e tt p zW from if_neg hz]; exact tc_pst hv (by omega) hrm hkey hrL hrK hO hnT (rdRn_cg hR0) hq)
  refine g_nw Z (fun hn0 => ?_)
  refine g_aload_n Z dX4_takeContainer_0 rfl ?_
  refine g_geti Z 4 7 rfl (by decide) in4 lk46 dX4_takeContainer_1 (by assumption) (by assumption) ?_
  refine g_iconst (v := (-1)) Z dX4_takeContainer_4 (by decide) ?_
  refine g_icmp_eq Z 45 dX4_takeContainer_5 (by decide) (fun h5 => ?_) (fun h5 => ?_)
  · have hnf : pf = none := by
      rcases hpf with h | ⟨q, -, h, hq⟩
      · exact h.1
      · exact absurd (h.symm.trans h5) (nI_m1 (by omega))
    subst hnf
    exact g_lv (by (repeat (first | exact trivial | refine And.intro rfl ?_)); done) (j45 rfl)
  · obtain ⟨q, hqf, hq, hqe⟩ : ∃ q : Nat, pf = some q ∧ S.fi rd 7 = nI q ∧ q + 4 * V.1 + 4 ≤ e := by
      rcases hpf with h | h
      · exact absurd h.2 h5
      · exact h
    subst hqf
    refine g_aload_n Z dX4_takeContainer_8 rfl ?_
    refine g_aload_n Z dX4_takeContainer_9 rfl ?_
    refine g_geti Z 4 7 rfl (by decide) in4 lk46 dX4_takeContainer_10 (by assumption) (by assumption) ?_
    rw [hq]
    refine g_iconst (v := 4) Z dX4_takeContainer_13 (by decide) ?_
    refine g_iload_n Z dX4_takeContainer_14 rfl ?_
    refine g_imul Z dX4_takeContainer_15 ?_
    rw [show (4 : Int32) * nI V.1 = nI (4 * V.1) from pk_mul 4 V.1]
    refine g_iadd Z dX4_takeContainer_16 ?_
    rw [nI_add]
    refine g_iconst (v := 4) Z dX4_takeContainer_17 (by decide) ?_
    refine g_cvL Z (f_X0_numberAt F.l F.D F.cy F.nw S br h n u B hb (q + 4 * V.1) 4 (by decide) (by omega)) 2 gX4_takeContainer_X0_numberAt rfl (by decide +kernel) (by rw [hRf, hRl]; decide) (by exact hbL) (κ := 0) (by exact hbK) rfl (by decide) rfl rfl (Nat.le_of_ble_eq_true rfl) dX4_takeContainer_18 (by rw [hRc, hRs]; omega) (fun r2 T2 hq2 => ?_)
    obtain ⟨rfl, rfl⟩ := hq2
    have hlt : nuB B (q + 4 * V.1) 4 < 2 ^ 32 := nuB_lt 4 (fun i hi => (hb.2 _ (by omega)).1)
    refine g_aload_n Z dX4_takeContainer_21 rfl ?_
    refine g_geti Z 4 2 rfl (by decide) in4 lk25 dX4_takeContainer_22 (by assumption) (by assumption) ?_
    rw [hrp]
    refine g_i2l Z dX4_takeContainer_25 ?_
    rw [nI_l (n := p) (by omega)]
    refine g_lcmp Z dX4_takeContainer_26 ?_
    refine g_if_eq Z 45 dX4_takeContainer_27 (by decide) (fun h27 => ?_) (fun h27 => ?_)
    · have hpq : nuB B (q + 4 * V.1) 4 = p := lN_jj (by omega) (by omega) (lc_eq.mp h27)
      exact g_lv (by (repeat (first | exact trivial | refine And.intro rfl ?_)); done) (j45 (if_pos hpq))
    · have hpq : ¬ nuB B (q + 4 * V.1) 4 = p := fun e => h27 (lc_eq.mpr (by rw [e]))
      refine g_aload_n Z dX4_takeContainer_30 rfl ?_
      refine g_bipush (v := 6) Z dX4_takeContainer_31 (by decide) ?_
      refine g_aload_n Z dX4_takeContainer_33 rfl ?_
      refine g_geti Z 4 7 rfl (by decide) in4 lk46 dX4_takeContainer_34 (by assumption) (by assumption) ?_
      rw [hq]
      refine g_iconst (v := 4) Z dX4_takeContainer_37 (by decide) ?_
      refine g_iload_n Z dX4_takeContainer_38 rfl ?_
      refine g_imul Z dX4_takeContainer_39 ?_
      rw [show (4 : Int32) * nI V.1 = nI (4 * V.1) from pk_mul 4 V.1]
      refine g_iadd Z dX4_takeContainer_40 ?_
      rw [nI_add]
      refine g_cvI Z (f_X4_tellFault F.l F.D F.cy F.nw S rd hrL hrK _ _) 2 gX4_takeContainer_X4_tellFault rfl (by decide +kernel) (by rw [hRf, hRl]; decide) (by assumption) (κ := 4) (by assumption) rfl (by decide) rfl rfl (Nat.le_of_ble_eq_true rfl) dX4_takeContainer_41 (by rw [hRc, hRs]; omega) (fun r3 T3 hq3 => ?_)
      obtain ⟨rfl, rfl⟩ := hq3
      exact g_zret Z dX4_takeContainer_44 (by rfl) (by omega) (by omega) (by rw [show rdCt B e rb V.1 tt p (some q) = Sum.inl (6, q + 4 * V.1) from if_neg hpq]; exact tc_f hv hrK hrL hO hn0)
