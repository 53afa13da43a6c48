/-! BYTES, what they are -/
def ByV (S : PS) (br h n u : Nat) (B : Nat → Nat) : Prop := BytesAt S br h n u ∧ ∀ i, i < u → B i < 256 ∧ S.ri h i &&& 255 = nI (B i)
def bys (v j : Nat) : Nat := v / 2 ^ (8 * j) % 256
def ptB (B : Nat → Nat) (u v : Nat) : Nat → Nat := fun i => if i < u then B i else bys v (i - u)
def nuB (B : Nat → Nat) (p : Nat) : Nat → Nat
  | 0 => 0
  | k + 1 => nuB B p k + B (p + k) * 2 ^ (8 * k)
theorem i8_m (n : Nat) : (nI n).toInt8 = (nI (n % 256)).toInt8 := by
  apply Int8.toBitVec_inj.mp
  show (BitVec.ofNat 32 n).signExtend 8 = (BitVec.ofNat 32 (n % 256)).signExtend 8
  rw [BitVec.signExtend_eq_setWidth_of_le _ (by decide), BitVec.signExtend_eq_setWidth_of_le _ (by decide)]
  apply BitVec.eq_of_toNat_eq
  rw [BitVec.toNat_setWidth, BitVec.toNat_setWidth, BitVec.toNat_ofNat, BitVec.toNat_ofNat]
  omega
theorem byt_put {v j : Nat} (hv : v < 2 ^ 64) (hj : j < 8) : vp_nar .byte (lsr (lN v) (8 * nI j)).toInt32.toInt8.toInt32 &&& 255 = nI (bys v j) := by
  rw [pk_vb, show (8 : Int32) * nI j = nI (8 * j) from pk_mul 8 j, lsr_n hv (8 * j) (by omega), lN_i, i8_m]
  exact sc_k8 _ (Nat.mod_lt _ (by decide))
theorem num_or {v b k : Nat} (hv : v < 2 ^ k) : v ||| b * 2 ^ k = v + b * 2 ^ k := by
  rw [Nat.or_comm, Nat.mul_comm, ← Nat.two_pow_add_eq_or_of_lt hv, Nat.add_comm]
theorem nuB_lt {B : Nat → Nat} {p : Nat} : ∀ k, (∀ i, i < k → B (p + i) < 256) → nuB B p k < 2 ^ (8 * k)
  | 0, _ => by show 0 < _; decide
  | k + 1, h => by
    have h1 := nuB_lt k (fun i hi => h i (by omega))
    have h2 := h k (by omega)
    have h3 : 2 ^ (8 * (k + 1)) = 256 * 2 ^ (8 * k) := by rw [show 8 * (k + 1) = 8 * k + 8 by omega, Nat.pow_add, Nat.mul_comm]
    show nuB B p k + B (p + k) * 2 ^ (8 * k) < _
    rw [h3]
    have h4 : B (p + k) * 2 ^ (8 * k) ≤ 255 * 2 ^ (8 * k) := Nat.mul_le_mul_right _ (by omega)
    omega
theorem num_st {B : Nat → Nat} {p j : Nat} (h : nuB B p j < 2 ^ (8 * j)) (hb : B (p + j) < 256) (hj : j < 8) : lN (nuB B p j) ||| (nI (B (p + j))).toInt64 <<< ((8 * nI j).toInt64 &&& 63) = lN (nuB B p (j + 1)) := by
  obtain ⟨v', h1, h2⟩ := num_step (v := nuB B p j) (b := B (p + j)) (j := j) h hb hj
  have e1 : (nI (B (p + j))).toInt64 = lN (B (p + j)) := nI_l (by omega)
  have e2 : (8 : Int32) * nI j = nI (8 * j) := pk_mul 8 j
  have h3 : 2 ^ (8 * (j + 1)) = 2 ^ (8 * j) * 256 := by rw [show 8 * (j + 1) = 8 * j + 8 by omega, Nat.pow_add]
  have hp : 0 < 2 ^ (8 * j) := Nat.pow_pos (by decide)
  have hle : 2 ^ (8 * (j + 1)) ≤ 2 ^ 64 := Nat.pow_le_pow_right (by decide) (by omega)
  have hb2 : B (p + j) * 2 ^ (8 * j) < 2 ^ (8 * (j + 1)) := by
    rw [h3, Nat.mul_comm]
    exact (Nat.mul_lt_mul_left hp).mpr hb
  have hv2 : nuB B p j < 2 ^ (8 * (j + 1)) := by
    rw [h3]
    exact Nat.lt_of_lt_of_le h (Nat.le_mul_of_pos_right _ (by decide))
  rw [e1, e2, wb_shl _ (by omega), wb_or (Nat.lt_of_lt_of_le hv2 hle) (Nat.lt_of_lt_of_le hb2 hle), num_or h]
  rfl
theorem ptB_lo {B : Nat → Nat} {u v i : Nat} (h : i < u) : ptB B u v i = B i := if_pos h
theorem ptB_hi {B : Nat → Nat} {u v j : Nat} : ptB B u v (u + j) = bys v j := by
  unfold ptB
  rw [if_neg (by omega), show u + j - u = j by omega]
theorem bys_lt (v j : Nat) : bys v j < 256 := Nat.mod_lt _ (by decide)
theorem ByV.of {S : PS} {br h n u : Nat} {B B2 : Nat → Nat} (hb : ByV S br h n u B) (h2 : ∀ i, i < u → B2 i = B i) : ByV S br h n u B2 := ⟨hb.1, fun i hi => by rw [h2 i hi]; exact hb.2 i hi⟩
theorem ByV.put {S : PS} {br h n u : Nat} {x : Int32} {B : Nat → Nat} (hb : ByV S br h n u B) (hlt : u < n) (hu : u < 2 ^ 31) (hB : B u < 256) (hx : vp_nar .byte x &&& 255 = nI (B u)) : ByV ((S.setI br 1 (nI (u + 1))).rowI h (upd ((S.setI br 1 (nI (u + 1))).ri h) (nI u).toNatClampNeg (vp_nar .byte x))) br h n (u + 1) B := by
  refine ⟨put_at hb.1 hlt, fun i hi => ?_⟩
  show B i < 256 ∧ va_up S.ri h (upd (S.ri h) (nI u).toNatClampNeg (vp_nar .byte x)) h i &&& 255 = nI (B i)
  rw [va_up_self, nI_clamp hu]
  by_cases e : i = u
  · subst e
    rw [pk_us]
    exact ⟨hB, hx⟩
  · rw [pk_un e]
    exact hb.2 i (by omega)
theorem ByV.grow {S : PS} {br h n u q : Nat} {f : Nat → Int32} {B : Nat → Nat} (hb : ByV S br h n u B) (hq : q ∉ S.L) (hf : sb_Fit f) (hf2 : ∀ i, i < n → f i = S.ri h i) : ByV (((S.newA q 7 60000).rowI q f).setR br 0 (some q)) br q 60000 u B := by
  refine ⟨grow_at hb.1 hq hf, fun i hi => ?_⟩
  show B i < 256 ∧ va_up (va_up S.ri q (fun _ => 0)) q f q i &&& 255 = nI (B i)
  have hun : u ≤ n := hb.1.2.2.2.2.2.2.2.2.1
  rw [va_up_self, hf2 i (by omega)]
  exact hb.2 i hi
set_option maxRecDepth 100000 in
set_option maxHeartbeats 2000000 in
/-- static -/
theorem f_J7_copyOf_9075b (l : Launch) (D : va_G) (cy : Nat → ClassId) (nw : Nat) (S : PS) (h n : Nat) (hhL : h ∈ S.L) (hhK : S.K h = 7) (hhl : S.ln h = n) (hn : n < 60000) (hfit : sb_Fit (S.ri h)) : kR l yJ7_copyOf_9075b wsJ7_copyOf_9075b 1 60 D cy nw [.ref h, .int (nI 60000)] S (fun r T => ∃ q f, r = some q ∧ q ∉ S.L ∧ T = (S.newA q 7 60000).rowI q f ∧ sb_Fit f ∧ ∀ i, i < n → f i = S.ri h i) 1 60000 := by
  refine enterR (cc := cJ7_copyOf_9075b) (nL := 3) (ret := (some (.array .byte))) (by decide +kernel) rfl (Nat.le_of_ble_eq_true rfl) ?_
  intro F Z hl hR hD hcy hnw hnm
  subst hl hD hcy hnw
  have hRf : F.R.frames = 1 := by rw [hR]
  have hRc : F.R.cells = 1 := by rw [hR]
  have hRs : F.R.slots = 60000 := by rw [hR]
  have hRl : F.R.locals = 60 := by rw [hR]
  refine g_iload_n Z dJ7_copyOf_9075b_0 rfl ?_
  refine g_aload_n Z dJ7_copyOf_9075b_1 rfl ?_
  refine g_alen7 Z dJ7_copyOf_9075b_2 (by assumption) (by assumption) ?_
  rw [hhl]
  refine g_icmp_ne Z 14 dJ7_copyOf_9075b_3 (by decide) (fun h3 => ?_) (fun h3 => absurd h3 (fun e => by have := (nI_eq (a := 60000) (b := n) (by decide) (by omega)).mp e; omega))
  refine g_iload_n Z dJ7_copyOf_9075b_14 rfl ?_
  refine g_newaB Z 60000 dJ7_copyOf_9075b_15 (by decide +kernel) (by decide) (by decide) (by decide) (by rw [hRc]; decide) (by rw [hRs]; decide) (fun q hq => ?_)
  have hneq : h ≠ q := ne_mem hq hhL
  have hhL2 : h ∈ (S.newA q 7 60000).L := List.mem_append_left _ hhL
  have hhK2 : (S.newA q 7 60000).K h = 7 := (va_up_ne _ _ hneq).trans hhK
  have hhl2 : (S.newA q 7 60000).ln h = n := (va_up_ne _ _ hneq).trans hhl
  have hqL : q ∈ (S.newA q 7 60000).L := List.mem_append_right _ (List.mem_singleton.mpr rfl)
  have hqK : (S.newA q 7 60000).K q = 7 := va_up_self _ _ _
  have hql : (S.newA q 7 60000).ln q = 60000 := va_up_self _ _ _
  refine g_astore_n Z dJ7_copyOf_9075b_17 (by decide) ?_
  refine g_aload_n Z dJ7_copyOf_9075b_18 rfl ?_
  refine g_iconst (v := 0) Z dJ7_copyOf_9075b_19 (by decide) ?_
  refine g_aload_n Z dJ7_copyOf_9075b_20 rfl ?_
  refine g_iconst (v := 0) Z dJ7_copyOf_9075b_21 (by decide) ?_
  refine g_aload_n Z dJ7_copyOf_9075b_22 rfl ?_
  refine g_alen7 Z dJ7_copyOf_9075b_23 (by assumption) (by assumption) ?_
  rw [hhl2]
  refine g_iload_n Z dJ7_copyOf_9075b_24 rfl ?_
  refine g_mmin Z (by decide +kernel) (by decide +kernel) (by decide +kernel) (by decide +kernel) dJ7_copyOf_9075b_25 (by rw [hRf]; decide) (by rw [hRl]; exact Nat.le_of_ble_eq_true rfl) (by rw [hRc]; decide) (by rw [hRs]; decide) ?_
  rw [if_neg (fun e => by have := (nI_ltI (a := 60000) (b := n) (by decide) (by omega)).mp e; omega)]
  have hcn : (nI n).toNatClampNeg = n := nI_clamp (by omega)
  refine g_copyB Z (by decide +kernel) (by decide +kernel) (by decide +kernel) (by decide +kernel) dJ7_copyOf_9075b_28 hhL2 hhK2 hqL hqK (by decide) (by decide) (nI_pos (by omega)) (by rw [hcn, hhl2]; show 0 + n ≤ n; omega) (by rw [hcn, hql]; show 0 + n ≤ 60000; omega) (by rw [show (S.newA q 7 60000).ri h = S.ri h from va_up_ne _ _ hneq]; exact hfit) (by rw [hRf]; decide) (by rw [hRl]; exact Nat.le_of_ble_eq_true rfl) ?_
  refine g_aload_n Z dJ7_copyOf_9075b_31 rfl ?_
  exact g_aret Z rfl (Or.inr ⟨_, rfl⟩) dJ7_copyOf_9075b_32 (by omega) (by omega) ⟨q, _, rfl, hq, rfl, sb_fitC (by rw [show (S.newA q 7 60000).ri h = S.ri h from va_up_ne _ _ hneq]; exact hfit) (by rw [show (S.newA q 7 60000).ri q = (fun _ => 0) from va_up_self _ _ _]; exact sb_fit0), fun i hi => by rw [hcn, show (0 : Int32).toNatClampNeg = 0 from rfl, pk_cpy_in (Nat.zero_le _) (by omega), show (S.newA q 7 60000).ri h = S.ri h from va_up_ne _ _ hneq]; exact congrArg (S.ri h) (by omega)⟩

set_option maxRecDepth 100000 in
set_option maxHeartbeats 2000000 in
/-- a byte -/
theorem f_X0_byteAt (l : Launch) (D : va_G) (cy : Nat → ClassId) (nw : Nat) (S : PS) (br h n u : Nat) (B : Nat → Nat) (hb : ByV S br h n u B) (i : Nat) (hi : i < u) : kI l yX0_byteAt wsX0_byteAt 0 0 D cy nw [.ref br, .int (nI i)] S (fun r T => S = T ∧ r = nI (B i)) 0 0 := by
  refine enterI (cc := cX0_byteAt) (nL := 2) (ret := (some .int)) (by decide +kernel) rfl (Nat.le_of_ble_eq_true rfl) ?_
  intro F Z hl hR hD hcy hnw hnm
  subst hl hD hcy hnw
  have hRf : F.R.frames = 0 := by rw [hR]
  have hRc : F.R.cells = 0 := by rw [hR]
  have hRs : F.R.slots = 0 := by rw [hR]
  have hRl : F.R.locals = 0 := by rw [hR]
  have in0 : ∀ w ∈ u_ws RX0 TX0 2, w ∈ wsX0_byteAt := by decide +kernel
  have lk9 : Cond.fieldLink RX0 9 (TX0 0).1 (TX0 0).2.1 (TX0 0).2.2.1 ∈ wsX0_byteAt := by decide +kernel
  obtain ⟨hbL, hbK, hbh, hhL, hhK, hhl, hn2, hbu, hun, hfit⟩ := id hb.1
  refine g_aload_n Z dX0_byteAt_0 rfl ?_
  refine g_getr Z 0 0 rfl (by decide) in0 lk9 dX0_byteAt_1 (by assumption) (by assumption) (by assumption) ?_
  refine g_iload_n Z dX0_byteAt_4 rfl ?_
  refine g_bald Z dX0_byteAt_5 (by assumption) (by assumption) (by exact vin_of hhl (by omega) (by omega)) ?_
  refine g_sipush (v := 255) Z dX0_byteAt_6 (by decide) ?_
  refine g_iand Z dX0_byteAt_9 ?_
  rw [nI_clamp (by omega), (hb.2 i hi).2]
  exact g_iret Z dX0_byteAt_10 (by omega) (by omega) (⟨rfl, rfl⟩)

set_option maxRecDepth 100000 in
set_option maxHeartbeats 2000000 in
/-- a number of several bytes -/
theorem f_X0_numberAt (l : Launch) (D : va_G) (cy : Nat → ClassId) (nw : Nat) (S : PS) (br h nn u : Nat) (B : Nat → Nat) (hb : ByV S br h nn u B) (p k : Nat) (hk : k ≤ 8) (hp : p + k ≤ u) : kL l yX0_numberAt wsX0_numberAt 1 21 D cy nw [.ref br, .int (nI p), .int (nI k)] S (fun r T => S = T ∧ r = lN (nuB B p k)) 0 0 := by
  refine enterL (cc := cX0_numberAt) (nL := 6) (ret := (some .long)) (by decide +kernel) rfl (Nat.le_of_ble_eq_true rfl) ?_
  intro F Z hl hR hD hcy hnw hnm
  subst hl hD hcy hnw
  have hRf : F.R.frames = 1 := by rw [hR]
  have hRc : F.R.cells = 0 := by rw [hR]
  have hRs : F.R.slots = 0 := by rw [hR]
  have hRl : F.R.locals = 21 := by rw [hR]
  obtain ⟨hbL, hbK, hbh, hhL, hhK, hhl, hn2, hbu, hun, hfit⟩ := id hb.1
  have hB : ∀ i, i < k → B (p + i) < 256 := fun i hi => (hb.2 (p + i) (by omega)).1
  have loop : ∀ (n : Nat) (j : Nat), 9 - j < n → j ≤ k → G F 6 S 0 0 (QL F (fun r T => S = T ∧ r = lN (nuB B p k)) 0 0) 5 [(0, .ref br), (1, .int (nI p)), (2, .int (nI k)), (3, .long (lN (nuB B p j))), (5, .int (nI j))] [] := by
    intro n
    induction n with
    | zero => intros; omega
    | succ n ih =>
      intro j hn hj
      refine g_iload Z dX0_numberAt_5 rfl ?_
      refine g_iload_n Z dX0_numberAt_7 rfl ?_
      refine g_icmp_ge Z 35 dX0_numberAt_8 (by decide) (fun h8 => ?_) (fun h8 => ?_)
      · have he : j = k := by have := ge_t (by omega) (by omega) h8; omega
        subst he
        refine g_lload_n Z dX0_numberAt_35 rfl ?_
        exact g_lret Z dX0_numberAt_36 (by omega) (by omega) (⟨rfl, rfl⟩)
      · have hlt : j < k := ge_f (by omega) (by omega) h8
        refine g_lload_n Z dX0_numberAt_11 rfl ?_
        refine g_aload_n Z dX0_numberAt_12 rfl ?_
        refine g_iload_n Z dX0_numberAt_13 rfl ?_
        refine g_iload Z dX0_numberAt_14 rfl ?_
        refine g_iadd Z dX0_numberAt_16 ?_
        rw [nI_add]
        refine g_cvI Z (f_X0_byteAt F.l F.D F.cy F.nw S br h nn u B hb (p + j) (by omega)) 1 gX0_numberAt_X0_byteAt rfl (by decide +kernel) (by rw [hRf, hRl]; decide) (by assumption) (κ := 0) (by assumption) rfl (by decide) rfl rfl (Nat.le_of_ble_eq_true rfl) dX0_numberAt_17 (by rw [hRc, hRs]; omega) (fun r T hp => ?_)
        obtain ⟨rfl, rfl⟩ := hp
        refine g_i2l Z dX0_numberAt_20 ?_
        refine g_bipush (v := 8) Z dX0_numberAt_21 (by decide) ?_
        refine g_iload Z dX0_numberAt_23 rfl ?_
        refine g_imul Z dX0_numberAt_25 ?_
        refine g_lshl Z dX0_numberAt_26 ?_
        refine g_lor Z dX0_numberAt_27 ?_
        rw [num_st (nuB_lt j (fun i hi => hB i (by omega))) (hB j hlt) (by omega)]
        refine g_lstore_n Z dX0_numberAt_28 (by decide) ?_
        refine g_iinc (c := 1) Z dX0_numberAt_29 rfl (by decide) (by decide) ?_
        rw [nI_1]
        refine g_goto Z 5 dX0_numberAt_32 (by decide) ?_
        exact g_lv (by (repeat (first | exact trivial | refine And.intro rfl ?_)); done) (ih (j + 1) (by omega) (by omega))
  refine g_lconst (v := 0) Z dX0_numberAt_0 (by decide) ?_
  refine g_lstore_n Z dX0_numberAt_1 (by decide) ?_
  refine g_iconst (v := 0) Z dX0_numberAt_2 (by decide) ?_
  refine g_istore Z dX0_numberAt_3 (by decide) ?_
  exact g_lv (by (repeat (first | exact trivial | refine And.intro rfl ?_)); done) (loop 10 0 (by omega) (by omega))

set_option maxRecDepth 100000 in
set_option maxHeartbeats 2000000 in
/-- bytes come behind the others -/
theorem f_X0_put (l : Launch) (D : va_G) (cy : Nat → ClassId) (nw : Nat) (S : PS) (br h n u : Nat) (B : Nat → Nat) (hb : ByV S br h n u B) (v : Nat) (hv : v < 2 ^ 64) (k : Nat) (hk : k ≤ 8) (huk : u + k ≤ 60000) : kV l yX0_put wsX0_put 2 82 D cy nw [.ref br, .long (lN v), .int (nI k)] S (fun T => Rl Pb S T ∧ ∃ h2, ByV T br h2 (bN n u k) (u + k) (ptB B u v)) (bG n u k) (60000 * bG n u k) := by
  refine enterV (cc := cX0_put) (nL := 5) (ret := none) (by decide +kernel) rfl (Nat.le_of_ble_eq_true rfl) ?_
  intro F Z hl hR hD hcy hnw hnm
  subst hl hD hcy hnw
  have hRf : F.R.frames = 2 := by rw [hR]
  have hRc : F.R.cells = (bG n u k) := by rw [hR]
  have hRs : F.R.slots = (60000 * bG n u k) := by rw [hR]
  have hRl : F.R.locals = 82 := by rw [hR]
  have in0 : ∀ w ∈ u_ws RX0 TX0 2, w ∈ wsX0_put := by decide +kernel
  have lk9 : Cond.fieldLink RX0 9 (TX0 0).1 (TX0 0).2.1 (TX0 0).2.2.1 ∈ wsX0_put := by decide +kernel
  have lk15 : Cond.fieldLink RX0 15 (TX0 1).1 (TX0 1).2.1 (TX0 1).2.2.1 ∈ wsX0_put := by decide +kernel
  have ct19 : Cond.constant RX0 19 (60000) ∈ wsX0_put := by decide +kernel
  obtain ⟨hbL, hbK, hbh, hhL, hhK, hhl, hn2, hbu, hun, hfit⟩ := id hb.1
  have loop : ∀ (m : Nat) (j h n2 u2 : Nat) (T : PS), 9 - j < m → (Rl Pb S T ∧ ByV T br h n2 u2 (ptB B u v) ∧ j ≤ k ∧ n2 = bN n u k ∧ u2 = u + j) → G F 5 T (bG n u k) (60000 * bG n u k) (QV F (fun T => Rl Pb S T ∧ ∃ h2, ByV T br h2 (bN n u k) (u + k) (ptB B u v)) (bG n u k) (60000 * bG n u k)) 40 [(0, .ref br), (1, .long (lN v)), (3, .int (nI k)), (4, .int (nI j))] [] := by
    intro m
    induction m with
    | zero => intros; omega
    | succ m ih =>
      intro j h n2 u2 T hm ⟨hR2, hb2, hj, hn3, hu3⟩
      obtain ⟨hbL, hbK, hbh, hhL, hhK, hhl, hn4, hbu, hun2, hfit⟩ := id hb2.1
      have hbound : u ≤ n ∧ n ≤ 60000 ∧ k ≤ 8 := ⟨hun, by omega, hk⟩
      refine g_iload Z dX0_put_40 rfl ?_
      refine g_iload_n Z dX0_put_42 rfl ?_
      refine g_icmp_ge Z 89 dX0_put_43 (by decide) (fun h43 => ?_) (fun h43 => ?_)
      · have he : j = k := by have := ge_t (by omega) (by omega) h43; omega
        subst he
        exact g_vret Z dX0_put_89 (by omega) (by omega) (⟨hR2, h, by rw [← hn3, ← hu3]; exact hb2⟩)
      · have hlt : j < k := ge_f (by omega) (by omega) h43
        have hlt2 : u2 < n2 := by rw [hn3, hu3]; unfold bN; split <;> omega
        refine g_aload_n Z dX0_put_46 rfl ?_
        refine g_geti Z 0 1 rfl (by decide) in0 lk15 dX0_put_47 (by assumption) (by assumption) ?_
        rw [hbu]
        refine g_aload_n Z dX0_put_50 rfl ?_
        refine g_getr Z 0 0 rfl (by decide) in0 lk9 dX0_put_51 (by assumption) (by assumption) (by assumption) ?_
        refine g_alen7 Z dX0_put_54 (by assumption) (by assumption) ?_
        rw [hhl]
        refine g_icmp_ge Z 89 dX0_put_55 (by decide) (fun h55 => absurd h55 (fun e => by have := ge_t (by omega) (by omega) e; omega)) (fun h55 => ?_)
        refine g_aload_n Z dX0_put_58 rfl ?_
        refine g_getr Z 0 0 rfl (by decide) in0 lk9 dX0_put_59 (by assumption) (by assumption) (by assumption) ?_
        refine g_aload_n Z dX0_put_62 rfl ?_
        refine g_dup Z dX0_put_63 rfl ?_
        refine g_geti Z 0 1 rfl (by decide) in0 lk15 dX0_put_64 (by assumption) (by assumption) ?_
        rw [hbu]
        refine g_dup_x1 Z dX0_put_67 rfl rfl ?_
        refine g_iconst (v := 1) Z dX0_put_68 (by decide) ?_
        refine g_iadd Z dX0_put_69 ?_
        rw [nI_1]
        refine g_puti Z 0 1 rfl (by decide) tyX0 tyX0_ok nmX0 rfl in0 lk15 dX0_put_70 rfl rfl (by assumption) (by assumption) ?_
        refine g_lload_n Z dX0_put_73 rfl ?_
        refine g_bipush (v := 8) Z dX0_put_74 (by decide) ?_
        refine g_iload Z dX0_put_76 rfl ?_
        refine g_imul Z dX0_put_78 ?_
        refine g_lushr Z dX0_put_79 ?_
        refine g_l2i Z dX0_put_80 ?_
        refine g_i2b Z dX0_put_81 ?_
        refine g_bast Z dX0_put_82 (by assumption) (by assumption) (by exact vin_of hhl hlt2 (by omega)) ?_
        refine g_iinc (c := 1) Z dX0_put_83 rfl (by decide) (by decide) ?_
        rw [nI_1]
        refine g_goto Z 40 dX0_put_86 (by decide) ?_
        exact g_lv (by (repeat (first | exact trivial | refine And.intro rfl ?_)); done) (ih (j + 1) h n2 (u2 + 1) _ (by omega) ⟨(hR2.setI (by rw [hbK]; exact Or.inl rfl)).rowI (by rw [show PS.K (PS.setI T br 1 _) h = 7 from hhK]; exact Or.inr rfl), hb2.put hlt2 (by omega) (by rw [hu3, ptB_hi]; exact bys_lt _ _) (by rw [hu3, ptB_hi]; exact byt_put hv (by omega)), by omega, hn3, by omega⟩)
  refine g_aload_n Z dX0_put_0 rfl ?_
  refine g_geti Z 0 1 rfl (by decide) in0 lk15 dX0_put_1 (by assumption) (by assumption) ?_
  rw [hbu]
  refine g_iload_n Z dX0_put_4 rfl ?_
  refine g_iadd Z dX0_put_5 ?_
  rw [nI_add]
  refine g_aload_n Z dX0_put_6 rfl ?_
  refine g_getr Z 0 0 rfl (by decide) in0 lk9 dX0_put_7 (by assumption) (by assumption) (by assumption) ?_
  refine g_alen7 Z dX0_put_10 (by assumption) (by assumption) ?_
  rw [hhl]
  refine g_icmp_le Z 37 dX0_put_11 (by decide) (fun h11 => ?_) (fun h11 => ?_)
  · have hle : u + k ≤ n := le_t (by omega) (by omega) h11
    have hg0 : bG n u k = 0 := by unfold bG; rw [if_pos (Or.inl hle)]
    have hN0 : n = bN n u k := by unfold bN; rw [if_pos hle]
    refine g_iconst (v := 0) Z dX0_put_37 (by decide) ?_
    refine g_istore Z dX0_put_38 (by decide) ?_
    exact g_widen (Nat.zero_le _) (Nat.zero_le _) (g_lv (by (repeat (first | exact trivial | refine And.intro rfl ?_)); done) (loop 10 0 h n u S (by omega) ⟨Rl.rf, hb.of (fun i hi => ptB_lo hi), by omega, hN0, by omega⟩))
  · have hgt : n < u + k := le_f (by omega) (by omega) h11
    refine g_aload_n Z dX0_put_14 rfl ?_
    refine g_getr Z 0 0 rfl (by decide) in0 lk9 dX0_put_15 (by assumption) (by assumption) (by assumption) ?_
    refine g_alen7 Z dX0_put_18 (by assumption) (by assumption) ?_
    rw [hhl]
    refine g_ldc (v := 60000) Z dX0_put_19 ct19 ?_
    refine g_icmp_ge Z 37 dX0_put_21 (by decide) (fun h21 => ?_) (fun h21 => ?_)
    · have hn6 : n = 60000 := by have := ge_t (i := n) (N := 60000) (by omega) (by decide) h21; omega
      have hg0 : bG n u k = 0 := by unfold bG; rw [if_pos (Or.inr hn6)]
      have hN0 : n = bN n u k := by unfold bN; rw [if_neg (by omega)]; exact hn6
      refine g_iconst (v := 0) Z dX0_put_37 (by decide) ?_
      refine g_istore Z dX0_put_38 (by decide) ?_
      exact g_widen (Nat.zero_le _) (Nat.zero_le _) (g_lv (by (repeat (first | exact trivial | refine And.intro rfl ?_)); done) (loop 10 0 h n u S (by omega) ⟨Rl.rf, hb.of (fun i hi => ptB_lo hi), by omega, hN0, by omega⟩))
    · have hn6 : n < 60000 := ge_f (by omega) (by decide) h21
      have hg1 : bG n u k = 1 := by unfold bG; rw [if_neg (by omega)]
      have hN1 : 60000 = bN n u k := by unfold bN; rw [if_neg (by omega)]
      refine g_aload_n Z dX0_put_24 rfl ?_
      refine g_aload_n Z dX0_put_25 rfl ?_
      refine g_getr Z 0 0 rfl (by decide) in0 lk9 dX0_put_26 (by assumption) (by assumption) (by assumption) ?_
      refine g_ldc (v := 60000) Z dX0_put_29 ct19 ?_
      refine g_csR Z (f_J7_copyOf_9075b F.l F.D F.cy F.nw S h n hhL hhK hhl hn6 hfit) 2 gX0_put_J7_copyOf_9075b rfl (by decide +kernel) (by rw [hRf, hRl]; decide) rfl rfl (Nat.le_of_ble_eq_true rfl) dX0_put_31 (by rw [hRc, hRs]; rw [hg1]; decide) (fun r T hp => ?_)
      obtain ⟨q, f, rfl, hq, rfl, hff, hf2⟩ := hp
      have hneq : br ≠ q := ne_mem hq hbL
      refine g_putr Z 0 0 rfl (by decide) tyX0 tyX0_ok nmX0 rfl in0 lk9 dX0_put_34 rfl rfl (List.mem_append_left _ hbL) ((va_up_ne _ _ hneq).trans hbK) ?_
      refine g_iconst (v := 0) Z dX0_put_37 (by decide) ?_
      refine g_istore Z dX0_put_38 (by decide) ?_
      exact g_widen (by omega) (by omega) (g_lv (by (repeat (first | exact trivial | refine And.intro rfl ?_)); done) (loop 10 0 q 60000 u _ (by omega) ⟨(((Rl.rf.newA hq).rowI (by rw [show PS.K (PS.newA S q 7 60000) q = 7 from va_up_self _ _ _]; exact Or.inr rfl)).setR (by rw [show PS.K (PS.rowI (PS.newA S q 7 60000) q f) br = 0 from (va_up_ne _ _ hneq).trans hbK]; exact Or.inl rfl)), (hb.of (fun i hi => ptB_lo hi) : ByV S br h n u (ptB B u v)).grow hq hff hf2, by omega, hN1, by omega⟩))
