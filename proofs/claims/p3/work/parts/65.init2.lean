/-- a row of sets grows by a new one -/
theorem sa_step {nw la j q it : Nat} {T T2 : PS} (hq : q ∉ T.L) (hN : Nx (fun a => a = q) (T.newO q 2) T2) (hs : SetAt T2 nw q it 0) (hl : la ∈ T.L) (hlK : T.K la = 11) (hll : T.ln la = 8) (hrw : ∀ i, i < j → ∃ s, T.rr la i = some s ∧ SetOK T nw s) :
    let U := T2.rowR la (va_up (T2.rr la) j (some q))
    Nx (fun a => a = la) T U ∧ la ∈ U.L ∧ U.K la = 11 ∧ U.ln la = 8 ∧ (∀ i, i < j + 1 → ∃ s, U.rr la i = some s ∧ SetOK U nw s) ∧ la ∈ T2.L ∧ T2.K la = 11 ∧ T2.ln la = 8 := by
  intro U
  have hql : la ≠ q := ne_mem hq hl
  have hN0 : Nx (fun a => a = la) T T2 := (Nx.rf.newO hq).sub hN (fun a e => Or.inr (by rw [e]; exact hq))
  have hN1 : Nx (fun a => a = la) T U := hN0.rowR (Or.inl rfl)
  obtain ⟨a1, a2, a3, -⟩ := hN1 la hl
  obtain ⟨b1, b2, b3, b4⟩ := hN la (List.mem_append_left _ hl)
  have erow : T2.rr la = T.rr la := (b4 hql).2.2.2.2
  have hl2 : T2.K la = 11 := b2.trans ((va_up_ne _ _ hql).trans hlK)
  have hR1 : Rl (fun κ => κ = 11) T U := hN1.rl (fun a _ e => by rw [e]; exact hlK)
  have hR2 : Rl (fun κ => κ = 11) T2 U := Rl.rf.rowR hl2
  refine ⟨hN1, a1, a2.trans hlK, a3.trans hll, fun i hij => ?_, b1, hl2, b3.trans hll⟩
  show ∃ s, va_up T2.rr la (va_up (T2.rr la) j (some q)) la i = some s ∧ SetOK U nw s
  rw [va_up_self]
  by_cases e : i = j
  · subst e; exact ⟨q, va_up_self _ _ _, it, 0, hR2.set (by decide) (by decide) (by decide) hs⟩
  · obtain ⟨s, c1, it', u', c2⟩ := hrw i (by omega)
    exact ⟨s, (va_up_ne _ _ e).trans (by rw [erow]; exact c1), it', u', hR1.set (by decide) (by decide) (by decide) c2⟩
/-- a reference of the object is set, to a cell made for it -/
theorem ini_obj {x q κ i : Nat} {v : Option Nat} {T T2 : PS} (hq : q ∉ T.L) (hx : x ∈ T.L) (hxK : T.K x = 5) (hN : Nx (fun a => a = q) (T.newO q κ) T2) :
    let U := T2.setR x i v
    Rl (fun κ => κ = 5) T U ∧ Rl (fun κ => κ = 5) T2 U ∧ (∀ j, j ≠ i → U.fr x j = T.fr x j) ∧ U.fr x i = v ∧ U.fi x = T.fi x ∧ x ∈ U.L ∧ U.K x = 5 ∧ x ∈ T2.L ∧ T2.K x = 5 := by
  intro U
  have hxq : x ≠ q := ne_mem hq hx
  have hN0 : Nx (fun a => a = x) T T2 := (Nx.rf.newO hq).sub hN (fun a e => Or.inr (by rw [e]; exact hq))
  have hN1 : Nx (fun a => a = x) T U := hN0.setR (Or.inl rfl)
  obtain ⟨a1, a2, -, -⟩ := hN1 x hx
  obtain ⟨b1, b2, -, b4⟩ := hN x (List.mem_append_left _ hx)
  obtain ⟨c1, c2, -⟩ := b4 hxq
  have k2 : T2.K x = 5 := b2.trans ((va_up_ne _ _ hxq).trans hxK)
  exact ⟨hN1.rl (fun a _ e => by rw [e]; exact hxK), Rl.rf.setR k2, fun j hj => (up2_ne _ _ (Or.inr hj)).trans ((congrFun c2 j).trans (congrFun (va_up_ne _ _ hxq) j)), up2_self _ _ _ _, c1.trans (va_up_ne _ _ hxq), a1, a2.trans hxK, b1, k2⟩
theorem Rl5.sa {nw sa : Nat} {S T : PS} (h : Rl (fun κ => κ = 5) S T) (k : SaAt S nw sa) : SaAt T nw sa := k.eg (h.eg (by decide) (by decide) (by decide)) (by decide)
theorem Rl5.pl {nw pl la d : Nat} {S T : PS} (h : Rl (fun κ => κ = 5) S T) (k : PlAt S nw pl la d) : PlAt T nw pl la d := by
  obtain ⟨k1, k2, k3, k4, k5, k6⟩ := k
  obtain ⟨a1, a2, -, a4⟩ := h pl k1
  obtain ⟨e1, e2, -⟩ := a4 (by rw [k2]; decide)
  exact ⟨a1, a2.trans k2, by rw [e2]; exact k3, Rl5.sa h k4, by rw [e1]; exact k5, k6⟩
theorem Rl.rdw {P : Nat → Prop} {rd rk rt : Nat} {S T : PS} (h : Rl P S T) (h4 : ¬ P 4) (h8 : ¬ P 8) (k : RdW S rd rk rt) : RdW T rd rk rt := by
  obtain ⟨k1, k2, k3, k4, k5, k6, k7, k8, k9, k10, k11, k12⟩ := k
  obtain ⟨a1, a2, -, a4⟩ := h rd k1
  obtain ⟨-, e2, -⟩ := a4 (by rw [k2]; exact h4)
  obtain ⟨b1, b2, b3, b4⟩ := h rk k4
  obtain ⟨c1, c2, c3, -⟩ := h rt k8
  have e3 := (b4 (by rw [k5]; exact h8)).2.2.1
  exact ⟨a1, a2.trans k2, by rw [e2]; exact k3, b1, b2.trans k5, b3.trans k6, by rw [e2]; exact k7, c1, c2.trans k9, c3.trans k10, k11, by rw [e3]; exact k12⟩
theorem Rl11.pl {nw pl la d sa : Nat} {S T : PS} (h : Nx (fun a => a = sa) S T) (hK : S.K sa = 11) (hne : la ≠ sa) (k : PlAt S nw pl la d) : PlAt T nw pl la d := by
  have hR : Rl (fun κ => κ = 11) S T := h.rl (fun a _ e => by rw [e]; exact hK)
  obtain ⟨k1, k2, k3, ⟨l1, l2, l3, l4⟩, k5, k6⟩ := k
  obtain ⟨a1, a2, -, a4⟩ := hR pl k1
  obtain ⟨e1, e2, -⟩ := a4 (by rw [k2]; decide)
  obtain ⟨b1, b2, b3, b4⟩ := h la l1
  have e3 := (b4 hne).2.2.2.2
  refine ⟨a1, a2.trans k2, by rw [e2]; exact k3, ⟨b1, b2.trans l2, b3.trans l3, fun i hi => ?_⟩, by rw [e1]; exact k5, k6⟩
  obtain ⟨s, h1, it, u, h2⟩ := l4 i hi
  exact ⟨s, by rw [e3]; exact h1, it, u, hR.set (by decide) (by decide) (by decide) h2⟩
theorem fit0 : sb_Fit (fun _ => 0) := fun _ => rfl
theorem by_new {q h : Nat} {T : PS} (hh : h ∉ (T.newO q 0).L) : BytesAt (((T.newO q 0).newA h 7 1024).setR q 0 (some h)) q h 1024 0 := by
  have hq : q ∈ (T.newO q 0).L := in_new (κ := 0)
  have hqh : q ≠ h := ne_mem hh hq
  refine ⟨List.mem_append_left _ hq, (va_up_ne _ _ hqh).trans (va_up_self _ _ _), up2_self _ _ _ _, in_newA (κ := 7) (n := 1024), K_newA (n := 1024), va_up_self _ _ _, Or.inl rfl, ?_, by decide, ?_⟩
  · show va_up T.fi q (fun _ => 0) q 1 = nI 0
    rw [va_up_self]; rfl
  · show sb_Fit (va_up T.ri h (fun _ => 0) h)
    rw [va_up_self]; exact fit0
theorem rd_new {q k t : Nat} {T : PS} (hk : k ∉ (T.newO q 4).L) (ht : t ∉ (((T.newO q 4).newA k 8 6).setR q 8 (some k)).L) : RdW (((((T.newO q 4).newA k 8 6).setR q 8 (some k)).newA t 8 6).setR q 9 (some t)) q k t := by
  have hq : q ∈ (T.newO q 4).L := in_new (κ := 4)
  have hqk : q ≠ k := ne_mem hk hq
  have hqt : q ≠ t := ne_mem ht (List.mem_append_left _ hq)
  have hkL : k ∈ (((T.newO q 4).newA k 8 6).setR q 8 (some k)).L := in_newA (S := T.newO q 4) (κ := 8) (n := 6)
  have hkt : k ≠ t := ne_mem ht hkL
  refine ⟨List.mem_append_left _ (List.mem_append_left _ hq), (va_up_ne _ _ hqt).trans ((va_up_ne _ _ hqk).trans (va_up_self _ _ _)), (up2_ne _ _ (Or.inr (by decide))).trans (up2_self _ _ _ _), List.mem_append_left _ hkL, (va_up_ne _ _ hkt).trans (va_up_self _ _ _), (va_up_ne _ _ hkt).trans (va_up_self _ _ _), up2_self _ _ _ _, List.mem_append_right _ (List.mem_singleton.mpr rfl), va_up_self _ _ _, va_up_self _ _ _, hkt, fun i _ => ⟨0, by decide, ?_⟩⟩
  show va_up (va_up T.ri k (fun _ => 0)) t (fun _ => 0) k i = nI 0
  rw [va_up_ne _ _ hkt, va_up_self]; rfl

set_option maxRecDepth 100000 in
set_option maxHeartbeats 2000000 in
/-- a new pile -/
theorem c_X3_init (l : Launch) (D : va_G) (cy : Nat → ClassId) (nw : Nat) (S : PS) (p : Nat) (hpL : p ∈ S.L) (hpK : S.K p = 3) (hpu0 : S.fi p 1 = 0) : kV l yX3_init wsX3_init 3 61 D cy nw [.ref p] S (fun T => Nx (fun a => a = p) S T ∧ ∃ la, la ∉ S.L ∧ PlAt T nw p la 0) 81 304 := by
  refine enterV (cc := cX3_init) (nL := 2) (ret := none) (by decide +kernel) rfl (Nat.le_of_ble_eq_true rfl) ?_
  intro F Z hl hR hD hcy hnw hnm
  subst hl hD hcy hnw
  have hRf : F.R.frames = 3 := by rw [hR]
  have hRc : F.R.cells = 81 := by rw [hR]
  have hRs : F.R.slots = 304 := by rw [hR]
  have hRl : F.R.locals = 61 := by rw [hR]
  have in2 : ∀ w ∈ u_ws RX2 TX2 2, w ∈ wsX3_init := by decide +kernel
  have in3 : ∀ w ∈ u_ws RX3 TX3 2, w ∈ wsX3_init := by decide +kernel
  have lk11 : Cond.fieldLink RX3 11 (TX3 0).1 (TX3 0).2.1 (TX3 0).2.2.1 ∈ wsX3_init := by decide +kernel
  have loop : ∀ (m j la : Nat) (T : PS), 9 - j < m → (Nx (fun a => a = p) S T ∧ la ∉ S.L ∧ la ∈ T.L ∧ T.K la = 11 ∧ T.ln la = 8 ∧ T.fr p 0 = some la ∧ T.fi p 1 = 0 ∧ j ≤ 8 ∧ ∀ i, i < j → ∃ s, T.rr la i = some s ∧ SetOK T F.nw s) → G F 2 T (1 + 9 * j) (8 + 37 * j) (QV F (fun T => Nx (fun a => a = p) S T ∧ ∃ la, la ∉ S.L ∧ PlAt T F.nw p la 0) 81 304) 15 [(0, .ref p), (1, .int (nI j))] [] := by
    intro m
    induction m with
    | zero => intros; omega
    | succ m ih =>
      intro j la T hm ⟨hN, hlS, hlL, hlK, hll, hpl, hpd, hj8, hrw⟩
      have hpL2 := (hN p hpL).1
      have hpK2 := (hN p hpL).2.1.trans hpK
      refine g_iload_n Z dX3_init_15 rfl ?_
      refine g_aload_n Z dX3_init_16 rfl ?_
      refine g_getr Z 3 0 rfl (by decide) in3 lk11 dX3_init_17 (by assumption) (by assumption) (by assumption) ?_
      refine g_alen11 Z dX3_init_20 (by assumption) (by assumption) ?_
      rw [hll]
      refine g_icmp_ge Z 43 dX3_init_21 (by decide) (fun h21 => ?_) (fun h21 => ?_)
      · have he : j = 8 := by have := ge_t (i := j) (N := 8) (by omega) (by decide) h21; omega
        subst he
        exact g_vret Z dX3_init_43 (by omega) (by omega) (⟨hN, la, hlS, hpL2, hpK2, hpl, ⟨hlL, hlK, hll, hrw⟩, hpd.trans rfl, by omega⟩)
      · have hlt : j < 8 := ge_f (by omega) (by decide) h21
        have hcj : (nI j).toNatClampNeg = j := nI_clamp (by omega)
        refine g_aload_n Z dX3_init_24 rfl ?_
        refine g_getr Z 3 0 rfl (by decide) in3 lk11 dX3_init_25 (by assumption) (by assumption) (by assumption) ?_
        refine g_iload_n Z dX3_init_28 rfl ?_
        refine g_new Z 2 rfl (by decide) tyX2 tyX2_ok in2 fs2 (by decide +kernel) (by decide +kernel) (by decide +kernel) dX3_init_29 (by rw [hRc]; omega) (by rw [hRs]; omega) (fun q hq => ?_)
        refine g_dup Z dX3_init_32 rfl ?_
        refine g_ci Z (c_X2_init F.l F.D F.cy F.nw _ q (in_new (κ := 2)) K_new (congrFun (va_up_self _ _ _) 1)) 0 gX3_init_X2_init rfl (by decide +kernel) (by decide +kernel) (by decide +kernel) rfl (by decide +kernel) (by rw [hRf, hRl]; decide) rfl rfl (Nat.le_of_ble_eq_true rfl) dX3_init_33 (by rw [hRc, hRs]; omega) (fun T2 hp => ?_)
        obtain ⟨hN1, its, hset⟩ := hp
        obtain ⟨hN2, hlL2, hlK2, hll2, hrw2, hlLa, hlKa, hlla⟩ := sa_step (j := j) hq hN1 hset hlL hlK hll hrw
        have hpa : p ≠ la := ne_mem hlS hpL
        refine g_aast11 Z dX3_init_36 (by exact hlLa) (by exact hlKa) (by exact vin_of hlla hlt (by decide)) (by exact hset.1) (by exact hset.2.1) ?_
        rw [hcj]
        refine g_iinc (c := 1) Z dX3_init_37 rfl (by decide) (by decide) ?_
        rw [nI_1]
        refine g_goto Z 15 dX3_init_40 (by decide) ?_
        exact g_widen (by omega) (by omega) (g_lv (by (repeat (first | exact trivial | refine And.intro rfl ?_)); done) (ih (j + 1) la _ (by omega) ⟨hN.sub hN2 (fun a e => Or.inr (by rw [e]; exact hlS)), hlS, hlL2, hlK2, hll2, (congrFun ((hN2 p hpL2).2.2.2 hpa).2.1 0).trans hpl, (congrFun ((hN2 p hpL2).2.2.2 hpa).1 1).trans hpd, by omega, hrw2⟩))
  refine g_aload_n Z dX3_init_0 rfl ?_
  refine g_objinit Z (by decide +kernel) (by decide +kernel) (by decide +kernel) dX3_init_1 (by rw [hRf]; decide) (by rw [hRl]; decide) (by decide) ?_
  refine g_aload_n Z dX3_init_4 rfl ?_
  refine g_bipush (v := 8) Z dX3_init_5 (by decide) ?_
  refine g_newq11 Z 8 dX3_init_7 (by decide +kernel) (by decide) (by decide) (by decide) (by rw [hRc]; decide) (by rw [hRs]; decide) (fun q hq => ?_)
  refine g_putFr Z 3 0 rfl (by decide) tyX3 tyX3_ok nmX3 rfl in3 lk11 dX3_init_10 hnm rfl rfl rfl (by exact List.mem_append_left _ hpL) (by exact (va_up_ne _ _ (ne_mem hq hpL)).trans hpK) ?_
  refine g_iconst (v := 0) Z dX3_init_13 (by decide) ?_
  refine g_istore_n Z dX3_init_14 (by decide) ?_
  exact g_widen (by omega) (by omega) (g_lv (by (repeat (first | exact trivial | refine And.intro rfl ?_)); done) (loop 10 0 q _ (by omega) ⟨(Nx.rf.newA hq).setR (Or.inl rfl), hq, in_newA (κ := 11) (n := 8), K_newA (n := 8), va_up_self _ _ _, up2_self _ _ _ _, hpu0, by omega, fun i hi => by omega⟩))

set_option maxRecDepth 100000 in
set_option maxHeartbeats 2000000 in
/-- a new index -/
theorem c_X6_init (l : Launch) (D : va_G) (cy : Nat → ClassId) (nw : Nat) (S : PS) (x : Nat) (hxL : x ∈ S.L) (hxK : S.K x = 5) : kV l yX6_init wsX6_init 4 82 D cy nw [.ref x] S (fun T => ∃ sa sp pl la br h rd rk rt, XA T nw x sa sp pl la br h 1024 0 rd rk rt 300) 170 1727 := by
  refine enterV (cc := cX6_init) (nL := 2) (ret := none) (by decide +kernel) rfl (Nat.le_of_ble_eq_true rfl) ?_
  intro F Z hl hR hD hcy hnw hnm
  subst hl hD hcy hnw
  have hRf : F.R.frames = 4 := by rw [hR]
  have hRc : F.R.cells = 170 := by rw [hR]
  have hRs : F.R.slots = 1727 := by rw [hR]
  have hRl : F.R.locals = 82 := by rw [hR]
  have in0 : ∀ w ∈ u_ws RX0 TX0 2, w ∈ wsX6_init := by decide +kernel
  have in2 : ∀ w ∈ u_ws RX2 TX2 2, w ∈ wsX6_init := by decide +kernel
  have in3 : ∀ w ∈ u_ws RX3 TX3 2, w ∈ wsX6_init := by decide +kernel
  have in4 : ∀ w ∈ u_ws RX4 TX4 10, w ∈ wsX6_init := by decide +kernel
  have in5 : ∀ w ∈ u_ws RX6 TX6 6, w ∈ wsX6_init := by decide +kernel
  have lk11 : Cond.fieldLink RX6 11 (TX6 0).1 (TX6 0).2.1 (TX6 0).2.2.1 ∈ wsX6_init := by decide +kernel
  have lk16 : Cond.fieldLink RX6 16 (TX6 1).1 (TX6 1).2.1 (TX6 1).2.2.1 ∈ wsX6_init := by decide +kernel
  have lk23 : Cond.fieldLink RX6 23 (TX6 2).1 (TX6 2).2.1 (TX6 2).2.2.1 ∈ wsX6_init := by decide +kernel
  have lk30 : Cond.fieldLink RX6 30 (TX6 3).1 (TX6 3).2.1 (TX6 3).2.2.1 ∈ wsX6_init := by decide +kernel
  have lk37 : Cond.fieldLink RX6 37 (TX6 4).1 (TX6 4).2.1 (TX6 4).2.2.1 ∈ wsX6_init := by decide +kernel
  have lk41 : Cond.fieldLink RX6 41 (TX6 5).1 (TX6 5).2.1 (TX6 5).2.2.1 ∈ wsX6_init := by decide +kernel
  have loop : ∀ (m j sa sp pl la br h rd rk rt : Nat) (T : PS), 9 - j < m → (x ∈ T.L ∧ T.K x = 5 ∧ T.fr x 0 = some sa ∧ T.fr x 1 = some sp ∧ T.fr x 2 = some pl ∧ T.fr x 3 = some br ∧ T.fr x 4 = some rd ∧ T.fi x 5 = nI 300 ∧ SetOK T F.nw sp ∧ PlAt T F.nw pl la 0 ∧ la ≠ sa ∧ BytesAt T br h 1024 0 ∧ RdW T rd rk rt ∧ sa ∈ T.L ∧ T.K sa = 11 ∧ T.ln sa = 8 ∧ j ≤ 8 ∧ ∀ i, i < j → ∃ s, T.rr sa i = some s ∧ SetOK T F.nw s) → G F 2 T (98 + 9 * j) (1431 + 37 * j) (QV F (fun T => ∃ sa sp pl la br h rd rk rt, XA T F.nw x sa sp pl la br h 1024 0 rd rk rt 300) 170 1727) 66 [(0, .ref x), (1, .int (nI j))] [] := by
    intro m
    induction m with
    | zero => intros; omega
    | succ m ih =>
      intro j sa sp pl la br h rd rk rt T hm ⟨xL, xK, x0, x1, x2, x3, x4, x5, hsp, hpl, hla, hby, hrd, hlL, hlK, hll, hj8, hrw⟩
      refine g_iload_n Z dX6_init_66 rfl ?_
      refine g_bipush (v := 8) Z dX6_init_67 (by decide) ?_
      refine g_icmp_ge Z 91 dX6_init_69 (by decide) (fun h69 => ?_) (fun h69 => ?_)
      · have he : j = 8 := by have := ge_t (i := j) (N := 8) (by omega) (by decide) h69; omega
        subst he
        exact g_vret Z dX6_init_91 (by omega) (by omega) (⟨sa, sp, pl, la, br, h, rd, rk, rt, xL, xK, x0, x1, x2, x3, x4, x5, by decide, ⟨hlL, hlK, hll, hrw⟩, hsp, ⟨0, hpl⟩, hby, hrd⟩)
      · have hlt : j < 8 := ge_f (N := 8) (by omega) (by decide) h69
        have hcj : (nI j).toNatClampNeg = j := nI_clamp (by omega)
        refine g_aload_n Z dX6_init_72 rfl ?_
        refine g_getr Z 5 0 rfl (by decide) in5 lk11 dX6_init_73 (by assumption) (by assumption) (by assumption) ?_
        refine g_iload_n Z dX6_init_76 rfl ?_
        refine g_new Z 2 rfl (by decide) tyX2 tyX2_ok in2 fs2 (by decide +kernel) (by decide +kernel) (by decide +kernel) dX6_init_77 (by rw [hRc]; omega) (by rw [hRs]; omega) (fun q hq => ?_)
        refine g_dup Z dX6_init_80 rfl ?_
        refine g_ci Z (c_X2_init F.l F.D F.cy F.nw _ q (in_new (κ := 2)) K_new (congrFun (va_up_self _ _ _) 1)) 0 gX6_init_X2_init rfl (by decide +kernel) (by decide +kernel) (by decide +kernel) rfl (by decide +kernel) (by rw [hRf, hRl]; decide) rfl rfl (Nat.le_of_ble_eq_true rfl) dX6_init_81 (by rw [hRc, hRs]; omega) (fun T2 hp => ?_)
        obtain ⟨hN1, its, hset⟩ := hp
        obtain ⟨hN2, hlL2, hlK2, hll2, hrw2, hlLa, hlKa, hlla⟩ := sa_step (j := j) hq hN1 hset hlL hlK hll hrw
        have hxa : x ≠ sa := fun e => by rw [e] at xK; rw [xK] at hlK; exact absurd hlK (by decide)
        have hR : Rl (fun κ => κ = 11) T (T2.rowR sa (va_up (T2.rr sa) j (some q))) := hN2.rl (fun a _ e => by rw [e]; exact hlK)
        obtain ⟨n1, n2, -, n4⟩ := hN2 x xL
        obtain ⟨n5, n6, -⟩ := n4 hxa
        refine g_aast11 Z dX6_init_84 (by exact hlLa) (by exact hlKa) (by exact vin_of hlla hlt (by decide)) (by exact hset.1) (by exact hset.2.1) ?_
        rw [hcj]
        refine g_iinc (c := 1) Z dX6_init_85 rfl (by decide) (by decide) ?_
        rw [nI_1]
        refine g_goto Z 66 dX6_init_88 (by decide) ?_
        exact g_widen (by omega) (by omega) (g_lv (by (repeat (first | exact trivial | refine And.intro rfl ?_)); done) (ih (j + 1) sa sp pl la br h rd rk rt _ (by omega) ⟨n1, n2.trans xK, by rw [n6]; exact x0, by rw [n6]; exact x1, by rw [n6]; exact x2, by rw [n6]; exact x3, by rw [n6]; exact x4, by rw [n5]; exact x5, hsp.elim fun it ⟨u, k⟩ => ⟨it, u, hR.set (by decide) (by decide) (by decide) k⟩, Rl11.pl hN2 hlK hla hpl, hla, hR.bytes (by decide) (by decide) hby, hR.rdw (by decide) (by decide) hrd, hlL2, hlK2, hll2, by omega, hrw2⟩))
  refine g_aload_n Z dX6_init_0 rfl ?_
  refine g_objinit Z (by decide +kernel) (by decide +kernel) (by decide +kernel) dX6_init_1 (by rw [hRf]; decide) (by rw [hRl]; decide) (by decide) ?_
  refine g_aload_n Z dX6_init_4 rfl ?_
  refine g_bipush (v := 8) Z dX6_init_5 (by decide) ?_
  refine g_newq11 Z 8 dX6_init_7 (by decide +kernel) (by decide) (by decide) (by decide) (by rw [hRc]; decide) (by rw [hRs]; decide) (fun sa hsa => ?_)
  refine g_putFr Z 5 0 rfl (by decide) tyX6 tyX6_ok nmX6 rfl in5 lk11 dX6_init_10 hnm rfl rfl rfl (by exact List.mem_append_left _ hxL) (by exact (va_up_ne _ _ (ne_mem hsa hxL)).trans hxK) ?_
  obtain ⟨T1, hT1⟩ : ∃ T1, T1 = (S.newA sa 11 8).setR x 0 (some sa) := ⟨_, rfl⟩
  have a1 : x ∈ T1.L := by rw [hT1]; exact List.mem_append_left _ hxL
  have a2 : T1.K x = 5 := by rw [hT1]; exact (va_up_ne _ _ (ne_mem hsa hxL)).trans hxK
  have a3 : T1.fr x 0 = some sa := by rw [hT1]; exact up2_self _ _ _ _
  have a4 : sa ∈ T1.L := by rw [hT1]; exact in_newA (κ := 11) (n := 8)
  have a5 : T1.K sa = 11 := by rw [hT1]; exact K_newA (n := 8)
  have a6 : T1.ln sa = 8 := by rw [hT1]; exact va_up_self _ _ _
  rw [← hT1]
  refine g_aload_n Z dX6_init_13 rfl ?_
  refine g_new Z 2 rfl (by decide) tyX2 tyX2_ok in2 fs2 (by decide +kernel) (by decide +kernel) (by decide +kernel) dX6_init_14 (by rw [hRc]; omega) (by rw [hRs]; omega) (fun sp hsp => ?_)
  refine g_dup Z dX6_init_17 rfl ?_
  refine g_ci Z (c_X2_init F.l F.D F.cy F.nw _ sp (in_new (κ := 2)) K_new (congrFun (va_up_self _ _ _) 1)) 0 gX6_init_X2_init rfl (by decide +kernel) (by decide +kernel) (by decide +kernel) rfl (by decide +kernel) (by rw [hRf, hRl]; decide) rfl rfl (Nat.le_of_ble_eq_true rfl) dX6_init_18 (by rw [hRc, hRs]; omega) (fun T2 hp => ?_)
  obtain ⟨hN1, its, hset⟩ := hp
  obtain ⟨b1, b2, b3, b4, b5, b6, b7, b8, b9⟩ := ini_obj (i := 1) (v := some sp) hsp a1 a2 hN1
  have bs := b2.set (by decide) (by decide) (by decide) hset
  obtain ⟨bl1, bl2, bl3, -⟩ := b1 sa a4
  refine g_putFr Z 5 1 rfl (by decide) tyX6 tyX6_ok nmX6 rfl in5 lk16 dX6_init_21 hnm rfl rfl rfl (by exact b8) (by exact b9) ?_
  obtain ⟨T3, hT3⟩ : ∃ T3, T3 = T2.setR x 1 (some sp) := ⟨_, rfl⟩
  rw [← hT3] at b1 b2 b3 b4 b5 b6 b7 bs bl1 bl2 bl3
  rw [← hT3]
  refine g_aload_n Z dX6_init_24 rfl ?_
  refine g_new Z 3 rfl (by decide) tyX3 tyX3_ok in3 fs3 (by decide +kernel) (by decide +kernel) (by decide +kernel) dX6_init_25 (by rw [hRc]; omega) (by rw [hRs]; omega) (fun pl hpl => ?_)
  refine g_dup Z dX6_init_28 rfl ?_
  refine g_ci Z (c_X3_init F.l F.D F.cy F.nw _ pl (in_new (κ := 3)) K_new (congrFun (va_up_self _ _ _) 1)) 0 gX6_init_X3_init rfl (by decide +kernel) (by decide +kernel) (by decide +kernel) rfl (by decide +kernel) (by rw [hRf, hRl]; decide) rfl rfl (Nat.le_of_ble_eq_true rfl) dX6_init_29 (by rw [hRc, hRs]; omega) (fun T4 hp => ?_)
  obtain ⟨hN2, la, hlaS, hpla⟩ := hp
  obtain ⟨c1, c2, c3, c4, c5, c6, c7, c8, c9⟩ := ini_obj (i := 2) (v := some pl) hpl b6 b7 hN2
  have cp := Rl5.pl c2 hpla
  obtain ⟨cl1, cl2, cl3, -⟩ := c1 sa bl1
  have hla : la ≠ sa := fun e => hlaS (by rw [e]; exact List.mem_append_left _ bl1)
  have cs := c1.set (by decide) (by decide) (by decide) bs
  refine g_putFr Z 5 2 rfl (by decide) tyX6 tyX6_ok nmX6 rfl in5 lk23 dX6_init_32 hnm rfl rfl rfl (by exact c8) (by exact c9) ?_
  obtain ⟨T5, hT5⟩ : ∃ T5, T5 = T4.setR x 2 (some pl) := ⟨_, rfl⟩
  rw [← hT5] at c1 c2 c3 c4 c5 c6 c7 cp cs cl1 cl2 cl3
  rw [← hT5]
  refine g_aload_n Z dX6_init_35 rfl ?_
  refine g_new Z 0 rfl (by decide) tyX0 tyX0_ok in0 fs0 (by decide +kernel) (by decide +kernel) (by decide +kernel) dX6_init_36 (by rw [hRc]; omega) (by rw [hRs]; omega) (fun br hbr => ?_)
  refine g_dup Z dX6_init_39 rfl ?_
  refine g_ciN Z (c_X0_init F.l F.D F.cy F.nw _ br (in_new (κ := 0)) K_new) 0 gX6_init_X0_init_n29 rfl (by decide +kernel) Z.2.2.2.2.2.2.2.2.2.1.1.2.2.1 (by decide +kernel) rfl (by decide +kernel) (by rw [hRf, hRl]; decide) rfl rfl (Nat.le_of_ble_eq_true rfl) dX6_init_40 (by rw [hRc, hRs]; omega) (fun T6 hp => ?_)
  obtain ⟨h, hh, hT6⟩ := hp
  have hN3 : Nx (fun a => a = br) (T5.newO br 0) T6 := by rw [hT6]; exact (Nx.rf.newA hh).setR (Or.inl rfl)
  obtain ⟨e1, e2, e3, e4, e5, e6, e7, e8, e9⟩ := ini_obj (i := 3) (v := some br) hbr c6 c7 hN3
  have hb0 : BytesAt T6 br h 1024 0 := by rw [hT6]; exact by_new hh
  have eb := e2.bytes (by decide) (by decide) hb0
  obtain ⟨el1, el2, el3, -⟩ := e1 sa cl1
  have es := e1.set (by decide) (by decide) (by decide) cs
  have ep := Rl5.pl e1 cp
  refine g_putFr Z 5 3 rfl (by decide) tyX6 tyX6_ok nmX6 rfl in5 lk30 dX6_init_43 hnm rfl rfl rfl (by exact e8) (by exact e9) ?_
  obtain ⟨T7, hT7⟩ : ∃ T7, T7 = T6.setR x 3 (some br) := ⟨_, rfl⟩
  rw [← hT7] at e1 e2 e3 e4 e5 e6 e7 eb es ep el1 el2 el3
  rw [← hT7]
  refine g_aload_n Z dX6_init_46 rfl ?_
  refine g_new Z 4 rfl (by decide) tyX4 tyX4_ok in4 fs4 (by decide +kernel) (by decide +kernel) (by decide +kernel) dX6_init_47 (by rw [hRc]; omega) (by rw [hRs]; omega) (fun rd hrd => ?_)
  refine g_dup Z dX6_init_50 rfl ?_
  refine g_ciN Z (c_X4_init F.l F.D F.cy F.nw _ rd (in_new (κ := 4)) K_new) 0 gX6_init_X4_init_n36 rfl (by decide +kernel) Z.2.2.2.2.2.2.2.2.2.1.1.2.2.2.1 (by decide +kernel) rfl (by decide +kernel) (by rw [hRf, hRl]; decide) rfl rfl (Nat.le_of_ble_eq_true rfl) dX6_init_51 (by rw [hRc, hRs]; omega) (fun T8 hp => ?_)
  obtain ⟨rk, rt, hk, ht, hT8⟩ := hp
  have hN4 : Nx (fun a => a = rd) (T7.newO rd 4) T8 := by rw [hT8]; exact (((Nx.rf (X := fun a => a = rd).newA hk).setR (X := fun a => a = rd) (Or.inl rfl)).newA ht).setR (Or.inl rfl)
  obtain ⟨f1, f2, f3, f4, f5, f6, f7, f8, f9⟩ := ini_obj (i := 4) (v := some rd) hrd e6 e7 hN4
  have hr0 : RdW T8 rd rk rt := by rw [hT8]; exact rd_new hk ht
  have fr := f2.rdw (by decide) (by decide) hr0
  obtain ⟨fl1, fl2, fl3, -⟩ := f1 sa el1
  have fs := f1.set (by decide) (by decide) (by decide) es
  have fp := Rl5.pl f1 ep
  have fb := f1.bytes (by decide) (by decide) eb
  refine g_putFr Z 5 4 rfl (by decide) tyX6 tyX6_ok nmX6 rfl in5 lk37 dX6_init_54 hnm rfl rfl rfl (by exact f8) (by exact f9) ?_
  obtain ⟨T9, hT9⟩ : ∃ T9, T9 = T8.setR x 4 (some rd) := ⟨_, rfl⟩
  rw [← hT9] at f1 f2 f3 f4 f5 f6 f7 fr fs fp fb fl1 fl2 fl3
  rw [← hT9]
  refine g_aload_n Z dX6_init_57 rfl ?_
  refine g_sipush (v := 300) Z dX6_init_58 (by decide) ?_
  refine g_puti Z 5 5 rfl (by decide) tyX6 tyX6_ok nmX6 rfl in5 lk41 dX6_init_61 rfl rfl (by exact f6) (by exact f7) ?_
  have gR : Rl (fun κ => κ = 5) T9 (T9.setI x 5 300) := Rl.rf.setI f7
  refine g_iconst (v := 0) Z dX6_init_64 (by decide) ?_
  refine g_istore_n Z dX6_init_65 (by decide) ?_
  exact g_widen (by omega) (by omega) (g_lv (by (repeat (first | exact trivial | refine And.intro rfl ?_)); done) (loop 10 0 sa sp pl la br h rd rk rt _ (by omega) ⟨f6, f7, (f3 0 (by decide)).trans ((e3 0 (by decide)).trans ((c3 0 (by decide)).trans ((b3 0 (by decide)).trans a3))), (f3 1 (by decide)).trans ((e3 1 (by decide)).trans ((c3 1 (by decide)).trans b4)), (f3 2 (by decide)).trans ((e3 2 (by decide)).trans c4), (f3 3 (by decide)).trans e4, f4, up2_self _ _ _ _, ⟨its, 0, gR.set (by decide) (by decide) (by decide) fs⟩, Rl5.pl gR fp, hla, gR.bytes (by decide) (by decide) fb, gR.rdw (by decide) (by decide) fr, fl1, fl2.trans (el2.trans (cl2.trans (bl2.trans a5))), fl3.trans (el3.trans (cl3.trans (bl3.trans a6))), by omega, fun i hi => by omega⟩))
