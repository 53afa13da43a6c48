/-! THE REFERENCE'S STATE: the sets (how many, keys, kinds, sizes, words), and the rest -/
abbrev C5 : Type := (Nat → Int32) × (Nat → Int32) × (Nat → Int32) × (Nat → Int32) × (Nat → Int64)
abbrev MR : Type := Int32 × Int32 × (Nat → Int32) × Int32 × Int32 × Int32 × Int32 × (Nat → Int32) × (Nat → Int64) × (Nat → Int32) × Int32
abbrev MS : Type := C5 × MR
abbrev C5.mn (C : C5) : Nat → Int32 := C.1
abbrev C5.ky (C : C5) : Nat → Int32 := C.2.1
abbrev C5.kd (C : C5) : Nat → Int32 := C.2.2.1
abbrev C5.sz (C : C5) : Nat → Int32 := C.2.2.2.1
abbrev C5.wd (C : C5) : Nat → Int64 := C.2.2.2.2
abbrev MR.wk (R : MR) : Int32 := R.1
abbrev MR.si (R : MR) : Int32 := R.2.1
abbrev MR.bt (R : MR) : Nat → Int32 := R.2.2.1
abbrev MR.ou (R : MR) : Int32 := R.2.2.2.1
abbrev MR.fa (R : MR) : Int32 := R.2.2.2.2.1
abbrev MR.fp (R : MR) : Int32 := R.2.2.2.2.2.1
abbrev MR.aa (R : MR) : Int32 := R.2.2.2.2.2.2.1
abbrev MR.pl (R : MR) : Nat → Int32 := R.2.2.2.2.2.2.2.1
abbrev MR.tl (R : MR) : Nat → Int64 := R.2.2.2.2.2.2.2.2.1
abbrev MR.hd (R : MR) : Nat → Int32 := R.2.2.2.2.2.2.2.2.2.1
abbrev MR.bi (R : MR) : Int32 := R.2.2.2.2.2.2.2.2.2.2
abbrev C5.s_mn (C : C5) (v : Nat → Int32) : C5 := (v, C.ky, C.kd, C.sz, C.wd)
abbrev C5.s_ky (C : C5) (v : Nat → Int32) : C5 := (C.mn, v, C.kd, C.sz, C.wd)
abbrev C5.s_kd (C : C5) (v : Nat → Int32) : C5 := (C.mn, C.ky, v, C.sz, C.wd)
abbrev C5.s_sz (C : C5) (v : Nat → Int32) : C5 := (C.mn, C.ky, C.kd, v, C.wd)
abbrev C5.s_wd (C : C5) (v : Nat → Int64) : C5 := (C.mn, C.ky, C.kd, C.sz, v)
abbrev MR.s_wk (R : MR) (v : Int32) : MR := (v, R.si, R.bt, R.ou, R.fa, R.fp, R.aa, R.pl, R.tl, R.hd, R.bi)
abbrev MR.s_si (R : MR) (v : Int32) : MR := (R.wk, v, R.bt, R.ou, R.fa, R.fp, R.aa, R.pl, R.tl, R.hd, R.bi)
abbrev MR.s_bt (R : MR) (v : Nat → Int32) : MR := (R.wk, R.si, v, R.ou, R.fa, R.fp, R.aa, R.pl, R.tl, R.hd, R.bi)
abbrev MR.s_ou (R : MR) (v : Int32) : MR := (R.wk, R.si, R.bt, v, R.fa, R.fp, R.aa, R.pl, R.tl, R.hd, R.bi)
abbrev MR.s_fa (R : MR) (v : Int32) : MR := (R.wk, R.si, R.bt, R.ou, v, R.fp, R.aa, R.pl, R.tl, R.hd, R.bi)
abbrev MR.s_fp (R : MR) (v : Int32) : MR := (R.wk, R.si, R.bt, R.ou, R.fa, v, R.aa, R.pl, R.tl, R.hd, R.bi)
abbrev MR.s_aa (R : MR) (v : Int32) : MR := (R.wk, R.si, R.bt, R.ou, R.fa, R.fp, v, R.pl, R.tl, R.hd, R.bi)
abbrev MR.s_pl (R : MR) (v : Nat → Int32) : MR := (R.wk, R.si, R.bt, R.ou, R.fa, R.fp, R.aa, v, R.tl, R.hd, R.bi)
abbrev MR.s_tl (R : MR) (v : Nat → Int64) : MR := (R.wk, R.si, R.bt, R.ou, R.fa, R.fp, R.aa, R.pl, v, R.hd, R.bi)
abbrev MR.s_hd (R : MR) (v : Nat → Int32) : MR := (R.wk, R.si, R.bt, R.ou, R.fa, R.fp, R.aa, R.pl, R.tl, v, R.bi)
abbrev MR.s_bi (R : MR) (v : Int32) : MR := (R.wk, R.si, R.bt, R.ou, R.fa, R.fp, R.aa, R.pl, R.tl, R.hd, v)
/-- ten cells, no two the same -/
def mOk (A : Nat → Nat) (x : Nat) : Prop := ([x, A 0, A 1, A 2, A 3, A 4, A 7, A 12, A 13, A 14] : List Nat).Nodup
def mfi (M : MS) : Nat → Int32 := fun i => match i with | 5 => M.2.wk | 6 => M.2.si | 8 => M.2.ou | 9 => M.2.fa | 10 => M.2.fp | 11 => M.2.aa | 15 => M.2.bi | _ => 0
def mP (A : Nat → Nat) (x : Nat) (M : MS) : PS :=
  ([x, A 0, A 1, A 2, A 3, A 4, A 7, A 12, A 13, A 14], fun a => if a = x then 6 else if a = A 4 then 9 else if a = A 13 then 9 else 8, fun a i => if a = x then mfi M i else 0, fun _ i => some (A i),
   fun a => if a = A 0 then 17 else if a = A 4 then 104448 else if a = A 7 then 60000 else if a = A 12 then 6 else if a = A 13 then 6 else if a = A 14 then 6 else 102,
   fun a => if a = A 0 then M.1.mn else if a = A 1 then M.1.ky else if a = A 2 then M.1.kd else if a = A 3 then M.1.sz else if a = A 7 then M.2.bt else if a = A 12 then M.2.pl else if a = A 14 then M.2.hd else fun _ => 0, fun a => if a = A 4 then M.1.wd else if a = A 13 then M.2.tl else fun _ => 0, fun _ _ => none)
section MP
variable {A : Nat → Nat} {x : Nat} {M : MS}
theorem mP_x : x ∈ (mP A x M).L := List.mem_cons_self
theorem mP_Kx : (mP A x M).K x = 6 := if_pos rfl
theorem mOk_ne (h : mOk A x) : x ≠ A 0 ∧ x ≠ A 1 ∧ x ≠ A 2 ∧ x ≠ A 3 ∧ x ≠ A 4 ∧ x ≠ A 7 ∧ x ≠ A 12 ∧ x ≠ A 13 ∧ x ≠ A 14 ∧ A 0 ≠ A 1 ∧ A 0 ≠ A 2 ∧ A 0 ≠ A 3 ∧ A 0 ≠ A 4 ∧ A 0 ≠ A 7 ∧ A 0 ≠ A 12 ∧ A 0 ≠ A 13 ∧ A 0 ≠ A 14 ∧ A 1 ≠ A 2 ∧ A 1 ≠ A 3 ∧ A 1 ≠ A 4 ∧ A 1 ≠ A 7 ∧ A 1 ≠ A 12 ∧ A 1 ≠ A 13 ∧ A 1 ≠ A 14 ∧ A 2 ≠ A 3 ∧ A 2 ≠ A 4 ∧ A 2 ≠ A 7 ∧ A 2 ≠ A 12 ∧ A 2 ≠ A 13 ∧ A 2 ≠ A 14 ∧ A 3 ≠ A 4 ∧ A 3 ≠ A 7 ∧ A 3 ≠ A 12 ∧ A 3 ≠ A 13 ∧ A 3 ≠ A 14 ∧ A 4 ≠ A 7 ∧ A 4 ≠ A 12 ∧ A 4 ≠ A 13 ∧ A 4 ≠ A 14 ∧ A 7 ≠ A 12 ∧ A 7 ≠ A 13 ∧ A 7 ≠ A 14 ∧ A 12 ≠ A 13 ∧ A 12 ≠ A 14 ∧ A 13 ≠ A 14 := by
  unfold mOk at h
  simp only [List.nodup_cons, List.mem_cons, List.not_mem_nil, not_or, or_false] at h
  obtain ⟨h1, h2, h3, h4, h5, h6, h7, h8, h9, -⟩ := h
  simp_all
theorem mP_in_mn : A 0 ∈ (mP A x M).L := by
  show A 0 ∈ [x, A 0, A 1, A 2, A 3, A 4, A 7, A 12, A 13, A 14]
  simp
theorem mP_K_mn (h : mOk A x) : (mP A x M).K (A 0) = 8 := by
  obtain ⟨n_x_0, n_x_1, n_x_2, n_x_3, n_x_4, n_x_7, n_x_12, n_x_13, n_x_14, n_0_1, n_0_2, n_0_3, n_0_4, n_0_7, n_0_12, n_0_13, n_0_14, n_1_2, n_1_3, n_1_4, n_1_7, n_1_12, n_1_13, n_1_14, n_2_3, n_2_4, n_2_7, n_2_12, n_2_13, n_2_14, n_3_4, n_3_7, n_3_12, n_3_13, n_3_14, n_4_7, n_4_12, n_4_13, n_4_14, n_7_12, n_7_13, n_7_14, n_12_13, n_12_14, n_13_14⟩ := mOk_ne h
  show (if A 0 = x then 6 else if A 0 = A 4 then 9 else if A 0 = A 13 then 9 else 8) = _
  simp [n_x_0, n_x_0.symm, n_x_1, n_x_1.symm, n_x_2, n_x_2.symm, n_x_3, n_x_3.symm, n_x_4, n_x_4.symm, n_x_7, n_x_7.symm, n_x_12, n_x_12.symm, n_x_13, n_x_13.symm, n_x_14, n_x_14.symm, n_0_1, n_0_1.symm, n_0_2, n_0_2.symm, n_0_3, n_0_3.symm, n_0_4, n_0_4.symm, n_0_7, n_0_7.symm, n_0_12, n_0_12.symm, n_0_13, n_0_13.symm, n_0_14, n_0_14.symm, n_1_2, n_1_2.symm, n_1_3, n_1_3.symm, n_1_4, n_1_4.symm, n_1_7, n_1_7.symm, n_1_12, n_1_12.symm, n_1_13, n_1_13.symm, n_1_14, n_1_14.symm, n_2_3, n_2_3.symm, n_2_4, n_2_4.symm, n_2_7, n_2_7.symm, n_2_12, n_2_12.symm, n_2_13, n_2_13.symm, n_2_14, n_2_14.symm, n_3_4, n_3_4.symm, n_3_7, n_3_7.symm, n_3_12, n_3_12.symm, n_3_13, n_3_13.symm, n_3_14, n_3_14.symm, n_4_7, n_4_7.symm, n_4_12, n_4_12.symm, n_4_13, n_4_13.symm, n_4_14, n_4_14.symm, n_7_12, n_7_12.symm, n_7_13, n_7_13.symm, n_7_14, n_7_14.symm, n_12_13, n_12_13.symm, n_12_14, n_12_14.symm, n_13_14, n_13_14.symm]
theorem mP_ln_mn (h : mOk A x) : (mP A x M).ln (A 0) = 17 := by
  obtain ⟨n_x_0, n_x_1, n_x_2, n_x_3, n_x_4, n_x_7, n_x_12, n_x_13, n_x_14, n_0_1, n_0_2, n_0_3, n_0_4, n_0_7, n_0_12, n_0_13, n_0_14, n_1_2, n_1_3, n_1_4, n_1_7, n_1_12, n_1_13, n_1_14, n_2_3, n_2_4, n_2_7, n_2_12, n_2_13, n_2_14, n_3_4, n_3_7, n_3_12, n_3_13, n_3_14, n_4_7, n_4_12, n_4_13, n_4_14, n_7_12, n_7_13, n_7_14, n_12_13, n_12_14, n_13_14⟩ := mOk_ne h
  show (if A 0 = A 0 then 17 else if A 0 = A 4 then 104448 else if A 0 = A 7 then 60000 else if A 0 = A 12 then 6 else if A 0 = A 13 then 6 else if A 0 = A 14 then 6 else 102) = _
  simp [n_x_0, n_x_0.symm, n_x_1, n_x_1.symm, n_x_2, n_x_2.symm, n_x_3, n_x_3.symm, n_x_4, n_x_4.symm, n_x_7, n_x_7.symm, n_x_12, n_x_12.symm, n_x_13, n_x_13.symm, n_x_14, n_x_14.symm, n_0_1, n_0_1.symm, n_0_2, n_0_2.symm, n_0_3, n_0_3.symm, n_0_4, n_0_4.symm, n_0_7, n_0_7.symm, n_0_12, n_0_12.symm, n_0_13, n_0_13.symm, n_0_14, n_0_14.symm, n_1_2, n_1_2.symm, n_1_3, n_1_3.symm, n_1_4, n_1_4.symm, n_1_7, n_1_7.symm, n_1_12, n_1_12.symm, n_1_13, n_1_13.symm, n_1_14, n_1_14.symm, n_2_3, n_2_3.symm, n_2_4, n_2_4.symm, n_2_7, n_2_7.symm, n_2_12, n_2_12.symm, n_2_13, n_2_13.symm, n_2_14, n_2_14.symm, n_3_4, n_3_4.symm, n_3_7, n_3_7.symm, n_3_12, n_3_12.symm, n_3_13, n_3_13.symm, n_3_14, n_3_14.symm, n_4_7, n_4_7.symm, n_4_12, n_4_12.symm, n_4_13, n_4_13.symm, n_4_14, n_4_14.symm, n_7_12, n_7_12.symm, n_7_13, n_7_13.symm, n_7_14, n_7_14.symm, n_12_13, n_12_13.symm, n_12_14, n_12_14.symm, n_13_14, n_13_14.symm]
theorem mP_ri_mn (h : mOk A x) : (mP A x M).ri (A 0) = M.1.mn := by
  obtain ⟨n_x_0, n_x_1, n_x_2, n_x_3, n_x_4, n_x_7, n_x_12, n_x_13, n_x_14, n_0_1, n_0_2, n_0_3, n_0_4, n_0_7, n_0_12, n_0_13, n_0_14, n_1_2, n_1_3, n_1_4, n_1_7, n_1_12, n_1_13, n_1_14, n_2_3, n_2_4, n_2_7, n_2_12, n_2_13, n_2_14, n_3_4, n_3_7, n_3_12, n_3_13, n_3_14, n_4_7, n_4_12, n_4_13, n_4_14, n_7_12, n_7_13, n_7_14, n_12_13, n_12_14, n_13_14⟩ := mOk_ne h
  show (if A 0 = A 0 then M.1.mn else if A 0 = A 1 then M.1.ky else if A 0 = A 2 then M.1.kd else if A 0 = A 3 then M.1.sz else if A 0 = A 7 then M.2.bt else if A 0 = A 12 then M.2.pl else if A 0 = A 14 then M.2.hd else fun _ => 0) = _
  simp [n_x_0, n_x_0.symm, n_x_1, n_x_1.symm, n_x_2, n_x_2.symm, n_x_3, n_x_3.symm, n_x_4, n_x_4.symm, n_x_7, n_x_7.symm, n_x_12, n_x_12.symm, n_x_13, n_x_13.symm, n_x_14, n_x_14.symm, n_0_1, n_0_1.symm, n_0_2, n_0_2.symm, n_0_3, n_0_3.symm, n_0_4, n_0_4.symm, n_0_7, n_0_7.symm, n_0_12, n_0_12.symm, n_0_13, n_0_13.symm, n_0_14, n_0_14.symm, n_1_2, n_1_2.symm, n_1_3, n_1_3.symm, n_1_4, n_1_4.symm, n_1_7, n_1_7.symm, n_1_12, n_1_12.symm, n_1_13, n_1_13.symm, n_1_14, n_1_14.symm, n_2_3, n_2_3.symm, n_2_4, n_2_4.symm, n_2_7, n_2_7.symm, n_2_12, n_2_12.symm, n_2_13, n_2_13.symm, n_2_14, n_2_14.symm, n_3_4, n_3_4.symm, n_3_7, n_3_7.symm, n_3_12, n_3_12.symm, n_3_13, n_3_13.symm, n_3_14, n_3_14.symm, n_4_7, n_4_7.symm, n_4_12, n_4_12.symm, n_4_13, n_4_13.symm, n_4_14, n_4_14.symm, n_7_12, n_7_12.symm, n_7_13, n_7_13.symm, n_7_14, n_7_14.symm, n_12_13, n_12_13.symm, n_12_14, n_12_14.symm, n_13_14, n_13_14.symm]
theorem mP_st_mn (h : mOk A x) (g : Nat → Int32) : (mP A x M).rowI (A 0) g = mP A x (M.1.s_mn g, M.2) := by
  obtain ⟨n_x_0, n_x_1, n_x_2, n_x_3, n_x_4, n_x_7, n_x_12, n_x_13, n_x_14, n_0_1, n_0_2, n_0_3, n_0_4, n_0_7, n_0_12, n_0_13, n_0_14, n_1_2, n_1_3, n_1_4, n_1_7, n_1_12, n_1_13, n_1_14, n_2_3, n_2_4, n_2_7, n_2_12, n_2_13, n_2_14, n_3_4, n_3_7, n_3_12, n_3_13, n_3_14, n_4_7, n_4_12, n_4_13, n_4_14, n_7_12, n_7_13, n_7_14, n_12_13, n_12_14, n_13_14⟩ := mOk_ne h
  have e : va_up (mP A x M).ri (A 0) g = (mP A x (M.1.s_mn g, M.2)).ri := by
    funext a
    show (if a = A 0 then g else if a = A 0 then M.1.mn else if a = A 1 then M.1.ky else if a = A 2 then M.1.kd else if a = A 3 then M.1.sz else if a = A 7 then M.2.bt else if a = A 12 then M.2.pl else if a = A 14 then M.2.hd else fun _ => 0) = (if a = A 0 then g else if a = A 1 then M.1.ky else if a = A 2 then M.1.kd else if a = A 3 then M.1.sz else if a = A 7 then M.2.bt else if a = A 12 then M.2.pl else if a = A 14 then M.2.hd else fun _ => 0)
    by_cases e0 : a = A 0
    · subst e0; simp [n_x_0, n_x_0.symm, n_x_1, n_x_1.symm, n_x_2, n_x_2.symm, n_x_3, n_x_3.symm, n_x_4, n_x_4.symm, n_x_7, n_x_7.symm, n_x_12, n_x_12.symm, n_x_13, n_x_13.symm, n_x_14, n_x_14.symm, n_0_1, n_0_1.symm, n_0_2, n_0_2.symm, n_0_3, n_0_3.symm, n_0_4, n_0_4.symm, n_0_7, n_0_7.symm, n_0_12, n_0_12.symm, n_0_13, n_0_13.symm, n_0_14, n_0_14.symm, n_1_2, n_1_2.symm, n_1_3, n_1_3.symm, n_1_4, n_1_4.symm, n_1_7, n_1_7.symm, n_1_12, n_1_12.symm, n_1_13, n_1_13.symm, n_1_14, n_1_14.symm, n_2_3, n_2_3.symm, n_2_4, n_2_4.symm, n_2_7, n_2_7.symm, n_2_12, n_2_12.symm, n_2_13, n_2_13.symm, n_2_14, n_2_14.symm, n_3_4, n_3_4.symm, n_3_7, n_3_7.symm, n_3_12, n_3_12.symm, n_3_13, n_3_13.symm, n_3_14, n_3_14.symm, n_4_7, n_4_7.symm, n_4_12, n_4_12.symm, n_4_13, n_4_13.symm, n_4_14, n_4_14.symm, n_7_12, n_7_12.symm, n_7_13, n_7_13.symm, n_7_14, n_7_14.symm, n_12_13, n_12_13.symm, n_12_14, n_12_14.symm, n_13_14, n_13_14.symm]
    · simp [e0]
  show (_, _, _, _, _, va_up (mP A x M).ri (A 0) g, _, _) = _
  rw [e]; rfl
theorem mP_in_ky : A 1 ∈ (mP A x M).L := by
  show A 1 ∈ [x, A 0, A 1, A 2, A 3, A 4, A 7, A 12, A 13, A 14]
  simp
theorem mP_K_ky (h : mOk A x) : (mP A x M).K (A 1) = 8 := by
  obtain ⟨n_x_0, n_x_1, n_x_2, n_x_3, n_x_4, n_x_7, n_x_12, n_x_13, n_x_14, n_0_1, n_0_2, n_0_3, n_0_4, n_0_7, n_0_12, n_0_13, n_0_14, n_1_2, n_1_3, n_1_4, n_1_7, n_1_12, n_1_13, n_1_14, n_2_3, n_2_4, n_2_7, n_2_12, n_2_13, n_2_14, n_3_4, n_3_7, n_3_12, n_3_13, n_3_14, n_4_7, n_4_12, n_4_13, n_4_14, n_7_12, n_7_13, n_7_14, n_12_13, n_12_14, n_13_14⟩ := mOk_ne h
  show (if A 1 = x then 6 else if A 1 = A 4 then 9 else if A 1 = A 13 then 9 else 8) = _
  simp [n_x_0, n_x_0.symm, n_x_1, n_x_1.symm, n_x_2, n_x_2.symm, n_x_3, n_x_3.symm, n_x_4, n_x_4.symm, n_x_7, n_x_7.symm, n_x_12, n_x_12.symm, n_x_13, n_x_13.symm, n_x_14, n_x_14.symm, n_0_1, n_0_1.symm, n_0_2, n_0_2.symm, n_0_3, n_0_3.symm, n_0_4, n_0_4.symm, n_0_7, n_0_7.symm, n_0_12, n_0_12.symm, n_0_13, n_0_13.symm, n_0_14, n_0_14.symm, n_1_2, n_1_2.symm, n_1_3, n_1_3.symm, n_1_4, n_1_4.symm, n_1_7, n_1_7.symm, n_1_12, n_1_12.symm, n_1_13, n_1_13.symm, n_1_14, n_1_14.symm, n_2_3, n_2_3.symm, n_2_4, n_2_4.symm, n_2_7, n_2_7.symm, n_2_12, n_2_12.symm, n_2_13, n_2_13.symm, n_2_14, n_2_14.symm, n_3_4, n_3_4.symm, n_3_7, n_3_7.symm, n_3_12, n_3_12.symm, n_3_13, n_3_13.symm, n_3_14, n_3_14.symm, n_4_7, n_4_7.symm, n_4_12, n_4_12.symm, n_4_13, n_4_13.symm, n_4_14, n_4_14.symm, n_7_12, n_7_12.symm, n_7_13, n_7_13.symm, n_7_14, n_7_14.symm, n_12_13, n_12_13.symm, n_12_14, n_12_14.symm, n_13_14, n_13_14.symm]
theorem mP_ln_ky (h : mOk A x) : (mP A x M).ln (A 1) = 102 := by
  obtain ⟨n_x_0, n_x_1, n_x_2, n_x_3, n_x_4, n_x_7, n_x_12, n_x_13, n_x_14, n_0_1, n_0_2, n_0_3, n_0_4, n_0_7, n_0_12, n_0_13, n_0_14, n_1_2, n_1_3, n_1_4, n_1_7, n_1_12, n_1_13, n_1_14, n_2_3, n_2_4, n_2_7, n_2_12, n_2_13, n_2_14, n_3_4, n_3_7, n_3_12, n_3_13, n_3_14, n_4_7, n_4_12, n_4_13, n_4_14, n_7_12, n_7_13, n_7_14, n_12_13, n_12_14, n_13_14⟩ := mOk_ne h
  show (if A 1 = A 0 then 17 else if A 1 = A 4 then 104448 else if A 1 = A 7 then 60000 else if A 1 = A 12 then 6 else if A 1 = A 13 then 6 else if A 1 = A 14 then 6 else 102) = _
  simp [n_x_0, n_x_0.symm, n_x_1, n_x_1.symm, n_x_2, n_x_2.symm, n_x_3, n_x_3.symm, n_x_4, n_x_4.symm, n_x_7, n_x_7.symm, n_x_12, n_x_12.symm, n_x_13, n_x_13.symm, n_x_14, n_x_14.symm, n_0_1, n_0_1.symm, n_0_2, n_0_2.symm, n_0_3, n_0_3.symm, n_0_4, n_0_4.symm, n_0_7, n_0_7.symm, n_0_12, n_0_12.symm, n_0_13, n_0_13.symm, n_0_14, n_0_14.symm, n_1_2, n_1_2.symm, n_1_3, n_1_3.symm, n_1_4, n_1_4.symm, n_1_7, n_1_7.symm, n_1_12, n_1_12.symm, n_1_13, n_1_13.symm, n_1_14, n_1_14.symm, n_2_3, n_2_3.symm, n_2_4, n_2_4.symm, n_2_7, n_2_7.symm, n_2_12, n_2_12.symm, n_2_13, n_2_13.symm, n_2_14, n_2_14.symm, n_3_4, n_3_4.symm, n_3_7, n_3_7.symm, n_3_12, n_3_12.symm, n_3_13, n_3_13.symm, n_3_14, n_3_14.symm, n_4_7, n_4_7.symm, n_4_12, n_4_12.symm, n_4_13, n_4_13.symm, n_4_14, n_4_14.symm, n_7_12, n_7_12.symm, n_7_13, n_7_13.symm, n_7_14, n_7_14.symm, n_12_13, n_12_13.symm, n_12_14, n_12_14.symm, n_13_14, n_13_14.symm]
theorem mP_ri_ky (h : mOk A x) : (mP A x M).ri (A 1) = M.1.ky := by
  obtain ⟨n_x_0, n_x_1, n_x_2, n_x_3, n_x_4, n_x_7, n_x_12, n_x_13, n_x_14, n_0_1, n_0_2, n_0_3, n_0_4, n_0_7, n_0_12, n_0_13, n_0_14, n_1_2, n_1_3, n_1_4, n_1_7, n_1_12, n_1_13, n_1_14, n_2_3, n_2_4, n_2_7, n_2_12, n_2_13, n_2_14, n_3_4, n_3_7, n_3_12, n_3_13, n_3_14, n_4_7, n_4_12, n_4_13, n_4_14, n_7_12, n_7_13, n_7_14, n_12_13, n_12_14, n_13_14⟩ := mOk_ne h
  show (if A 1 = A 0 then M.1.mn else if A 1 = A 1 then M.1.ky else if A 1 = A 2 then M.1.kd else if A 1 = A 3 then M.1.sz else if A 1 = A 7 then M.2.bt else if A 1 = A 12 then M.2.pl else if A 1 = A 14 then M.2.hd else fun _ => 0) = _
  simp [n_x_0, n_x_0.symm, n_x_1, n_x_1.symm, n_x_2, n_x_2.symm, n_x_3, n_x_3.symm, n_x_4, n_x_4.symm, n_x_7, n_x_7.symm, n_x_12, n_x_12.symm, n_x_13, n_x_13.symm, n_x_14, n_x_14.symm, n_0_1, n_0_1.symm, n_0_2, n_0_2.symm, n_0_3, n_0_3.symm, n_0_4, n_0_4.symm, n_0_7, n_0_7.symm, n_0_12, n_0_12.symm, n_0_13, n_0_13.symm, n_0_14, n_0_14.symm, n_1_2, n_1_2.symm, n_1_3, n_1_3.symm, n_1_4, n_1_4.symm, n_1_7, n_1_7.symm, n_1_12, n_1_12.symm, n_1_13, n_1_13.symm, n_1_14, n_1_14.symm, n_2_3, n_2_3.symm, n_2_4, n_2_4.symm, n_2_7, n_2_7.symm, n_2_12, n_2_12.symm, n_2_13, n_2_13.symm, n_2_14, n_2_14.symm, n_3_4, n_3_4.symm, n_3_7, n_3_7.symm, n_3_12, n_3_12.symm, n_3_13, n_3_13.symm, n_3_14, n_3_14.symm, n_4_7, n_4_7.symm, n_4_12, n_4_12.symm, n_4_13, n_4_13.symm, n_4_14, n_4_14.symm, n_7_12, n_7_12.symm, n_7_13, n_7_13.symm, n_7_14, n_7_14.symm, n_12_13, n_12_13.symm, n_12_14, n_12_14.symm, n_13_14, n_13_14.symm]
theorem mP_st_ky (h : mOk A x) (g : Nat → Int32) : (mP A x M).rowI (A 1) g = mP A x (M.1.s_ky g, M.2) := by
  obtain ⟨n_x_0, n_x_1, n_x_2, n_x_3, n_x_4, n_x_7, n_x_12, n_x_13, n_x_14, n_0_1, n_0_2, n_0_3, n_0_4, n_0_7, n_0_12, n_0_13, n_0_14, n_1_2, n_1_3, n_1_4, n_1_7, n_1_12, n_1_13, n_1_14, n_2_3, n_2_4, n_2_7, n_2_12, n_2_13, n_2_14, n_3_4, n_3_7, n_3_12, n_3_13, n_3_14, n_4_7, n_4_12, n_4_13, n_4_14, n_7_12, n_7_13, n_7_14, n_12_13, n_12_14, n_13_14⟩ := mOk_ne h
  have e : va_up (mP A x M).ri (A 1) g = (mP A x (M.1.s_ky g, M.2)).ri := by
    funext a
    show (if a = A 1 then g else if a = A 0 then M.1.mn else if a = A 1 then M.1.ky else if a = A 2 then M.1.kd else if a = A 3 then M.1.sz else if a = A 7 then M.2.bt else if a = A 12 then M.2.pl else if a = A 14 then M.2.hd else fun _ => 0) = (if a = A 0 then M.1.mn else if a = A 1 then g else if a = A 2 then M.1.kd else if a = A 3 then M.1.sz else if a = A 7 then M.2.bt else if a = A 12 then M.2.pl else if a = A 14 then M.2.hd else fun _ => 0)
    by_cases e0 : a = A 1
    · subst e0; simp [n_x_0, n_x_0.symm, n_x_1, n_x_1.symm, n_x_2, n_x_2.symm, n_x_3, n_x_3.symm, n_x_4, n_x_4.symm, n_x_7, n_x_7.symm, n_x_12, n_x_12.symm, n_x_13, n_x_13.symm, n_x_14, n_x_14.symm, n_0_1, n_0_1.symm, n_0_2, n_0_2.symm, n_0_3, n_0_3.symm, n_0_4, n_0_4.symm, n_0_7, n_0_7.symm, n_0_12, n_0_12.symm, n_0_13, n_0_13.symm, n_0_14, n_0_14.symm, n_1_2, n_1_2.symm, n_1_3, n_1_3.symm, n_1_4, n_1_4.symm, n_1_7, n_1_7.symm, n_1_12, n_1_12.symm, n_1_13, n_1_13.symm, n_1_14, n_1_14.symm, n_2_3, n_2_3.symm, n_2_4, n_2_4.symm, n_2_7, n_2_7.symm, n_2_12, n_2_12.symm, n_2_13, n_2_13.symm, n_2_14, n_2_14.symm, n_3_4, n_3_4.symm, n_3_7, n_3_7.symm, n_3_12, n_3_12.symm, n_3_13, n_3_13.symm, n_3_14, n_3_14.symm, n_4_7, n_4_7.symm, n_4_12, n_4_12.symm, n_4_13, n_4_13.symm, n_4_14, n_4_14.symm, n_7_12, n_7_12.symm, n_7_13, n_7_13.symm, n_7_14, n_7_14.symm, n_12_13, n_12_13.symm, n_12_14, n_12_14.symm, n_13_14, n_13_14.symm]
    · simp [e0]
  show (_, _, _, _, _, va_up (mP A x M).ri (A 1) g, _, _) = _
  rw [e]; rfl
theorem mP_in_kd : A 2 ∈ (mP A x M).L := by
  show A 2 ∈ [x, A 0, A 1, A 2, A 3, A 4, A 7, A 12, A 13, A 14]
  simp
theorem mP_K_kd (h : mOk A x) : (mP A x M).K (A 2) = 8 := by
  obtain ⟨n_x_0, n_x_1, n_x_2, n_x_3, n_x_4, n_x_7, n_x_12, n_x_13, n_x_14, n_0_1, n_0_2, n_0_3, n_0_4, n_0_7, n_0_12, n_0_13, n_0_14, n_1_2, n_1_3, n_1_4, n_1_7, n_1_12, n_1_13, n_1_14, n_2_3, n_2_4, n_2_7, n_2_12, n_2_13, n_2_14, n_3_4, n_3_7, n_3_12, n_3_13, n_3_14, n_4_7, n_4_12, n_4_13, n_4_14, n_7_12, n_7_13, n_7_14, n_12_13, n_12_14, n_13_14⟩ := mOk_ne h
  show (if A 2 = x then 6 else if A 2 = A 4 then 9 else if A 2 = A 13 then 9 else 8) = _
  simp [n_x_0, n_x_0.symm, n_x_1, n_x_1.symm, n_x_2, n_x_2.symm, n_x_3, n_x_3.symm, n_x_4, n_x_4.symm, n_x_7, n_x_7.symm, n_x_12, n_x_12.symm, n_x_13, n_x_13.symm, n_x_14, n_x_14.symm, n_0_1, n_0_1.symm, n_0_2, n_0_2.symm, n_0_3, n_0_3.symm, n_0_4, n_0_4.symm, n_0_7, n_0_7.symm, n_0_12, n_0_12.symm, n_0_13, n_0_13.symm, n_0_14, n_0_14.symm, n_1_2, n_1_2.symm, n_1_3, n_1_3.symm, n_1_4, n_1_4.symm, n_1_7, n_1_7.symm, n_1_12, n_1_12.symm, n_1_13, n_1_13.symm, n_1_14, n_1_14.symm, n_2_3, n_2_3.symm, n_2_4, n_2_4.symm, n_2_7, n_2_7.symm, n_2_12, n_2_12.symm, n_2_13, n_2_13.symm, n_2_14, n_2_14.symm, n_3_4, n_3_4.symm, n_3_7, n_3_7.symm, n_3_12, n_3_12.symm, n_3_13, n_3_13.symm, n_3_14, n_3_14.symm, n_4_7, n_4_7.symm, n_4_12, n_4_12.symm, n_4_13, n_4_13.symm, n_4_14, n_4_14.symm, n_7_12, n_7_12.symm, n_7_13, n_7_13.symm, n_7_14, n_7_14.symm, n_12_13, n_12_13.symm, n_12_14, n_12_14.symm, n_13_14, n_13_14.symm]
theorem mP_ln_kd (h : mOk A x) : (mP A x M).ln (A 2) = 102 := by
  obtain ⟨n_x_0, n_x_1, n_x_2, n_x_3, n_x_4, n_x_7, n_x_12, n_x_13, n_x_14, n_0_1, n_0_2, n_0_3, n_0_4, n_0_7, n_0_12, n_0_13, n_0_14, n_1_2, n_1_3, n_1_4, n_1_7, n_1_12, n_1_13, n_1_14, n_2_3, n_2_4, n_2_7, n_2_12, n_2_13, n_2_14, n_3_4, n_3_7, n_3_12, n_3_13, n_3_14, n_4_7, n_4_12, n_4_13, n_4_14, n_7_12, n_7_13, n_7_14, n_12_13, n_12_14, n_13_14⟩ := mOk_ne h
  show (if A 2 = A 0 then 17 else if A 2 = A 4 then 104448 else if A 2 = A 7 then 60000 else if A 2 = A 12 then 6 else if A 2 = A 13 then 6 else if A 2 = A 14 then 6 else 102) = _
  simp [n_x_0, n_x_0.symm, n_x_1, n_x_1.symm, n_x_2, n_x_2.symm, n_x_3, n_x_3.symm, n_x_4, n_x_4.symm, n_x_7, n_x_7.symm, n_x_12, n_x_12.symm, n_x_13, n_x_13.symm, n_x_14, n_x_14.symm, n_0_1, n_0_1.symm, n_0_2, n_0_2.symm, n_0_3, n_0_3.symm, n_0_4, n_0_4.symm, n_0_7, n_0_7.symm, n_0_12, n_0_12.symm, n_0_13, n_0_13.symm, n_0_14, n_0_14.symm, n_1_2, n_1_2.symm, n_1_3, n_1_3.symm, n_1_4, n_1_4.symm, n_1_7, n_1_7.symm, n_1_12, n_1_12.symm, n_1_13, n_1_13.symm, n_1_14, n_1_14.symm, n_2_3, n_2_3.symm, n_2_4, n_2_4.symm, n_2_7, n_2_7.symm, n_2_12, n_2_12.symm, n_2_13, n_2_13.symm, n_2_14, n_2_14.symm, n_3_4, n_3_4.symm, n_3_7, n_3_7.symm, n_3_12, n_3_12.symm, n_3_13, n_3_13.symm, n_3_14, n_3_14.symm, n_4_7, n_4_7.symm, n_4_12, n_4_12.symm, n_4_13, n_4_13.symm, n_4_14, n_4_14.symm, n_7_12, n_7_12.symm, n_7_13, n_7_13.symm, n_7_14, n_7_14.symm, n_12_13, n_12_13.symm, n_12_14, n_12_14.symm, n_13_14, n_13_14.symm]
theorem mP_ri_kd (h : mOk A x) : (mP A x M).ri (A 2) = M.1.kd := by
  obtain ⟨n_x_0, n_x_1, n_x_2, n_x_3, n_x_4, n_x_7, n_x_12, n_x_13, n_x_14, n_0_1, n_0_2, n_0_3, n_0_4, n_0_7, n_0_12, n_0_13, n_0_14, n_1_2, n_1_3, n_1_4, n_1_7, n_1_12, n_1_13, n_1_14, n_2_3, n_2_4, n_2_7, n_2_12, n_2_13, n_2_14, n_3_4, n_3_7, n_3_12, n_3_13, n_3_14, n_4_7, n_4_12, n_4_13, n_4_14, n_7_12, n_7_13, n_7_14, n_12_13, n_12_14, n_13_14⟩ := mOk_ne h
  show (if A 2 = A 0 then M.1.mn else if A 2 = A 1 then M.1.ky else if A 2 = A 2 then M.1.kd else if A 2 = A 3 then M.1.sz else if A 2 = A 7 then M.2.bt else if A 2 = A 12 then M.2.pl else if A 2 = A 14 then M.2.hd else fun _ => 0) = _
  simp [n_x_0, n_x_0.symm, n_x_1, n_x_1.symm, n_x_2, n_x_2.symm, n_x_3, n_x_3.symm, n_x_4, n_x_4.symm, n_x_7, n_x_7.symm, n_x_12, n_x_12.symm, n_x_13, n_x_13.symm, n_x_14, n_x_14.symm, n_0_1, n_0_1.symm, n_0_2, n_0_2.symm, n_0_3, n_0_3.symm, n_0_4, n_0_4.symm, n_0_7, n_0_7.symm, n_0_12, n_0_12.symm, n_0_13, n_0_13.symm, n_0_14, n_0_14.symm, n_1_2, n_1_2.symm, n_1_3, n_1_3.symm, n_1_4, n_1_4.symm, n_1_7, n_1_7.symm, n_1_12, n_1_12.symm, n_1_13, n_1_13.symm, n_1_14, n_1_14.symm, n_2_3, n_2_3.symm, n_2_4, n_2_4.symm, n_2_7, n_2_7.symm, n_2_12, n_2_12.symm, n_2_13, n_2_13.symm, n_2_14, n_2_14.symm, n_3_4, n_3_4.symm, n_3_7, n_3_7.symm, n_3_12, n_3_12.symm, n_3_13, n_3_13.symm, n_3_14, n_3_14.symm, n_4_7, n_4_7.symm, n_4_12, n_4_12.symm, n_4_13, n_4_13.symm, n_4_14, n_4_14.symm, n_7_12, n_7_12.symm, n_7_13, n_7_13.symm, n_7_14, n_7_14.symm, n_12_13, n_12_13.symm, n_12_14, n_12_14.symm, n_13_14, n_13_14.symm]
theorem mP_st_kd (h : mOk A x) (g : Nat → Int32) : (mP A x M).rowI (A 2) g = mP A x (M.1.s_kd g, M.2) := by
  obtain ⟨n_x_0, n_x_1, n_x_2, n_x_3, n_x_4, n_x_7, n_x_12, n_x_13, n_x_14, n_0_1, n_0_2, n_0_3, n_0_4, n_0_7, n_0_12, n_0_13, n_0_14, n_1_2, n_1_3, n_1_4, n_1_7, n_1_12, n_1_13, n_1_14, n_2_3, n_2_4, n_2_7, n_2_12, n_2_13, n_2_14, n_3_4, n_3_7, n_3_12, n_3_13, n_3_14, n_4_7, n_4_12, n_4_13, n_4_14, n_7_12, n_7_13, n_7_14, n_12_13, n_12_14, n_13_14⟩ := mOk_ne h
  have e : va_up (mP A x M).ri (A 2) g = (mP A x (M.1.s_kd g, M.2)).ri := by
    funext a
    show (if a = A 2 then g else if a = A 0 then M.1.mn else if a = A 1 then M.1.ky else if a = A 2 then M.1.kd else if a = A 3 then M.1.sz else if a = A 7 then M.2.bt else if a = A 12 then M.2.pl else if a = A 14 then M.2.hd else fun _ => 0) = (if a = A 0 then M.1.mn else if a = A 1 then M.1.ky else if a = A 2 then g else if a = A 3 then M.1.sz else if a = A 7 then M.2.bt else if a = A 12 then M.2.pl else if a = A 14 then M.2.hd else fun _ => 0)
    by_cases e0 : a = A 2
    · subst e0; simp [n_x_0, n_x_0.symm, n_x_1, n_x_1.symm, n_x_2, n_x_2.symm, n_x_3, n_x_3.symm, n_x_4, n_x_4.symm, n_x_7, n_x_7.symm, n_x_12, n_x_12.symm, n_x_13, n_x_13.symm, n_x_14, n_x_14.symm, n_0_1, n_0_1.symm, n_0_2, n_0_2.symm, n_0_3, n_0_3.symm, n_0_4, n_0_4.symm, n_0_7, n_0_7.symm, n_0_12, n_0_12.symm, n_0_13, n_0_13.symm, n_0_14, n_0_14.symm, n_1_2, n_1_2.symm, n_1_3, n_1_3.symm, n_1_4, n_1_4.symm, n_1_7, n_1_7.symm, n_1_12, n_1_12.symm, n_1_13, n_1_13.symm, n_1_14, n_1_14.symm, n_2_3, n_2_3.symm, n_2_4, n_2_4.symm, n_2_7, n_2_7.symm, n_2_12, n_2_12.symm, n_2_13, n_2_13.symm, n_2_14, n_2_14.symm, n_3_4, n_3_4.symm, n_3_7, n_3_7.symm, n_3_12, n_3_12.symm, n_3_13, n_3_13.symm, n_3_14, n_3_14.symm, n_4_7, n_4_7.symm, n_4_12, n_4_12.symm, n_4_13, n_4_13.symm, n_4_14, n_4_14.symm, n_7_12, n_7_12.symm, n_7_13, n_7_13.symm, n_7_14, n_7_14.symm, n_12_13, n_12_13.symm, n_12_14, n_12_14.symm, n_13_14, n_13_14.symm]
    · simp [e0]
  show (_, _, _, _, _, va_up (mP A x M).ri (A 2) g, _, _) = _
  rw [e]; rfl
theorem mP_in_sz : A 3 ∈ (mP A x M).L := by
  show A 3 ∈ [x, A 0, A 1, A 2, A 3, A 4, A 7, A 12, A 13, A 14]
  simp
theorem mP_K_sz (h : mOk A x) : (mP A x M).K (A 3) = 8 := by
  obtain ⟨n_x_0, n_x_1, n_x_2, n_x_3, n_x_4, n_x_7, n_x_12, n_x_13, n_x_14, n_0_1, n_0_2, n_0_3, n_0_4, n_0_7, n_0_12, n_0_13, n_0_14, n_1_2, n_1_3, n_1_4, n_1_7, n_1_12, n_1_13, n_1_14, n_2_3, n_2_4, n_2_7, n_2_12, n_2_13, n_2_14, n_3_4, n_3_7, n_3_12, n_3_13, n_3_14, n_4_7, n_4_12, n_4_13, n_4_14, n_7_12, n_7_13, n_7_14, n_12_13, n_12_14, n_13_14⟩ := mOk_ne h
  show (if A 3 = x then 6 else if A 3 = A 4 then 9 else if A 3 = A 13 then 9 else 8) = _
  simp [n_x_0, n_x_0.symm, n_x_1, n_x_1.symm, n_x_2, n_x_2.symm, n_x_3, n_x_3.symm, n_x_4, n_x_4.symm, n_x_7, n_x_7.symm, n_x_12, n_x_12.symm, n_x_13, n_x_13.symm, n_x_14, n_x_14.symm, n_0_1, n_0_1.symm, n_0_2, n_0_2.symm, n_0_3, n_0_3.symm, n_0_4, n_0_4.symm, n_0_7, n_0_7.symm, n_0_12, n_0_12.symm, n_0_13, n_0_13.symm, n_0_14, n_0_14.symm, n_1_2, n_1_2.symm, n_1_3, n_1_3.symm, n_1_4, n_1_4.symm, n_1_7, n_1_7.symm, n_1_12, n_1_12.symm, n_1_13, n_1_13.symm, n_1_14, n_1_14.symm, n_2_3, n_2_3.symm, n_2_4, n_2_4.symm, n_2_7, n_2_7.symm, n_2_12, n_2_12.symm, n_2_13, n_2_13.symm, n_2_14, n_2_14.symm, n_3_4, n_3_4.symm, n_3_7, n_3_7.symm, n_3_12, n_3_12.symm, n_3_13, n_3_13.symm, n_3_14, n_3_14.symm, n_4_7, n_4_7.symm, n_4_12, n_4_12.symm, n_4_13, n_4_13.symm, n_4_14, n_4_14.symm, n_7_12, n_7_12.symm, n_7_13, n_7_13.symm, n_7_14, n_7_14.symm, n_12_13, n_12_13.symm, n_12_14, n_12_14.symm, n_13_14, n_13_14.symm]
theorem mP_ln_sz (h : mOk A x) : (mP A x M).ln (A 3) = 102 := by
  obtain ⟨n_x_0, n_x_1, n_x_2, n_x_3, n_x_4, n_x_7, n_x_12, n_x_13, n_x_14, n_0_1, n_0_2, n_0_3, n_0_4, n_0_7, n_0_12, n_0_13, n_0_14, n_1_2, n_1_3, n_1_4, n_1_7, n_1_12, n_1_13, n_1_14, n_2_3, n_2_4, n_2_7, n_2_12, n_2_13, n_2_14, n_3_4, n_3_7, n_3_12, n_3_13, n_3_14, n_4_7, n_4_12, n_4_13, n_4_14, n_7_12, n_7_13, n_7_14, n_12_13, n_12_14, n_13_14⟩ := mOk_ne h
  show (if A 3 = A 0 then 17 else if A 3 = A 4 then 104448 else if A 3 = A 7 then 60000 else if A 3 = A 12 then 6 else if A 3 = A 13 then 6 else if A 3 = A 14 then 6 else 102) = _
  simp [n_x_0, n_x_0.symm, n_x_1, n_x_1.symm, n_x_2, n_x_2.symm, n_x_3, n_x_3.symm, n_x_4, n_x_4.symm, n_x_7, n_x_7.symm, n_x_12, n_x_12.symm, n_x_13, n_x_13.symm, n_x_14, n_x_14.symm, n_0_1, n_0_1.symm, n_0_2, n_0_2.symm, n_0_3, n_0_3.symm, n_0_4, n_0_4.symm, n_0_7, n_0_7.symm, n_0_12, n_0_12.symm, n_0_13, n_0_13.symm, n_0_14, n_0_14.symm, n_1_2, n_1_2.symm, n_1_3, n_1_3.symm, n_1_4, n_1_4.symm, n_1_7, n_1_7.symm, n_1_12, n_1_12.symm, n_1_13, n_1_13.symm, n_1_14, n_1_14.symm, n_2_3, n_2_3.symm, n_2_4, n_2_4.symm, n_2_7, n_2_7.symm, n_2_12, n_2_12.symm, n_2_13, n_2_13.symm, n_2_14, n_2_14.symm, n_3_4, n_3_4.symm, n_3_7, n_3_7.symm, n_3_12, n_3_12.symm, n_3_13, n_3_13.symm, n_3_14, n_3_14.symm, n_4_7, n_4_7.symm, n_4_12, n_4_12.symm, n_4_13, n_4_13.symm, n_4_14, n_4_14.symm, n_7_12, n_7_12.symm, n_7_13, n_7_13.symm, n_7_14, n_7_14.symm, n_12_13, n_12_13.symm, n_12_14, n_12_14.symm, n_13_14, n_13_14.symm]
theorem mP_ri_sz (h : mOk A x) : (mP A x M).ri (A 3) = M.1.sz := by
  obtain ⟨n_x_0, n_x_1, n_x_2, n_x_3, n_x_4, n_x_7, n_x_12, n_x_13, n_x_14, n_0_1, n_0_2, n_0_3, n_0_4, n_0_7, n_0_12, n_0_13, n_0_14, n_1_2, n_1_3, n_1_4, n_1_7, n_1_12, n_1_13, n_1_14, n_2_3, n_2_4, n_2_7, n_2_12, n_2_13, n_2_14, n_3_4, n_3_7, n_3_12, n_3_13, n_3_14, n_4_7, n_4_12, n_4_13, n_4_14, n_7_12, n_7_13, n_7_14, n_12_13, n_12_14, n_13_14⟩ := mOk_ne h
  show (if A 3 = A 0 then M.1.mn else if A 3 = A 1 then M.1.ky else if A 3 = A 2 then M.1.kd else if A 3 = A 3 then M.1.sz else if A 3 = A 7 then M.2.bt else if A 3 = A 12 then M.2.pl else if A 3 = A 14 then M.2.hd else fun _ => 0) = _
  simp [n_x_0, n_x_0.symm, n_x_1, n_x_1.symm, n_x_2, n_x_2.symm, n_x_3, n_x_3.symm, n_x_4, n_x_4.symm, n_x_7, n_x_7.symm, n_x_12, n_x_12.symm, n_x_13, n_x_13.symm, n_x_14, n_x_14.symm, n_0_1, n_0_1.symm, n_0_2, n_0_2.symm, n_0_3, n_0_3.symm, n_0_4, n_0_4.symm, n_0_7, n_0_7.symm, n_0_12, n_0_12.symm, n_0_13, n_0_13.symm, n_0_14, n_0_14.symm, n_1_2, n_1_2.symm, n_1_3, n_1_3.symm, n_1_4, n_1_4.symm, n_1_7, n_1_7.symm, n_1_12, n_1_12.symm, n_1_13, n_1_13.symm, n_1_14, n_1_14.symm, n_2_3, n_2_3.symm, n_2_4, n_2_4.symm, n_2_7, n_2_7.symm, n_2_12, n_2_12.symm, n_2_13, n_2_13.symm, n_2_14, n_2_14.symm, n_3_4, n_3_4.symm, n_3_7, n_3_7.symm, n_3_12, n_3_12.symm, n_3_13, n_3_13.symm, n_3_14, n_3_14.symm, n_4_7, n_4_7.symm, n_4_12, n_4_12.symm, n_4_13, n_4_13.symm, n_4_14, n_4_14.symm, n_7_12, n_7_12.symm, n_7_13, n_7_13.symm, n_7_14, n_7_14.symm, n_12_13, n_12_13.symm, n_12_14, n_12_14.symm, n_13_14, n_13_14.symm]
theorem mP_st_sz (h : mOk A x) (g : Nat → Int32) : (mP A x M).rowI (A 3) g = mP A x (M.1.s_sz g, M.2) := by
  obtain ⟨n_x_0, n_x_1, n_x_2, n_x_3, n_x_4, n_x_7, n_x_12, n_x_13, n_x_14, n_0_1, n_0_2, n_0_3, n_0_4, n_0_7, n_0_12, n_0_13, n_0_14, n_1_2, n_1_3, n_1_4, n_1_7, n_1_12, n_1_13, n_1_14, n_2_3, n_2_4, n_2_7, n_2_12, n_2_13, n_2_14, n_3_4, n_3_7, n_3_12, n_3_13, n_3_14, n_4_7, n_4_12, n_4_13, n_4_14, n_7_12, n_7_13, n_7_14, n_12_13, n_12_14, n_13_14⟩ := mOk_ne h
  have e : va_up (mP A x M).ri (A 3) g = (mP A x (M.1.s_sz g, M.2)).ri := by
    funext a
    show (if a = A 3 then g else if a = A 0 then M.1.mn else if a = A 1 then M.1.ky else if a = A 2 then M.1.kd else if a = A 3 then M.1.sz else if a = A 7 then M.2.bt else if a = A 12 then M.2.pl else if a = A 14 then M.2.hd else fun _ => 0) = (if a = A 0 then M.1.mn else if a = A 1 then M.1.ky else if a = A 2 then M.1.kd else if a = A 3 then g else if a = A 7 then M.2.bt else if a = A 12 then M.2.pl else if a = A 14 then M.2.hd else fun _ => 0)
    by_cases e0 : a = A 3
    · subst e0; simp [n_x_0, n_x_0.symm, n_x_1, n_x_1.symm, n_x_2, n_x_2.symm, n_x_3, n_x_3.symm, n_x_4, n_x_4.symm, n_x_7, n_x_7.symm, n_x_12, n_x_12.symm, n_x_13, n_x_13.symm, n_x_14, n_x_14.symm, n_0_1, n_0_1.symm, n_0_2, n_0_2.symm, n_0_3, n_0_3.symm, n_0_4, n_0_4.symm, n_0_7, n_0_7.symm, n_0_12, n_0_12.symm, n_0_13, n_0_13.symm, n_0_14, n_0_14.symm, n_1_2, n_1_2.symm, n_1_3, n_1_3.symm, n_1_4, n_1_4.symm, n_1_7, n_1_7.symm, n_1_12, n_1_12.symm, n_1_13, n_1_13.symm, n_1_14, n_1_14.symm, n_2_3, n_2_3.symm, n_2_4, n_2_4.symm, n_2_7, n_2_7.symm, n_2_12, n_2_12.symm, n_2_13, n_2_13.symm, n_2_14, n_2_14.symm, n_3_4, n_3_4.symm, n_3_7, n_3_7.symm, n_3_12, n_3_12.symm, n_3_13, n_3_13.symm, n_3_14, n_3_14.symm, n_4_7, n_4_7.symm, n_4_12, n_4_12.symm, n_4_13, n_4_13.symm, n_4_14, n_4_14.symm, n_7_12, n_7_12.symm, n_7_13, n_7_13.symm, n_7_14, n_7_14.symm, n_12_13, n_12_13.symm, n_12_14, n_12_14.symm, n_13_14, n_13_14.symm]
    · simp [e0]
  show (_, _, _, _, _, va_up (mP A x M).ri (A 3) g, _, _) = _
  rw [e]; rfl
theorem mP_in_wd : A 4 ∈ (mP A x M).L := by
  show A 4 ∈ [x, A 0, A 1, A 2, A 3, A 4, A 7, A 12, A 13, A 14]
  simp
theorem mP_K_wd (h : mOk A x) : (mP A x M).K (A 4) = 9 := by
  obtain ⟨n_x_0, n_x_1, n_x_2, n_x_3, n_x_4, n_x_7, n_x_12, n_x_13, n_x_14, n_0_1, n_0_2, n_0_3, n_0_4, n_0_7, n_0_12, n_0_13, n_0_14, n_1_2, n_1_3, n_1_4, n_1_7, n_1_12, n_1_13, n_1_14, n_2_3, n_2_4, n_2_7, n_2_12, n_2_13, n_2_14, n_3_4, n_3_7, n_3_12, n_3_13, n_3_14, n_4_7, n_4_12, n_4_13, n_4_14, n_7_12, n_7_13, n_7_14, n_12_13, n_12_14, n_13_14⟩ := mOk_ne h
  show (if A 4 = x then 6 else if A 4 = A 4 then 9 else if A 4 = A 13 then 9 else 8) = _
  simp [n_x_0, n_x_0.symm, n_x_1, n_x_1.symm, n_x_2, n_x_2.symm, n_x_3, n_x_3.symm, n_x_4, n_x_4.symm, n_x_7, n_x_7.symm, n_x_12, n_x_12.symm, n_x_13, n_x_13.symm, n_x_14, n_x_14.symm, n_0_1, n_0_1.symm, n_0_2, n_0_2.symm, n_0_3, n_0_3.symm, n_0_4, n_0_4.symm, n_0_7, n_0_7.symm, n_0_12, n_0_12.symm, n_0_13, n_0_13.symm, n_0_14, n_0_14.symm, n_1_2, n_1_2.symm, n_1_3, n_1_3.symm, n_1_4, n_1_4.symm, n_1_7, n_1_7.symm, n_1_12, n_1_12.symm, n_1_13, n_1_13.symm, n_1_14, n_1_14.symm, n_2_3, n_2_3.symm, n_2_4, n_2_4.symm, n_2_7, n_2_7.symm, n_2_12, n_2_12.symm, n_2_13, n_2_13.symm, n_2_14, n_2_14.symm, n_3_4, n_3_4.symm, n_3_7, n_3_7.symm, n_3_12, n_3_12.symm, n_3_13, n_3_13.symm, n_3_14, n_3_14.symm, n_4_7, n_4_7.symm, n_4_12, n_4_12.symm, n_4_13, n_4_13.symm, n_4_14, n_4_14.symm, n_7_12, n_7_12.symm, n_7_13, n_7_13.symm, n_7_14, n_7_14.symm, n_12_13, n_12_13.symm, n_12_14, n_12_14.symm, n_13_14, n_13_14.symm]
theorem mP_ln_wd (h : mOk A x) : (mP A x M).ln (A 4) = 104448 := by
  obtain ⟨n_x_0, n_x_1, n_x_2, n_x_3, n_x_4, n_x_7, n_x_12, n_x_13, n_x_14, n_0_1, n_0_2, n_0_3, n_0_4, n_0_7, n_0_12, n_0_13, n_0_14, n_1_2, n_1_3, n_1_4, n_1_7, n_1_12, n_1_13, n_1_14, n_2_3, n_2_4, n_2_7, n_2_12, n_2_13, n_2_14, n_3_4, n_3_7, n_3_12, n_3_13, n_3_14, n_4_7, n_4_12, n_4_13, n_4_14, n_7_12, n_7_13, n_7_14, n_12_13, n_12_14, n_13_14⟩ := mOk_ne h
  show (if A 4 = A 0 then 17 else if A 4 = A 4 then 104448 else if A 4 = A 7 then 60000 else if A 4 = A 12 then 6 else if A 4 = A 13 then 6 else if A 4 = A 14 then 6 else 102) = _
  simp [n_x_0, n_x_0.symm, n_x_1, n_x_1.symm, n_x_2, n_x_2.symm, n_x_3, n_x_3.symm, n_x_4, n_x_4.symm, n_x_7, n_x_7.symm, n_x_12, n_x_12.symm, n_x_13, n_x_13.symm, n_x_14, n_x_14.symm, n_0_1, n_0_1.symm, n_0_2, n_0_2.symm, n_0_3, n_0_3.symm, n_0_4, n_0_4.symm, n_0_7, n_0_7.symm, n_0_12, n_0_12.symm, n_0_13, n_0_13.symm, n_0_14, n_0_14.symm, n_1_2, n_1_2.symm, n_1_3, n_1_3.symm, n_1_4, n_1_4.symm, n_1_7, n_1_7.symm, n_1_12, n_1_12.symm, n_1_13, n_1_13.symm, n_1_14, n_1_14.symm, n_2_3, n_2_3.symm, n_2_4, n_2_4.symm, n_2_7, n_2_7.symm, n_2_12, n_2_12.symm, n_2_13, n_2_13.symm, n_2_14, n_2_14.symm, n_3_4, n_3_4.symm, n_3_7, n_3_7.symm, n_3_12, n_3_12.symm, n_3_13, n_3_13.symm, n_3_14, n_3_14.symm, n_4_7, n_4_7.symm, n_4_12, n_4_12.symm, n_4_13, n_4_13.symm, n_4_14, n_4_14.symm, n_7_12, n_7_12.symm, n_7_13, n_7_13.symm, n_7_14, n_7_14.symm, n_12_13, n_12_13.symm, n_12_14, n_12_14.symm, n_13_14, n_13_14.symm]
theorem mP_ri_wd (h : mOk A x) : (mP A x M).rj (A 4) = M.1.wd := by
  obtain ⟨n_x_0, n_x_1, n_x_2, n_x_3, n_x_4, n_x_7, n_x_12, n_x_13, n_x_14, n_0_1, n_0_2, n_0_3, n_0_4, n_0_7, n_0_12, n_0_13, n_0_14, n_1_2, n_1_3, n_1_4, n_1_7, n_1_12, n_1_13, n_1_14, n_2_3, n_2_4, n_2_7, n_2_12, n_2_13, n_2_14, n_3_4, n_3_7, n_3_12, n_3_13, n_3_14, n_4_7, n_4_12, n_4_13, n_4_14, n_7_12, n_7_13, n_7_14, n_12_13, n_12_14, n_13_14⟩ := mOk_ne h
  show (if A 4 = A 4 then M.1.wd else if A 4 = A 13 then M.2.tl else fun _ => 0) = _
  simp [n_x_0, n_x_0.symm, n_x_1, n_x_1.symm, n_x_2, n_x_2.symm, n_x_3, n_x_3.symm, n_x_4, n_x_4.symm, n_x_7, n_x_7.symm, n_x_12, n_x_12.symm, n_x_13, n_x_13.symm, n_x_14, n_x_14.symm, n_0_1, n_0_1.symm, n_0_2, n_0_2.symm, n_0_3, n_0_3.symm, n_0_4, n_0_4.symm, n_0_7, n_0_7.symm, n_0_12, n_0_12.symm, n_0_13, n_0_13.symm, n_0_14, n_0_14.symm, n_1_2, n_1_2.symm, n_1_3, n_1_3.symm, n_1_4, n_1_4.symm, n_1_7, n_1_7.symm, n_1_12, n_1_12.symm, n_1_13, n_1_13.symm, n_1_14, n_1_14.symm, n_2_3, n_2_3.symm, n_2_4, n_2_4.symm, n_2_7, n_2_7.symm, n_2_12, n_2_12.symm, n_2_13, n_2_13.symm, n_2_14, n_2_14.symm, n_3_4, n_3_4.symm, n_3_7, n_3_7.symm, n_3_12, n_3_12.symm, n_3_13, n_3_13.symm, n_3_14, n_3_14.symm, n_4_7, n_4_7.symm, n_4_12, n_4_12.symm, n_4_13, n_4_13.symm, n_4_14, n_4_14.symm, n_7_12, n_7_12.symm, n_7_13, n_7_13.symm, n_7_14, n_7_14.symm, n_12_13, n_12_13.symm, n_12_14, n_12_14.symm, n_13_14, n_13_14.symm]
theorem mP_st_wd (h : mOk A x) (g : Nat → Int64) : (mP A x M).rowJ (A 4) g = mP A x (M.1.s_wd g, M.2) := by
  obtain ⟨n_x_0, n_x_1, n_x_2, n_x_3, n_x_4, n_x_7, n_x_12, n_x_13, n_x_14, n_0_1, n_0_2, n_0_3, n_0_4, n_0_7, n_0_12, n_0_13, n_0_14, n_1_2, n_1_3, n_1_4, n_1_7, n_1_12, n_1_13, n_1_14, n_2_3, n_2_4, n_2_7, n_2_12, n_2_13, n_2_14, n_3_4, n_3_7, n_3_12, n_3_13, n_3_14, n_4_7, n_4_12, n_4_13, n_4_14, n_7_12, n_7_13, n_7_14, n_12_13, n_12_14, n_13_14⟩ := mOk_ne h
  have e : va_up (mP A x M).rj (A 4) g = (mP A x (M.1.s_wd g, M.2)).rj := by
    funext a
    show (if a = A 4 then g else if a = A 4 then M.1.wd else if a = A 13 then M.2.tl else fun _ => 0) = (if a = A 4 then g else if a = A 13 then M.2.tl else fun _ => 0)
    by_cases e0 : a = A 4
    · subst e0; simp [n_x_0, n_x_0.symm, n_x_1, n_x_1.symm, n_x_2, n_x_2.symm, n_x_3, n_x_3.symm, n_x_4, n_x_4.symm, n_x_7, n_x_7.symm, n_x_12, n_x_12.symm, n_x_13, n_x_13.symm, n_x_14, n_x_14.symm, n_0_1, n_0_1.symm, n_0_2, n_0_2.symm, n_0_3, n_0_3.symm, n_0_4, n_0_4.symm, n_0_7, n_0_7.symm, n_0_12, n_0_12.symm, n_0_13, n_0_13.symm, n_0_14, n_0_14.symm, n_1_2, n_1_2.symm, n_1_3, n_1_3.symm, n_1_4, n_1_4.symm, n_1_7, n_1_7.symm, n_1_12, n_1_12.symm, n_1_13, n_1_13.symm, n_1_14, n_1_14.symm, n_2_3, n_2_3.symm, n_2_4, n_2_4.symm, n_2_7, n_2_7.symm, n_2_12, n_2_12.symm, n_2_13, n_2_13.symm, n_2_14, n_2_14.symm, n_3_4, n_3_4.symm, n_3_7, n_3_7.symm, n_3_12, n_3_12.symm, n_3_13, n_3_13.symm, n_3_14, n_3_14.symm, n_4_7, n_4_7.symm, n_4_12, n_4_12.symm, n_4_13, n_4_13.symm, n_4_14, n_4_14.symm, n_7_12, n_7_12.symm, n_7_13, n_7_13.symm, n_7_14, n_7_14.symm, n_12_13, n_12_13.symm, n_12_14, n_12_14.symm, n_13_14, n_13_14.symm]
    · simp [e0]
  show (_, _, _, _, _, _, va_up (mP A x M).rj (A 4) g, _) = _
  rw [e]; rfl
theorem mP_in_bt : A 7 ∈ (mP A x M).L := by
  show A 7 ∈ [x, A 0, A 1, A 2, A 3, A 4, A 7, A 12, A 13, A 14]
  simp
theorem mP_K_bt (h : mOk A x) : (mP A x M).K (A 7) = 8 := by
  obtain ⟨n_x_0, n_x_1, n_x_2, n_x_3, n_x_4, n_x_7, n_x_12, n_x_13, n_x_14, n_0_1, n_0_2, n_0_3, n_0_4, n_0_7, n_0_12, n_0_13, n_0_14, n_1_2, n_1_3, n_1_4, n_1_7, n_1_12, n_1_13, n_1_14, n_2_3, n_2_4, n_2_7, n_2_12, n_2_13, n_2_14, n_3_4, n_3_7, n_3_12, n_3_13, n_3_14, n_4_7, n_4_12, n_4_13, n_4_14, n_7_12, n_7_13, n_7_14, n_12_13, n_12_14, n_13_14⟩ := mOk_ne h
  show (if A 7 = x then 6 else if A 7 = A 4 then 9 else if A 7 = A 13 then 9 else 8) = _
  simp [n_x_0, n_x_0.symm, n_x_1, n_x_1.symm, n_x_2, n_x_2.symm, n_x_3, n_x_3.symm, n_x_4, n_x_4.symm, n_x_7, n_x_7.symm, n_x_12, n_x_12.symm, n_x_13, n_x_13.symm, n_x_14, n_x_14.symm, n_0_1, n_0_1.symm, n_0_2, n_0_2.symm, n_0_3, n_0_3.symm, n_0_4, n_0_4.symm, n_0_7, n_0_7.symm, n_0_12, n_0_12.symm, n_0_13, n_0_13.symm, n_0_14, n_0_14.symm, n_1_2, n_1_2.symm, n_1_3, n_1_3.symm, n_1_4, n_1_4.symm, n_1_7, n_1_7.symm, n_1_12, n_1_12.symm, n_1_13, n_1_13.symm, n_1_14, n_1_14.symm, n_2_3, n_2_3.symm, n_2_4, n_2_4.symm, n_2_7, n_2_7.symm, n_2_12, n_2_12.symm, n_2_13, n_2_13.symm, n_2_14, n_2_14.symm, n_3_4, n_3_4.symm, n_3_7, n_3_7.symm, n_3_12, n_3_12.symm, n_3_13, n_3_13.symm, n_3_14, n_3_14.symm, n_4_7, n_4_7.symm, n_4_12, n_4_12.symm, n_4_13, n_4_13.symm, n_4_14, n_4_14.symm, n_7_12, n_7_12.symm, n_7_13, n_7_13.symm, n_7_14, n_7_14.symm, n_12_13, n_12_13.symm, n_12_14, n_12_14.symm, n_13_14, n_13_14.symm]
theorem mP_ln_bt (h : mOk A x) : (mP A x M).ln (A 7) = 60000 := by
  obtain ⟨n_x_0, n_x_1, n_x_2, n_x_3, n_x_4, n_x_7, n_x_12, n_x_13, n_x_14, n_0_1, n_0_2, n_0_3, n_0_4, n_0_7, n_0_12, n_0_13, n_0_14, n_1_2, n_1_3, n_1_4, n_1_7, n_1_12, n_1_13, n_1_14, n_2_3, n_2_4, n_2_7, n_2_12, n_2_13, n_2_14, n_3_4, n_3_7, n_3_12, n_3_13, n_3_14, n_4_7, n_4_12, n_4_13, n_4_14, n_7_12, n_7_13, n_7_14, n_12_13, n_12_14, n_13_14⟩ := mOk_ne h
  show (if A 7 = A 0 then 17 else if A 7 = A 4 then 104448 else if A 7 = A 7 then 60000 else if A 7 = A 12 then 6 else if A 7 = A 13 then 6 else if A 7 = A 14 then 6 else 102) = _
  simp [n_x_0, n_x_0.symm, n_x_1, n_x_1.symm, n_x_2, n_x_2.symm, n_x_3, n_x_3.symm, n_x_4, n_x_4.symm, n_x_7, n_x_7.symm, n_x_12, n_x_12.symm, n_x_13, n_x_13.symm, n_x_14, n_x_14.symm, n_0_1, n_0_1.symm, n_0_2, n_0_2.symm, n_0_3, n_0_3.symm, n_0_4, n_0_4.symm, n_0_7, n_0_7.symm, n_0_12, n_0_12.symm, n_0_13, n_0_13.symm, n_0_14, n_0_14.symm, n_1_2, n_1_2.symm, n_1_3, n_1_3.symm, n_1_4, n_1_4.symm, n_1_7, n_1_7.symm, n_1_12, n_1_12.symm, n_1_13, n_1_13.symm, n_1_14, n_1_14.symm, n_2_3, n_2_3.symm, n_2_4, n_2_4.symm, n_2_7, n_2_7.symm, n_2_12, n_2_12.symm, n_2_13, n_2_13.symm, n_2_14, n_2_14.symm, n_3_4, n_3_4.symm, n_3_7, n_3_7.symm, n_3_12, n_3_12.symm, n_3_13, n_3_13.symm, n_3_14, n_3_14.symm, n_4_7, n_4_7.symm, n_4_12, n_4_12.symm, n_4_13, n_4_13.symm, n_4_14, n_4_14.symm, n_7_12, n_7_12.symm, n_7_13, n_7_13.symm, n_7_14, n_7_14.symm, n_12_13, n_12_13.symm, n_12_14, n_12_14.symm, n_13_14, n_13_14.symm]
theorem mP_ri_bt (h : mOk A x) : (mP A x M).ri (A 7) = M.2.bt := by
  obtain ⟨n_x_0, n_x_1, n_x_2, n_x_3, n_x_4, n_x_7, n_x_12, n_x_13, n_x_14, n_0_1, n_0_2, n_0_3, n_0_4, n_0_7, n_0_12, n_0_13, n_0_14, n_1_2, n_1_3, n_1_4, n_1_7, n_1_12, n_1_13, n_1_14, n_2_3, n_2_4, n_2_7, n_2_12, n_2_13, n_2_14, n_3_4, n_3_7, n_3_12, n_3_13, n_3_14, n_4_7, n_4_12, n_4_13, n_4_14, n_7_12, n_7_13, n_7_14, n_12_13, n_12_14, n_13_14⟩ := mOk_ne h
  show (if A 7 = A 0 then M.1.mn else if A 7 = A 1 then M.1.ky else if A 7 = A 2 then M.1.kd else if A 7 = A 3 then M.1.sz else if A 7 = A 7 then M.2.bt else if A 7 = A 12 then M.2.pl else if A 7 = A 14 then M.2.hd else fun _ => 0) = _
  simp [n_x_0, n_x_0.symm, n_x_1, n_x_1.symm, n_x_2, n_x_2.symm, n_x_3, n_x_3.symm, n_x_4, n_x_4.symm, n_x_7, n_x_7.symm, n_x_12, n_x_12.symm, n_x_13, n_x_13.symm, n_x_14, n_x_14.symm, n_0_1, n_0_1.symm, n_0_2, n_0_2.symm, n_0_3, n_0_3.symm, n_0_4, n_0_4.symm, n_0_7, n_0_7.symm, n_0_12, n_0_12.symm, n_0_13, n_0_13.symm, n_0_14, n_0_14.symm, n_1_2, n_1_2.symm, n_1_3, n_1_3.symm, n_1_4, n_1_4.symm, n_1_7, n_1_7.symm, n_1_12, n_1_12.symm, n_1_13, n_1_13.symm, n_1_14, n_1_14.symm, n_2_3, n_2_3.symm, n_2_4, n_2_4.symm, n_2_7, n_2_7.symm, n_2_12, n_2_12.symm, n_2_13, n_2_13.symm, n_2_14, n_2_14.symm, n_3_4, n_3_4.symm, n_3_7, n_3_7.symm, n_3_12, n_3_12.symm, n_3_13, n_3_13.symm, n_3_14, n_3_14.symm, n_4_7, n_4_7.symm, n_4_12, n_4_12.symm, n_4_13, n_4_13.symm, n_4_14, n_4_14.symm, n_7_12, n_7_12.symm, n_7_13, n_7_13.symm, n_7_14, n_7_14.symm, n_12_13, n_12_13.symm, n_12_14, n_12_14.symm, n_13_14, n_13_14.symm]
theorem mP_st_bt (h : mOk A x) (g : Nat → Int32) : (mP A x M).rowI (A 7) g = mP A x (M.1, M.2.s_bt g) := by
  obtain ⟨n_x_0, n_x_1, n_x_2, n_x_3, n_x_4, n_x_7, n_x_12, n_x_13, n_x_14, n_0_1, n_0_2, n_0_3, n_0_4, n_0_7, n_0_12, n_0_13, n_0_14, n_1_2, n_1_3, n_1_4, n_1_7, n_1_12, n_1_13, n_1_14, n_2_3, n_2_4, n_2_7, n_2_12, n_2_13, n_2_14, n_3_4, n_3_7, n_3_12, n_3_13, n_3_14, n_4_7, n_4_12, n_4_13, n_4_14, n_7_12, n_7_13, n_7_14, n_12_13, n_12_14, n_13_14⟩ := mOk_ne h
  have e : va_up (mP A x M).ri (A 7) g = (mP A x (M.1, M.2.s_bt g)).ri := by
    funext a
    show (if a = A 7 then g else if a = A 0 then M.1.mn else if a = A 1 then M.1.ky else if a = A 2 then M.1.kd else if a = A 3 then M.1.sz else if a = A 7 then M.2.bt else if a = A 12 then M.2.pl else if a = A 14 then M.2.hd else fun _ => 0) = (if a = A 0 then M.1.mn else if a = A 1 then M.1.ky else if a = A 2 then M.1.kd else if a = A 3 then M.1.sz else if a = A 7 then g else if a = A 12 then M.2.pl else if a = A 14 then M.2.hd else fun _ => 0)
    by_cases e0 : a = A 7
    · subst e0; simp [n_x_0, n_x_0.symm, n_x_1, n_x_1.symm, n_x_2, n_x_2.symm, n_x_3, n_x_3.symm, n_x_4, n_x_4.symm, n_x_7, n_x_7.symm, n_x_12, n_x_12.symm, n_x_13, n_x_13.symm, n_x_14, n_x_14.symm, n_0_1, n_0_1.symm, n_0_2, n_0_2.symm, n_0_3, n_0_3.symm, n_0_4, n_0_4.symm, n_0_7, n_0_7.symm, n_0_12, n_0_12.symm, n_0_13, n_0_13.symm, n_0_14, n_0_14.symm, n_1_2, n_1_2.symm, n_1_3, n_1_3.symm, n_1_4, n_1_4.symm, n_1_7, n_1_7.symm, n_1_12, n_1_12.symm, n_1_13, n_1_13.symm, n_1_14, n_1_14.symm, n_2_3, n_2_3.symm, n_2_4, n_2_4.symm, n_2_7, n_2_7.symm, n_2_12, n_2_12.symm, n_2_13, n_2_13.symm, n_2_14, n_2_14.symm, n_3_4, n_3_4.symm, n_3_7, n_3_7.symm, n_3_12, n_3_12.symm, n_3_13, n_3_13.symm, n_3_14, n_3_14.symm, n_4_7, n_4_7.symm, n_4_12, n_4_12.symm, n_4_13, n_4_13.symm, n_4_14, n_4_14.symm, n_7_12, n_7_12.symm, n_7_13, n_7_13.symm, n_7_14, n_7_14.symm, n_12_13, n_12_13.symm, n_12_14, n_12_14.symm, n_13_14, n_13_14.symm]
    · simp [e0]
  show (_, _, _, _, _, va_up (mP A x M).ri (A 7) g, _, _) = _
  rw [e]; rfl
theorem mP_in_pl : A 12 ∈ (mP A x M).L := by
  show A 12 ∈ [x, A 0, A 1, A 2, A 3, A 4, A 7, A 12, A 13, A 14]
  simp
theorem mP_K_pl (h : mOk A x) : (mP A x M).K (A 12) = 8 := by
  obtain ⟨n_x_0, n_x_1, n_x_2, n_x_3, n_x_4, n_x_7, n_x_12, n_x_13, n_x_14, n_0_1, n_0_2, n_0_3, n_0_4, n_0_7, n_0_12, n_0_13, n_0_14, n_1_2, n_1_3, n_1_4, n_1_7, n_1_12, n_1_13, n_1_14, n_2_3, n_2_4, n_2_7, n_2_12, n_2_13, n_2_14, n_3_4, n_3_7, n_3_12, n_3_13, n_3_14, n_4_7, n_4_12, n_4_13, n_4_14, n_7_12, n_7_13, n_7_14, n_12_13, n_12_14, n_13_14⟩ := mOk_ne h
  show (if A 12 = x then 6 else if A 12 = A 4 then 9 else if A 12 = A 13 then 9 else 8) = _
  simp [n_x_0, n_x_0.symm, n_x_1, n_x_1.symm, n_x_2, n_x_2.symm, n_x_3, n_x_3.symm, n_x_4, n_x_4.symm, n_x_7, n_x_7.symm, n_x_12, n_x_12.symm, n_x_13, n_x_13.symm, n_x_14, n_x_14.symm, n_0_1, n_0_1.symm, n_0_2, n_0_2.symm, n_0_3, n_0_3.symm, n_0_4, n_0_4.symm, n_0_7, n_0_7.symm, n_0_12, n_0_12.symm, n_0_13, n_0_13.symm, n_0_14, n_0_14.symm, n_1_2, n_1_2.symm, n_1_3, n_1_3.symm, n_1_4, n_1_4.symm, n_1_7, n_1_7.symm, n_1_12, n_1_12.symm, n_1_13, n_1_13.symm, n_1_14, n_1_14.symm, n_2_3, n_2_3.symm, n_2_4, n_2_4.symm, n_2_7, n_2_7.symm, n_2_12, n_2_12.symm, n_2_13, n_2_13.symm, n_2_14, n_2_14.symm, n_3_4, n_3_4.symm, n_3_7, n_3_7.symm, n_3_12, n_3_12.symm, n_3_13, n_3_13.symm, n_3_14, n_3_14.symm, n_4_7, n_4_7.symm, n_4_12, n_4_12.symm, n_4_13, n_4_13.symm, n_4_14, n_4_14.symm, n_7_12, n_7_12.symm, n_7_13, n_7_13.symm, n_7_14, n_7_14.symm, n_12_13, n_12_13.symm, n_12_14, n_12_14.symm, n_13_14, n_13_14.symm]
theorem mP_ln_pl (h : mOk A x) : (mP A x M).ln (A 12) = 6 := by
  obtain ⟨n_x_0, n_x_1, n_x_2, n_x_3, n_x_4, n_x_7, n_x_12, n_x_13, n_x_14, n_0_1, n_0_2, n_0_3, n_0_4, n_0_7, n_0_12, n_0_13, n_0_14, n_1_2, n_1_3, n_1_4, n_1_7, n_1_12, n_1_13, n_1_14, n_2_3, n_2_4, n_2_7, n_2_12, n_2_13, n_2_14, n_3_4, n_3_7, n_3_12, n_3_13, n_3_14, n_4_7, n_4_12, n_4_13, n_4_14, n_7_12, n_7_13, n_7_14, n_12_13, n_12_14, n_13_14⟩ := mOk_ne h
  show (if A 12 = A 0 then 17 else if A 12 = A 4 then 104448 else if A 12 = A 7 then 60000 else if A 12 = A 12 then 6 else if A 12 = A 13 then 6 else if A 12 = A 14 then 6 else 102) = _
  simp [n_x_0, n_x_0.symm, n_x_1, n_x_1.symm, n_x_2, n_x_2.symm, n_x_3, n_x_3.symm, n_x_4, n_x_4.symm, n_x_7, n_x_7.symm, n_x_12, n_x_12.symm, n_x_13, n_x_13.symm, n_x_14, n_x_14.symm, n_0_1, n_0_1.symm, n_0_2, n_0_2.symm, n_0_3, n_0_3.symm, n_0_4, n_0_4.symm, n_0_7, n_0_7.symm, n_0_12, n_0_12.symm, n_0_13, n_0_13.symm, n_0_14, n_0_14.symm, n_1_2, n_1_2.symm, n_1_3, n_1_3.symm, n_1_4, n_1_4.symm, n_1_7, n_1_7.symm, n_1_12, n_1_12.symm, n_1_13, n_1_13.symm, n_1_14, n_1_14.symm, n_2_3, n_2_3.symm, n_2_4, n_2_4.symm, n_2_7, n_2_7.symm, n_2_12, n_2_12.symm, n_2_13, n_2_13.symm, n_2_14, n_2_14.symm, n_3_4, n_3_4.symm, n_3_7, n_3_7.symm, n_3_12, n_3_12.symm, n_3_13, n_3_13.symm, n_3_14, n_3_14.symm, n_4_7, n_4_7.symm, n_4_12, n_4_12.symm, n_4_13, n_4_13.symm, n_4_14, n_4_14.symm, n_7_12, n_7_12.symm, n_7_13, n_7_13.symm, n_7_14, n_7_14.symm, n_12_13, n_12_13.symm, n_12_14, n_12_14.symm, n_13_14, n_13_14.symm]
theorem mP_ri_pl (h : mOk A x) : (mP A x M).ri (A 12) = M.2.pl := by
  obtain ⟨n_x_0, n_x_1, n_x_2, n_x_3, n_x_4, n_x_7, n_x_12, n_x_13, n_x_14, n_0_1, n_0_2, n_0_3, n_0_4, n_0_7, n_0_12, n_0_13, n_0_14, n_1_2, n_1_3, n_1_4, n_1_7, n_1_12, n_1_13, n_1_14, n_2_3, n_2_4, n_2_7, n_2_12, n_2_13, n_2_14, n_3_4, n_3_7, n_3_12, n_3_13, n_3_14, n_4_7, n_4_12, n_4_13, n_4_14, n_7_12, n_7_13, n_7_14, n_12_13, n_12_14, n_13_14⟩ := mOk_ne h
  show (if A 12 = A 0 then M.1.mn else if A 12 = A 1 then M.1.ky else if A 12 = A 2 then M.1.kd else if A 12 = A 3 then M.1.sz else if A 12 = A 7 then M.2.bt else if A 12 = A 12 then M.2.pl else if A 12 = A 14 then M.2.hd else fun _ => 0) = _
  simp [n_x_0, n_x_0.symm, n_x_1, n_x_1.symm, n_x_2, n_x_2.symm, n_x_3, n_x_3.symm, n_x_4, n_x_4.symm, n_x_7, n_x_7.symm, n_x_12, n_x_12.symm, n_x_13, n_x_13.symm, n_x_14, n_x_14.symm, n_0_1, n_0_1.symm, n_0_2, n_0_2.symm, n_0_3, n_0_3.symm, n_0_4, n_0_4.symm, n_0_7, n_0_7.symm, n_0_12, n_0_12.symm, n_0_13, n_0_13.symm, n_0_14, n_0_14.symm, n_1_2, n_1_2.symm, n_1_3, n_1_3.symm, n_1_4, n_1_4.symm, n_1_7, n_1_7.symm, n_1_12, n_1_12.symm, n_1_13, n_1_13.symm, n_1_14, n_1_14.symm, n_2_3, n_2_3.symm, n_2_4, n_2_4.symm, n_2_7, n_2_7.symm, n_2_12, n_2_12.symm, n_2_13, n_2_13.symm, n_2_14, n_2_14.symm, n_3_4, n_3_4.symm, n_3_7, n_3_7.symm, n_3_12, n_3_12.symm, n_3_13, n_3_13.symm, n_3_14, n_3_14.symm, n_4_7, n_4_7.symm, n_4_12, n_4_12.symm, n_4_13, n_4_13.symm, n_4_14, n_4_14.symm, n_7_12, n_7_12.symm, n_7_13, n_7_13.symm, n_7_14, n_7_14.symm, n_12_13, n_12_13.symm, n_12_14, n_12_14.symm, n_13_14, n_13_14.symm]
theorem mP_st_pl (h : mOk A x) (g : Nat → Int32) : (mP A x M).rowI (A 12) g = mP A x (M.1, M.2.s_pl g) := by
  obtain ⟨n_x_0, n_x_1, n_x_2, n_x_3, n_x_4, n_x_7, n_x_12, n_x_13, n_x_14, n_0_1, n_0_2, n_0_3, n_0_4, n_0_7, n_0_12, n_0_13, n_0_14, n_1_2, n_1_3, n_1_4, n_1_7, n_1_12, n_1_13, n_1_14, n_2_3, n_2_4, n_2_7, n_2_12, n_2_13, n_2_14, n_3_4, n_3_7, n_3_12, n_3_13, n_3_14, n_4_7, n_4_12, n_4_13, n_4_14, n_7_12, n_7_13, n_7_14, n_12_13, n_12_14, n_13_14⟩ := mOk_ne h
  have e : va_up (mP A x M).ri (A 12) g = (mP A x (M.1, M.2.s_pl g)).ri := by
    funext a
    show (if a = A 12 then g else if a = A 0 then M.1.mn else if a = A 1 then M.1.ky else if a = A 2 then M.1.kd else if a = A 3 then M.1.sz else if a = A 7 then M.2.bt else if a = A 12 then M.2.pl else if a = A 14 then M.2.hd else fun _ => 0) = (if a = A 0 then M.1.mn else if a = A 1 then M.1.ky else if a = A 2 then M.1.kd else if a = A 3 then M.1.sz else if a = A 7 then M.2.bt else if a = A 12 then g else if a = A 14 then M.2.hd else fun _ => 0)
    by_cases e0 : a = A 12
    · subst e0; simp [n_x_0, n_x_0.symm, n_x_1, n_x_1.symm, n_x_2, n_x_2.symm, n_x_3, n_x_3.symm, n_x_4, n_x_4.symm, n_x_7, n_x_7.symm, n_x_12, n_x_12.symm, n_x_13, n_x_13.symm, n_x_14, n_x_14.symm, n_0_1, n_0_1.symm, n_0_2, n_0_2.symm, n_0_3, n_0_3.symm, n_0_4, n_0_4.symm, n_0_7, n_0_7.symm, n_0_12, n_0_12.symm, n_0_13, n_0_13.symm, n_0_14, n_0_14.symm, n_1_2, n_1_2.symm, n_1_3, n_1_3.symm, n_1_4, n_1_4.symm, n_1_7, n_1_7.symm, n_1_12, n_1_12.symm, n_1_13, n_1_13.symm, n_1_14, n_1_14.symm, n_2_3, n_2_3.symm, n_2_4, n_2_4.symm, n_2_7, n_2_7.symm, n_2_12, n_2_12.symm, n_2_13, n_2_13.symm, n_2_14, n_2_14.symm, n_3_4, n_3_4.symm, n_3_7, n_3_7.symm, n_3_12, n_3_12.symm, n_3_13, n_3_13.symm, n_3_14, n_3_14.symm, n_4_7, n_4_7.symm, n_4_12, n_4_12.symm, n_4_13, n_4_13.symm, n_4_14, n_4_14.symm, n_7_12, n_7_12.symm, n_7_13, n_7_13.symm, n_7_14, n_7_14.symm, n_12_13, n_12_13.symm, n_12_14, n_12_14.symm, n_13_14, n_13_14.symm]
    · simp [e0]
  show (_, _, _, _, _, va_up (mP A x M).ri (A 12) g, _, _) = _
  rw [e]; rfl
theorem mP_in_tl : A 13 ∈ (mP A x M).L := by
  show A 13 ∈ [x, A 0, A 1, A 2, A 3, A 4, A 7, A 12, A 13, A 14]
  simp
theorem mP_K_tl (h : mOk A x) : (mP A x M).K (A 13) = 9 := by
  obtain ⟨n_x_0, n_x_1, n_x_2, n_x_3, n_x_4, n_x_7, n_x_12, n_x_13, n_x_14, n_0_1, n_0_2, n_0_3, n_0_4, n_0_7, n_0_12, n_0_13, n_0_14, n_1_2, n_1_3, n_1_4, n_1_7, n_1_12, n_1_13, n_1_14, n_2_3, n_2_4, n_2_7, n_2_12, n_2_13, n_2_14, n_3_4, n_3_7, n_3_12, n_3_13, n_3_14, n_4_7, n_4_12, n_4_13, n_4_14, n_7_12, n_7_13, n_7_14, n_12_13, n_12_14, n_13_14⟩ := mOk_ne h
  show (if A 13 = x then 6 else if A 13 = A 4 then 9 else if A 13 = A 13 then 9 else 8) = _
  simp [n_x_0, n_x_0.symm, n_x_1, n_x_1.symm, n_x_2, n_x_2.symm, n_x_3, n_x_3.symm, n_x_4, n_x_4.symm, n_x_7, n_x_7.symm, n_x_12, n_x_12.symm, n_x_13, n_x_13.symm, n_x_14, n_x_14.symm, n_0_1, n_0_1.symm, n_0_2, n_0_2.symm, n_0_3, n_0_3.symm, n_0_4, n_0_4.symm, n_0_7, n_0_7.symm, n_0_12, n_0_12.symm, n_0_13, n_0_13.symm, n_0_14, n_0_14.symm, n_1_2, n_1_2.symm, n_1_3, n_1_3.symm, n_1_4, n_1_4.symm, n_1_7, n_1_7.symm, n_1_12, n_1_12.symm, n_1_13, n_1_13.symm, n_1_14, n_1_14.symm, n_2_3, n_2_3.symm, n_2_4, n_2_4.symm, n_2_7, n_2_7.symm, n_2_12, n_2_12.symm, n_2_13, n_2_13.symm, n_2_14, n_2_14.symm, n_3_4, n_3_4.symm, n_3_7, n_3_7.symm, n_3_12, n_3_12.symm, n_3_13, n_3_13.symm, n_3_14, n_3_14.symm, n_4_7, n_4_7.symm, n_4_12, n_4_12.symm, n_4_13, n_4_13.symm, n_4_14, n_4_14.symm, n_7_12, n_7_12.symm, n_7_13, n_7_13.symm, n_7_14, n_7_14.symm, n_12_13, n_12_13.symm, n_12_14, n_12_14.symm, n_13_14, n_13_14.symm]
theorem mP_ln_tl (h : mOk A x) : (mP A x M).ln (A 13) = 6 := by
  obtain ⟨n_x_0, n_x_1, n_x_2, n_x_3, n_x_4, n_x_7, n_x_12, n_x_13, n_x_14, n_0_1, n_0_2, n_0_3, n_0_4, n_0_7, n_0_12, n_0_13, n_0_14, n_1_2, n_1_3, n_1_4, n_1_7, n_1_12, n_1_13, n_1_14, n_2_3, n_2_4, n_2_7, n_2_12, n_2_13, n_2_14, n_3_4, n_3_7, n_3_12, n_3_13, n_3_14, n_4_7, n_4_12, n_4_13, n_4_14, n_7_12, n_7_13, n_7_14, n_12_13, n_12_14, n_13_14⟩ := mOk_ne h
  show (if A 13 = A 0 then 17 else if A 13 = A 4 then 104448 else if A 13 = A 7 then 60000 else if A 13 = A 12 then 6 else if A 13 = A 13 then 6 else if A 13 = A 14 then 6 else 102) = _
  simp [n_x_0, n_x_0.symm, n_x_1, n_x_1.symm, n_x_2, n_x_2.symm, n_x_3, n_x_3.symm, n_x_4, n_x_4.symm, n_x_7, n_x_7.symm, n_x_12, n_x_12.symm, n_x_13, n_x_13.symm, n_x_14, n_x_14.symm, n_0_1, n_0_1.symm, n_0_2, n_0_2.symm, n_0_3, n_0_3.symm, n_0_4, n_0_4.symm, n_0_7, n_0_7.symm, n_0_12, n_0_12.symm, n_0_13, n_0_13.symm, n_0_14, n_0_14.symm, n_1_2, n_1_2.symm, n_1_3, n_1_3.symm, n_1_4, n_1_4.symm, n_1_7, n_1_7.symm, n_1_12, n_1_12.symm, n_1_13, n_1_13.symm, n_1_14, n_1_14.symm, n_2_3, n_2_3.symm, n_2_4, n_2_4.symm, n_2_7, n_2_7.symm, n_2_12, n_2_12.symm, n_2_13, n_2_13.symm, n_2_14, n_2_14.symm, n_3_4, n_3_4.symm, n_3_7, n_3_7.symm, n_3_12, n_3_12.symm, n_3_13, n_3_13.symm, n_3_14, n_3_14.symm, n_4_7, n_4_7.symm, n_4_12, n_4_12.symm, n_4_13, n_4_13.symm, n_4_14, n_4_14.symm, n_7_12, n_7_12.symm, n_7_13, n_7_13.symm, n_7_14, n_7_14.symm, n_12_13, n_12_13.symm, n_12_14, n_12_14.symm, n_13_14, n_13_14.symm]
theorem mP_ri_tl (h : mOk A x) : (mP A x M).rj (A 13) = M.2.tl := by
  obtain ⟨n_x_0, n_x_1, n_x_2, n_x_3, n_x_4, n_x_7, n_x_12, n_x_13, n_x_14, n_0_1, n_0_2, n_0_3, n_0_4, n_0_7, n_0_12, n_0_13, n_0_14, n_1_2, n_1_3, n_1_4, n_1_7, n_1_12, n_1_13, n_1_14, n_2_3, n_2_4, n_2_7, n_2_12, n_2_13, n_2_14, n_3_4, n_3_7, n_3_12, n_3_13, n_3_14, n_4_7, n_4_12, n_4_13, n_4_14, n_7_12, n_7_13, n_7_14, n_12_13, n_12_14, n_13_14⟩ := mOk_ne h
  show (if A 13 = A 4 then M.1.wd else if A 13 = A 13 then M.2.tl else fun _ => 0) = _
  simp [n_x_0, n_x_0.symm, n_x_1, n_x_1.symm, n_x_2, n_x_2.symm, n_x_3, n_x_3.symm, n_x_4, n_x_4.symm, n_x_7, n_x_7.symm, n_x_12, n_x_12.symm, n_x_13, n_x_13.symm, n_x_14, n_x_14.symm, n_0_1, n_0_1.symm, n_0_2, n_0_2.symm, n_0_3, n_0_3.symm, n_0_4, n_0_4.symm, n_0_7, n_0_7.symm, n_0_12, n_0_12.symm, n_0_13, n_0_13.symm, n_0_14, n_0_14.symm, n_1_2, n_1_2.symm, n_1_3, n_1_3.symm, n_1_4, n_1_4.symm, n_1_7, n_1_7.symm, n_1_12, n_1_12.symm, n_1_13, n_1_13.symm, n_1_14, n_1_14.symm, n_2_3, n_2_3.symm, n_2_4, n_2_4.symm, n_2_7, n_2_7.symm, n_2_12, n_2_12.symm, n_2_13, n_2_13.symm, n_2_14, n_2_14.symm, n_3_4, n_3_4.symm, n_3_7, n_3_7.symm, n_3_12, n_3_12.symm, n_3_13, n_3_13.symm, n_3_14, n_3_14.symm, n_4_7, n_4_7.symm, n_4_12, n_4_12.symm, n_4_13, n_4_13.symm, n_4_14, n_4_14.symm, n_7_12, n_7_12.symm, n_7_13, n_7_13.symm, n_7_14, n_7_14.symm, n_12_13, n_12_13.symm, n_12_14, n_12_14.symm, n_13_14, n_13_14.symm]
theorem mP_st_tl (h : mOk A x) (g : Nat → Int64) : (mP A x M).rowJ (A 13) g = mP A x (M.1, M.2.s_tl g) := by
  obtain ⟨n_x_0, n_x_1, n_x_2, n_x_3, n_x_4, n_x_7, n_x_12, n_x_13, n_x_14, n_0_1, n_0_2, n_0_3, n_0_4, n_0_7, n_0_12, n_0_13, n_0_14, n_1_2, n_1_3, n_1_4, n_1_7, n_1_12, n_1_13, n_1_14, n_2_3, n_2_4, n_2_7, n_2_12, n_2_13, n_2_14, n_3_4, n_3_7, n_3_12, n_3_13, n_3_14, n_4_7, n_4_12, n_4_13, n_4_14, n_7_12, n_7_13, n_7_14, n_12_13, n_12_14, n_13_14⟩ := mOk_ne h
  have e : va_up (mP A x M).rj (A 13) g = (mP A x (M.1, M.2.s_tl g)).rj := by
    funext a
    show (if a = A 13 then g else if a = A 4 then M.1.wd else if a = A 13 then M.2.tl else fun _ => 0) = (if a = A 4 then M.1.wd else if a = A 13 then g else fun _ => 0)
    by_cases e0 : a = A 13
    · subst e0; simp [n_x_0, n_x_0.symm, n_x_1, n_x_1.symm, n_x_2, n_x_2.symm, n_x_3, n_x_3.symm, n_x_4, n_x_4.symm, n_x_7, n_x_7.symm, n_x_12, n_x_12.symm, n_x_13, n_x_13.symm, n_x_14, n_x_14.symm, n_0_1, n_0_1.symm, n_0_2, n_0_2.symm, n_0_3, n_0_3.symm, n_0_4, n_0_4.symm, n_0_7, n_0_7.symm, n_0_12, n_0_12.symm, n_0_13, n_0_13.symm, n_0_14, n_0_14.symm, n_1_2, n_1_2.symm, n_1_3, n_1_3.symm, n_1_4, n_1_4.symm, n_1_7, n_1_7.symm, n_1_12, n_1_12.symm, n_1_13, n_1_13.symm, n_1_14, n_1_14.symm, n_2_3, n_2_3.symm, n_2_4, n_2_4.symm, n_2_7, n_2_7.symm, n_2_12, n_2_12.symm, n_2_13, n_2_13.symm, n_2_14, n_2_14.symm, n_3_4, n_3_4.symm, n_3_7, n_3_7.symm, n_3_12, n_3_12.symm, n_3_13, n_3_13.symm, n_3_14, n_3_14.symm, n_4_7, n_4_7.symm, n_4_12, n_4_12.symm, n_4_13, n_4_13.symm, n_4_14, n_4_14.symm, n_7_12, n_7_12.symm, n_7_13, n_7_13.symm, n_7_14, n_7_14.symm, n_12_13, n_12_13.symm, n_12_14, n_12_14.symm, n_13_14, n_13_14.symm]
    · simp [e0]
  show (_, _, _, _, _, _, va_up (mP A x M).rj (A 13) g, _) = _
  rw [e]; rfl
theorem mP_in_hd : A 14 ∈ (mP A x M).L := by
  show A 14 ∈ [x, A 0, A 1, A 2, A 3, A 4, A 7, A 12, A 13, A 14]
  simp
theorem mP_K_hd (h : mOk A x) : (mP A x M).K (A 14) = 8 := by
  obtain ⟨n_x_0, n_x_1, n_x_2, n_x_3, n_x_4, n_x_7, n_x_12, n_x_13, n_x_14, n_0_1, n_0_2, n_0_3, n_0_4, n_0_7, n_0_12, n_0_13, n_0_14, n_1_2, n_1_3, n_1_4, n_1_7, n_1_12, n_1_13, n_1_14, n_2_3, n_2_4, n_2_7, n_2_12, n_2_13, n_2_14, n_3_4, n_3_7, n_3_12, n_3_13, n_3_14, n_4_7, n_4_12, n_4_13, n_4_14, n_7_12, n_7_13, n_7_14, n_12_13, n_12_14, n_13_14⟩ := mOk_ne h
  show (if A 14 = x then 6 else if A 14 = A 4 then 9 else if A 14 = A 13 then 9 else 8) = _
  simp [n_x_0, n_x_0.symm, n_x_1, n_x_1.symm, n_x_2, n_x_2.symm, n_x_3, n_x_3.symm, n_x_4, n_x_4.symm, n_x_7, n_x_7.symm, n_x_12, n_x_12.symm, n_x_13, n_x_13.symm, n_x_14, n_x_14.symm, n_0_1, n_0_1.symm, n_0_2, n_0_2.symm, n_0_3, n_0_3.symm, n_0_4, n_0_4.symm, n_0_7, n_0_7.symm, n_0_12, n_0_12.symm, n_0_13, n_0_13.symm, n_0_14, n_0_14.symm, n_1_2, n_1_2.symm, n_1_3, n_1_3.symm, n_1_4, n_1_4.symm, n_1_7, n_1_7.symm, n_1_12, n_1_12.symm, n_1_13, n_1_13.symm, n_1_14, n_1_14.symm, n_2_3, n_2_3.symm, n_2_4, n_2_4.symm, n_2_7, n_2_7.symm, n_2_12, n_2_12.symm, n_2_13, n_2_13.symm, n_2_14, n_2_14.symm, n_3_4, n_3_4.symm, n_3_7, n_3_7.symm, n_3_12, n_3_12.symm, n_3_13, n_3_13.symm, n_3_14, n_3_14.symm, n_4_7, n_4_7.symm, n_4_12, n_4_12.symm, n_4_13, n_4_13.symm, n_4_14, n_4_14.symm, n_7_12, n_7_12.symm, n_7_13, n_7_13.symm, n_7_14, n_7_14.symm, n_12_13, n_12_13.symm, n_12_14, n_12_14.symm, n_13_14, n_13_14.symm]
theorem mP_ln_hd (h : mOk A x) : (mP A x M).ln (A 14) = 6 := by
  obtain ⟨n_x_0, n_x_1, n_x_2, n_x_3, n_x_4, n_x_7, n_x_12, n_x_13, n_x_14, n_0_1, n_0_2, n_0_3, n_0_4, n_0_7, n_0_12, n_0_13, n_0_14, n_1_2, n_1_3, n_1_4, n_1_7, n_1_12, n_1_13, n_1_14, n_2_3, n_2_4, n_2_7, n_2_12, n_2_13, n_2_14, n_3_4, n_3_7, n_3_12, n_3_13, n_3_14, n_4_7, n_4_12, n_4_13, n_4_14, n_7_12, n_7_13, n_7_14, n_12_13, n_12_14, n_13_14⟩ := mOk_ne h
  show (if A 14 = A 0 then 17 else if A 14 = A 4 then 104448 else if A 14 = A 7 then 60000 else if A 14 = A 12 then 6 else if A 14 = A 13 then 6 else if A 14 = A 14 then 6 else 102) = _
  simp [n_x_0, n_x_0.symm, n_x_1, n_x_1.symm, n_x_2, n_x_2.symm, n_x_3, n_x_3.symm, n_x_4, n_x_4.symm, n_x_7, n_x_7.symm, n_x_12, n_x_12.symm, n_x_13, n_x_13.symm, n_x_14, n_x_14.symm, n_0_1, n_0_1.symm, n_0_2, n_0_2.symm, n_0_3, n_0_3.symm, n_0_4, n_0_4.symm, n_0_7, n_0_7.symm, n_0_12, n_0_12.symm, n_0_13, n_0_13.symm, n_0_14, n_0_14.symm, n_1_2, n_1_2.symm, n_1_3, n_1_3.symm, n_1_4, n_1_4.symm, n_1_7, n_1_7.symm, n_1_12, n_1_12.symm, n_1_13, n_1_13.symm, n_1_14, n_1_14.symm, n_2_3, n_2_3.symm, n_2_4, n_2_4.symm, n_2_7, n_2_7.symm, n_2_12, n_2_12.symm, n_2_13, n_2_13.symm, n_2_14, n_2_14.symm, n_3_4, n_3_4.symm, n_3_7, n_3_7.symm, n_3_12, n_3_12.symm, n_3_13, n_3_13.symm, n_3_14, n_3_14.symm, n_4_7, n_4_7.symm, n_4_12, n_4_12.symm, n_4_13, n_4_13.symm, n_4_14, n_4_14.symm, n_7_12, n_7_12.symm, n_7_13, n_7_13.symm, n_7_14, n_7_14.symm, n_12_13, n_12_13.symm, n_12_14, n_12_14.symm, n_13_14, n_13_14.symm]
theorem mP_ri_hd (h : mOk A x) : (mP A x M).ri (A 14) = M.2.hd := by
  obtain ⟨n_x_0, n_x_1, n_x_2, n_x_3, n_x_4, n_x_7, n_x_12, n_x_13, n_x_14, n_0_1, n_0_2, n_0_3, n_0_4, n_0_7, n_0_12, n_0_13, n_0_14, n_1_2, n_1_3, n_1_4, n_1_7, n_1_12, n_1_13, n_1_14, n_2_3, n_2_4, n_2_7, n_2_12, n_2_13, n_2_14, n_3_4, n_3_7, n_3_12, n_3_13, n_3_14, n_4_7, n_4_12, n_4_13, n_4_14, n_7_12, n_7_13, n_7_14, n_12_13, n_12_14, n_13_14⟩ := mOk_ne h
  show (if A 14 = A 0 then M.1.mn else if A 14 = A 1 then M.1.ky else if A 14 = A 2 then M.1.kd else if A 14 = A 3 then M.1.sz else if A 14 = A 7 then M.2.bt else if A 14 = A 12 then M.2.pl else if A 14 = A 14 then M.2.hd else fun _ => 0) = _
  simp [n_x_0, n_x_0.symm, n_x_1, n_x_1.symm, n_x_2, n_x_2.symm, n_x_3, n_x_3.symm, n_x_4, n_x_4.symm, n_x_7, n_x_7.symm, n_x_12, n_x_12.symm, n_x_13, n_x_13.symm, n_x_14, n_x_14.symm, n_0_1, n_0_1.symm, n_0_2, n_0_2.symm, n_0_3, n_0_3.symm, n_0_4, n_0_4.symm, n_0_7, n_0_7.symm, n_0_12, n_0_12.symm, n_0_13, n_0_13.symm, n_0_14, n_0_14.symm, n_1_2, n_1_2.symm, n_1_3, n_1_3.symm, n_1_4, n_1_4.symm, n_1_7, n_1_7.symm, n_1_12, n_1_12.symm, n_1_13, n_1_13.symm, n_1_14, n_1_14.symm, n_2_3, n_2_3.symm, n_2_4, n_2_4.symm, n_2_7, n_2_7.symm, n_2_12, n_2_12.symm, n_2_13, n_2_13.symm, n_2_14, n_2_14.symm, n_3_4, n_3_4.symm, n_3_7, n_3_7.symm, n_3_12, n_3_12.symm, n_3_13, n_3_13.symm, n_3_14, n_3_14.symm, n_4_7, n_4_7.symm, n_4_12, n_4_12.symm, n_4_13, n_4_13.symm, n_4_14, n_4_14.symm, n_7_12, n_7_12.symm, n_7_13, n_7_13.symm, n_7_14, n_7_14.symm, n_12_13, n_12_13.symm, n_12_14, n_12_14.symm, n_13_14, n_13_14.symm]
theorem mP_st_hd (h : mOk A x) (g : Nat → Int32) : (mP A x M).rowI (A 14) g = mP A x (M.1, M.2.s_hd g) := by
  obtain ⟨n_x_0, n_x_1, n_x_2, n_x_3, n_x_4, n_x_7, n_x_12, n_x_13, n_x_14, n_0_1, n_0_2, n_0_3, n_0_4, n_0_7, n_0_12, n_0_13, n_0_14, n_1_2, n_1_3, n_1_4, n_1_7, n_1_12, n_1_13, n_1_14, n_2_3, n_2_4, n_2_7, n_2_12, n_2_13, n_2_14, n_3_4, n_3_7, n_3_12, n_3_13, n_3_14, n_4_7, n_4_12, n_4_13, n_4_14, n_7_12, n_7_13, n_7_14, n_12_13, n_12_14, n_13_14⟩ := mOk_ne h
  have e : va_up (mP A x M).ri (A 14) g = (mP A x (M.1, M.2.s_hd g)).ri := by
    funext a
    show (if a = A 14 then g else if a = A 0 then M.1.mn else if a = A 1 then M.1.ky else if a = A 2 then M.1.kd else if a = A 3 then M.1.sz else if a = A 7 then M.2.bt else if a = A 12 then M.2.pl else if a = A 14 then M.2.hd else fun _ => 0) = (if a = A 0 then M.1.mn else if a = A 1 then M.1.ky else if a = A 2 then M.1.kd else if a = A 3 then M.1.sz else if a = A 7 then M.2.bt else if a = A 12 then M.2.pl else if a = A 14 then g else fun _ => 0)
    by_cases e0 : a = A 14
    · subst e0; simp [n_x_0, n_x_0.symm, n_x_1, n_x_1.symm, n_x_2, n_x_2.symm, n_x_3, n_x_3.symm, n_x_4, n_x_4.symm, n_x_7, n_x_7.symm, n_x_12, n_x_12.symm, n_x_13, n_x_13.symm, n_x_14, n_x_14.symm, n_0_1, n_0_1.symm, n_0_2, n_0_2.symm, n_0_3, n_0_3.symm, n_0_4, n_0_4.symm, n_0_7, n_0_7.symm, n_0_12, n_0_12.symm, n_0_13, n_0_13.symm, n_0_14, n_0_14.symm, n_1_2, n_1_2.symm, n_1_3, n_1_3.symm, n_1_4, n_1_4.symm, n_1_7, n_1_7.symm, n_1_12, n_1_12.symm, n_1_13, n_1_13.symm, n_1_14, n_1_14.symm, n_2_3, n_2_3.symm, n_2_4, n_2_4.symm, n_2_7, n_2_7.symm, n_2_12, n_2_12.symm, n_2_13, n_2_13.symm, n_2_14, n_2_14.symm, n_3_4, n_3_4.symm, n_3_7, n_3_7.symm, n_3_12, n_3_12.symm, n_3_13, n_3_13.symm, n_3_14, n_3_14.symm, n_4_7, n_4_7.symm, n_4_12, n_4_12.symm, n_4_13, n_4_13.symm, n_4_14, n_4_14.symm, n_7_12, n_7_12.symm, n_7_13, n_7_13.symm, n_7_14, n_7_14.symm, n_12_13, n_12_13.symm, n_12_14, n_12_14.symm, n_13_14, n_13_14.symm]
    · simp [e0]
  show (_, _, _, _, _, va_up (mP A x M).ri (A 14) g, _, _) = _
  rw [e]; rfl
theorem mP_si_wk (v : Int32) : (mP A x M).setI x 5 v = mP A x (M.1, M.2.s_wk v) := by
  have e : up2 (mP A x M).fi x 5 v = (mP A x (M.1, M.2.s_wk v)).fi := by
    funext a i
    by_cases ha : a = x
    · subst ha
      show va_up _ a (va_up (fun i => if a = a then mfi M i else 0) 5 v) a i = (if a = a then mfi (M.1, M.2.s_wk v) i else 0)
      rw [va_up_self, if_pos rfl]
      by_cases hi : i = 5
      · subst hi; rw [va_up_self]; rfl
      · rw [va_up_ne _ _ hi, if_pos rfl]; unfold mfi; split <;> first | rfl | exact absurd rfl hi
    · rw [up2_ne _ _ (Or.inl ha)]; show (if a = x then mfi M i else 0) = (if a = x then _ else 0); rw [if_neg ha, if_neg ha]
  show (_, _, up2 (mP A x M).fi x 5 v, _, _, _, _, _) = _
  rw [e]; rfl
theorem mP_si_si (v : Int32) : (mP A x M).setI x 6 v = mP A x (M.1, M.2.s_si v) := by
  have e : up2 (mP A x M).fi x 6 v = (mP A x (M.1, M.2.s_si v)).fi := by
    funext a i
    by_cases ha : a = x
    · subst ha
      show va_up _ a (va_up (fun i => if a = a then mfi M i else 0) 6 v) a i = (if a = a then mfi (M.1, M.2.s_si v) i else 0)
      rw [va_up_self, if_pos rfl]
      by_cases hi : i = 6
      · subst hi; rw [va_up_self]; rfl
      · rw [va_up_ne _ _ hi, if_pos rfl]; unfold mfi; split <;> first | rfl | exact absurd rfl hi
    · rw [up2_ne _ _ (Or.inl ha)]; show (if a = x then mfi M i else 0) = (if a = x then _ else 0); rw [if_neg ha, if_neg ha]
  show (_, _, up2 (mP A x M).fi x 6 v, _, _, _, _, _) = _
  rw [e]; rfl
theorem mP_si_ou (v : Int32) : (mP A x M).setI x 8 v = mP A x (M.1, M.2.s_ou v) := by
  have e : up2 (mP A x M).fi x 8 v = (mP A x (M.1, M.2.s_ou v)).fi := by
    funext a i
    by_cases ha : a = x
    · subst ha
      show va_up _ a (va_up (fun i => if a = a then mfi M i else 0) 8 v) a i = (if a = a then mfi (M.1, M.2.s_ou v) i else 0)
      rw [va_up_self, if_pos rfl]
      by_cases hi : i = 8
      · subst hi; rw [va_up_self]; rfl
      · rw [va_up_ne _ _ hi, if_pos rfl]; unfold mfi; split <;> first | rfl | exact absurd rfl hi
    · rw [up2_ne _ _ (Or.inl ha)]; show (if a = x then mfi M i else 0) = (if a = x then _ else 0); rw [if_neg ha, if_neg ha]
  show (_, _, up2 (mP A x M).fi x 8 v, _, _, _, _, _) = _
  rw [e]; rfl
theorem mP_si_fa (v : Int32) : (mP A x M).setI x 9 v = mP A x (M.1, M.2.s_fa v) := by
  have e : up2 (mP A x M).fi x 9 v = (mP A x (M.1, M.2.s_fa v)).fi := by
    funext a i
    by_cases ha : a = x
    · subst ha
      show va_up _ a (va_up (fun i => if a = a then mfi M i else 0) 9 v) a i = (if a = a then mfi (M.1, M.2.s_fa v) i else 0)
      rw [va_up_self, if_pos rfl]
      by_cases hi : i = 9
      · subst hi; rw [va_up_self]; rfl
      · rw [va_up_ne _ _ hi, if_pos rfl]; unfold mfi; split <;> first | rfl | exact absurd rfl hi
    · rw [up2_ne _ _ (Or.inl ha)]; show (if a = x then mfi M i else 0) = (if a = x then _ else 0); rw [if_neg ha, if_neg ha]
  show (_, _, up2 (mP A x M).fi x 9 v, _, _, _, _, _) = _
  rw [e]; rfl
theorem mP_si_fp (v : Int32) : (mP A x M).setI x 10 v = mP A x (M.1, M.2.s_fp v) := by
  have e : up2 (mP A x M).fi x 10 v = (mP A x (M.1, M.2.s_fp v)).fi := by
    funext a i
    by_cases ha : a = x
    · subst ha
      show va_up _ a (va_up (fun i => if a = a then mfi M i else 0) 10 v) a i = (if a = a then mfi (M.1, M.2.s_fp v) i else 0)
      rw [va_up_self, if_pos rfl]
      by_cases hi : i = 10
      · subst hi; rw [va_up_self]; rfl
      · rw [va_up_ne _ _ hi, if_pos rfl]; unfold mfi; split <;> first | rfl | exact absurd rfl hi
    · rw [up2_ne _ _ (Or.inl ha)]; show (if a = x then mfi M i else 0) = (if a = x then _ else 0); rw [if_neg ha, if_neg ha]
  show (_, _, up2 (mP A x M).fi x 10 v, _, _, _, _, _) = _
  rw [e]; rfl
theorem mP_si_aa (v : Int32) : (mP A x M).setI x 11 v = mP A x (M.1, M.2.s_aa v) := by
  have e : up2 (mP A x M).fi x 11 v = (mP A x (M.1, M.2.s_aa v)).fi := by
    funext a i
    by_cases ha : a = x
    · subst ha
      show va_up _ a (va_up (fun i => if a = a then mfi M i else 0) 11 v) a i = (if a = a then mfi (M.1, M.2.s_aa v) i else 0)
      rw [va_up_self, if_pos rfl]
      by_cases hi : i = 11
      · subst hi; rw [va_up_self]; rfl
      · rw [va_up_ne _ _ hi, if_pos rfl]; unfold mfi; split <;> first | rfl | exact absurd rfl hi
    · rw [up2_ne _ _ (Or.inl ha)]; show (if a = x then mfi M i else 0) = (if a = x then _ else 0); rw [if_neg ha, if_neg ha]
  show (_, _, up2 (mP A x M).fi x 11 v, _, _, _, _, _) = _
  rw [e]; rfl
theorem mP_si_bi (v : Int32) : (mP A x M).setI x 15 v = mP A x (M.1, M.2.s_bi v) := by
  have e : up2 (mP A x M).fi x 15 v = (mP A x (M.1, M.2.s_bi v)).fi := by
    funext a i
    by_cases ha : a = x
    · subst ha
      show va_up _ a (va_up (fun i => if a = a then mfi M i else 0) 15 v) a i = (if a = a then mfi (M.1, M.2.s_bi v) i else 0)
      rw [va_up_self, if_pos rfl]
      by_cases hi : i = 15
      · subst hi; rw [va_up_self]; rfl
      · rw [va_up_ne _ _ hi, if_pos rfl]; unfold mfi; split <;> first | rfl | exact absurd rfl hi
    · rw [up2_ne _ _ (Or.inl ha)]; show (if a = x then mfi M i else 0) = (if a = x then _ else 0); rw [if_neg ha, if_neg ha]
  show (_, _, up2 (mP A x M).fi x 15 v, _, _, _, _, _) = _
  rw [e]; rfl
variable {F : Fx} {cc : ByteArray} {nL : Nat} {own : String} {Ts : List Cond} {ret : Option FieldType} {kc ks : Nat} {Q : State → Prop} {pc : Nat} {lv : List (Nat × Value)} {st : List Value}
theorem m_ref_mn (Z : Cx F cc nL own Ts ret) {ix : Nat} (hin : ∀ w ∈ u_ws RX7 TX7 16, w ∈ Ts) (hlink : Cond.fieldLink own ix (TX7 0).1 (TX7 0).2.1 (TX7 0).2.2.1 ∈ Ts) (d : decode cc pc = .ok (.getfield ix, 3)) (k : G F nL (mP A x M) kc ks Q (pc + 3) lv (.ref (A 0) :: st)) : G F nL (mP A x M) kc ks Q pc lv (.ref x :: st) := g_getr Z 6 0 rfl (by decide) hin hlink d mP_x mP_Kx rfl k
theorem m_ald_mn (Z : Cx F cc nL own Ts ret) {i : Int32} (h : mOk A x) (d : decode cc pc = .ok (.iaload, 1)) (hi : vp_in i 17) (k : G F nL (mP A x M) kc ks Q (pc + 1) lv (.int (M.1.mn i.toNatClampNeg) :: st)) : G F nL (mP A x M) kc ks Q pc lv (.int i :: .ref (A 0) :: st) := by
  refine g_iald Z d mP_in_mn (mP_K_mn h) (by rw [mP_ln_mn h]; exact hi) ?_
  rw [mP_ri_mn h]
  exact k
theorem m_ast_mn (Z : Cx F cc nL own Ts ret) {i : Int32} {v : Int32} (h : mOk A x) (d : decode cc pc = .ok (.iastore, 1)) (hi : vp_in i 17) (k : G F nL (mP A x (M.1.s_mn (upd (M.1.mn) i.toNatClampNeg v), M.2)) kc ks Q (pc + 1) lv st) : G F nL (mP A x M) kc ks Q pc lv (.int v :: .int i :: .ref (A 0) :: st) := by
  refine g_iast Z d mP_in_mn (mP_K_mn h) (by rw [mP_ln_mn h]; exact hi) ?_
  rw [mP_ri_mn h, mP_st_mn h]
  exact k
theorem m_ref_ky (Z : Cx F cc nL own Ts ret) {ix : Nat} (hin : ∀ w ∈ u_ws RX7 TX7 16, w ∈ Ts) (hlink : Cond.fieldLink own ix (TX7 1).1 (TX7 1).2.1 (TX7 1).2.2.1 ∈ Ts) (d : decode cc pc = .ok (.getfield ix, 3)) (k : G F nL (mP A x M) kc ks Q (pc + 3) lv (.ref (A 1) :: st)) : G F nL (mP A x M) kc ks Q pc lv (.ref x :: st) := g_getr Z 6 1 rfl (by decide) hin hlink d mP_x mP_Kx rfl k
theorem m_ald_ky (Z : Cx F cc nL own Ts ret) {i : Int32} (h : mOk A x) (d : decode cc pc = .ok (.iaload, 1)) (hi : vp_in i 102) (k : G F nL (mP A x M) kc ks Q (pc + 1) lv (.int (M.1.ky i.toNatClampNeg) :: st)) : G F nL (mP A x M) kc ks Q pc lv (.int i :: .ref (A 1) :: st) := by
  refine g_iald Z d mP_in_ky (mP_K_ky h) (by rw [mP_ln_ky h]; exact hi) ?_
  rw [mP_ri_ky h]
  exact k
theorem m_ast_ky (Z : Cx F cc nL own Ts ret) {i : Int32} {v : Int32} (h : mOk A x) (d : decode cc pc = .ok (.iastore, 1)) (hi : vp_in i 102) (k : G F nL (mP A x (M.1.s_ky (upd (M.1.ky) i.toNatClampNeg v), M.2)) kc ks Q (pc + 1) lv st) : G F nL (mP A x M) kc ks Q pc lv (.int v :: .int i :: .ref (A 1) :: st) := by
  refine g_iast Z d mP_in_ky (mP_K_ky h) (by rw [mP_ln_ky h]; exact hi) ?_
  rw [mP_ri_ky h, mP_st_ky h]
  exact k
theorem m_ref_kd (Z : Cx F cc nL own Ts ret) {ix : Nat} (hin : ∀ w ∈ u_ws RX7 TX7 16, w ∈ Ts) (hlink : Cond.fieldLink own ix (TX7 2).1 (TX7 2).2.1 (TX7 2).2.2.1 ∈ Ts) (d : decode cc pc = .ok (.getfield ix, 3)) (k : G F nL (mP A x M) kc ks Q (pc + 3) lv (.ref (A 2) :: st)) : G F nL (mP A x M) kc ks Q pc lv (.ref x :: st) := g_getr Z 6 2 rfl (by decide) hin hlink d mP_x mP_Kx rfl k
theorem m_ald_kd (Z : Cx F cc nL own Ts ret) {i : Int32} (h : mOk A x) (d : decode cc pc = .ok (.iaload, 1)) (hi : vp_in i 102) (k : G F nL (mP A x M) kc ks Q (pc + 1) lv (.int (M.1.kd i.toNatClampNeg) :: st)) : G F nL (mP A x M) kc ks Q pc lv (.int i :: .ref (A 2) :: st) := by
  refine g_iald Z d mP_in_kd (mP_K_kd h) (by rw [mP_ln_kd h]; exact hi) ?_
  rw [mP_ri_kd h]
  exact k
theorem m_ast_kd (Z : Cx F cc nL own Ts ret) {i : Int32} {v : Int32} (h : mOk A x) (d : decode cc pc = .ok (.iastore, 1)) (hi : vp_in i 102) (k : G F nL (mP A x (M.1.s_kd (upd (M.1.kd) i.toNatClampNeg v), M.2)) kc ks Q (pc + 1) lv st) : G F nL (mP A x M) kc ks Q pc lv (.int v :: .int i :: .ref (A 2) :: st) := by
  refine g_iast Z d mP_in_kd (mP_K_kd h) (by rw [mP_ln_kd h]; exact hi) ?_
  rw [mP_ri_kd h, mP_st_kd h]
  exact k
theorem m_ref_sz (Z : Cx F cc nL own Ts ret) {ix : Nat} (hin : ∀ w ∈ u_ws RX7 TX7 16, w ∈ Ts) (hlink : Cond.fieldLink own ix (TX7 3).1 (TX7 3).2.1 (TX7 3).2.2.1 ∈ Ts) (d : decode cc pc = .ok (.getfield ix, 3)) (k : G F nL (mP A x M) kc ks Q (pc + 3) lv (.ref (A 3) :: st)) : G F nL (mP A x M) kc ks Q pc lv (.ref x :: st) := g_getr Z 6 3 rfl (by decide) hin hlink d mP_x mP_Kx rfl k
theorem m_ald_sz (Z : Cx F cc nL own Ts ret) {i : Int32} (h : mOk A x) (d : decode cc pc = .ok (.iaload, 1)) (hi : vp_in i 102) (k : G F nL (mP A x M) kc ks Q (pc + 1) lv (.int (M.1.sz i.toNatClampNeg) :: st)) : G F nL (mP A x M) kc ks Q pc lv (.int i :: .ref (A 3) :: st) := by
  refine g_iald Z d mP_in_sz (mP_K_sz h) (by rw [mP_ln_sz h]; exact hi) ?_
  rw [mP_ri_sz h]
  exact k
theorem m_ast_sz (Z : Cx F cc nL own Ts ret) {i : Int32} {v : Int32} (h : mOk A x) (d : decode cc pc = .ok (.iastore, 1)) (hi : vp_in i 102) (k : G F nL (mP A x (M.1.s_sz (upd (M.1.sz) i.toNatClampNeg v), M.2)) kc ks Q (pc + 1) lv st) : G F nL (mP A x M) kc ks Q pc lv (.int v :: .int i :: .ref (A 3) :: st) := by
  refine g_iast Z d mP_in_sz (mP_K_sz h) (by rw [mP_ln_sz h]; exact hi) ?_
  rw [mP_ri_sz h, mP_st_sz h]
  exact k
theorem m_ref_wd (Z : Cx F cc nL own Ts ret) {ix : Nat} (hin : ∀ w ∈ u_ws RX7 TX7 16, w ∈ Ts) (hlink : Cond.fieldLink own ix (TX7 4).1 (TX7 4).2.1 (TX7 4).2.2.1 ∈ Ts) (d : decode cc pc = .ok (.getfield ix, 3)) (k : G F nL (mP A x M) kc ks Q (pc + 3) lv (.ref (A 4) :: st)) : G F nL (mP A x M) kc ks Q pc lv (.ref x :: st) := g_getr Z 6 4 rfl (by decide) hin hlink d mP_x mP_Kx rfl k
theorem m_ald_wd (Z : Cx F cc nL own Ts ret) {i : Int32} (h : mOk A x) (d : decode cc pc = .ok (.laload, 1)) (hi : vp_in i 104448) (k : G F nL (mP A x M) kc ks Q (pc + 1) lv (.long (M.1.wd i.toNatClampNeg) :: st)) : G F nL (mP A x M) kc ks Q pc lv (.int i :: .ref (A 4) :: st) := by
  refine g_lald Z d mP_in_wd (mP_K_wd h) (by rw [mP_ln_wd h]; exact hi) ?_
  rw [mP_ri_wd h]
  exact k
theorem m_ast_wd (Z : Cx F cc nL own Ts ret) {i : Int32} {v : Int64} (h : mOk A x) (d : decode cc pc = .ok (.lastore, 1)) (hi : vp_in i 104448) (k : G F nL (mP A x (M.1.s_wd (vp_updL (M.1.wd) i.toNatClampNeg v), M.2)) kc ks Q (pc + 1) lv st) : G F nL (mP A x M) kc ks Q pc lv (.long v :: .int i :: .ref (A 4) :: st) := by
  refine g_last Z d mP_in_wd (mP_K_wd h) (by rw [mP_ln_wd h]; exact hi) ?_
  rw [mP_ri_wd h, mP_st_wd h]
  exact k
theorem m_ref_bt (Z : Cx F cc nL own Ts ret) {ix : Nat} (hin : ∀ w ∈ u_ws RX7 TX7 16, w ∈ Ts) (hlink : Cond.fieldLink own ix (TX7 7).1 (TX7 7).2.1 (TX7 7).2.2.1 ∈ Ts) (d : decode cc pc = .ok (.getfield ix, 3)) (k : G F nL (mP A x M) kc ks Q (pc + 3) lv (.ref (A 7) :: st)) : G F nL (mP A x M) kc ks Q pc lv (.ref x :: st) := g_getr Z 6 7 rfl (by decide) hin hlink d mP_x mP_Kx rfl k
theorem m_ald_bt (Z : Cx F cc nL own Ts ret) {i : Int32} (h : mOk A x) (d : decode cc pc = .ok (.iaload, 1)) (hi : vp_in i 60000) (k : G F nL (mP A x M) kc ks Q (pc + 1) lv (.int (M.2.bt i.toNatClampNeg) :: st)) : G F nL (mP A x M) kc ks Q pc lv (.int i :: .ref (A 7) :: st) := by
  refine g_iald Z d mP_in_bt (mP_K_bt h) (by rw [mP_ln_bt h]; exact hi) ?_
  rw [mP_ri_bt h]
  exact k
theorem m_ast_bt (Z : Cx F cc nL own Ts ret) {i : Int32} {v : Int32} (h : mOk A x) (d : decode cc pc = .ok (.iastore, 1)) (hi : vp_in i 60000) (k : G F nL (mP A x (M.1, M.2.s_bt (upd (M.2.bt) i.toNatClampNeg v))) kc ks Q (pc + 1) lv st) : G F nL (mP A x M) kc ks Q pc lv (.int v :: .int i :: .ref (A 7) :: st) := by
  refine g_iast Z d mP_in_bt (mP_K_bt h) (by rw [mP_ln_bt h]; exact hi) ?_
  rw [mP_ri_bt h, mP_st_bt h]
  exact k
theorem m_ref_pl (Z : Cx F cc nL own Ts ret) {ix : Nat} (hin : ∀ w ∈ u_ws RX7 TX7 16, w ∈ Ts) (hlink : Cond.fieldLink own ix (TX7 12).1 (TX7 12).2.1 (TX7 12).2.2.1 ∈ Ts) (d : decode cc pc = .ok (.getfield ix, 3)) (k : G F nL (mP A x M) kc ks Q (pc + 3) lv (.ref (A 12) :: st)) : G F nL (mP A x M) kc ks Q pc lv (.ref x :: st) := g_getr Z 6 12 rfl (by decide) hin hlink d mP_x mP_Kx rfl k
theorem m_ald_pl (Z : Cx F cc nL own Ts ret) {i : Int32} (h : mOk A x) (d : decode cc pc = .ok (.iaload, 1)) (hi : vp_in i 6) (k : G F nL (mP A x M) kc ks Q (pc + 1) lv (.int (M.2.pl i.toNatClampNeg) :: st)) : G F nL (mP A x M) kc ks Q pc lv (.int i :: .ref (A 12) :: st) := by
  refine g_iald Z d mP_in_pl (mP_K_pl h) (by rw [mP_ln_pl h]; exact hi) ?_
  rw [mP_ri_pl h]
  exact k
theorem m_ast_pl (Z : Cx F cc nL own Ts ret) {i : Int32} {v : Int32} (h : mOk A x) (d : decode cc pc = .ok (.iastore, 1)) (hi : vp_in i 6) (k : G F nL (mP A x (M.1, M.2.s_pl (upd (M.2.pl) i.toNatClampNeg v))) kc ks Q (pc + 1) lv st) : G F nL (mP A x M) kc ks Q pc lv (.int v :: .int i :: .ref (A 12) :: st) := by
  refine g_iast Z d mP_in_pl (mP_K_pl h) (by rw [mP_ln_pl h]; exact hi) ?_
  rw [mP_ri_pl h, mP_st_pl h]
  exact k
theorem m_ref_tl (Z : Cx F cc nL own Ts ret) {ix : Nat} (hin : ∀ w ∈ u_ws RX7 TX7 16, w ∈ Ts) (hlink : Cond.fieldLink own ix (TX7 13).1 (TX7 13).2.1 (TX7 13).2.2.1 ∈ Ts) (d : decode cc pc = .ok (.getfield ix, 3)) (k : G F nL (mP A x M) kc ks Q (pc + 3) lv (.ref (A 13) :: st)) : G F nL (mP A x M) kc ks Q pc lv (.ref x :: st) := g_getr Z 6 13 rfl (by decide) hin hlink d mP_x mP_Kx rfl k
theorem m_ald_tl (Z : Cx F cc nL own Ts ret) {i : Int32} (h : mOk A x) (d : decode cc pc = .ok (.laload, 1)) (hi : vp_in i 6) (k : G F nL (mP A x M) kc ks Q (pc + 1) lv (.long (M.2.tl i.toNatClampNeg) :: st)) : G F nL (mP A x M) kc ks Q pc lv (.int i :: .ref (A 13) :: st) := by
  refine g_lald Z d mP_in_tl (mP_K_tl h) (by rw [mP_ln_tl h]; exact hi) ?_
  rw [mP_ri_tl h]
  exact k
theorem m_ast_tl (Z : Cx F cc nL own Ts ret) {i : Int32} {v : Int64} (h : mOk A x) (d : decode cc pc = .ok (.lastore, 1)) (hi : vp_in i 6) (k : G F nL (mP A x (M.1, M.2.s_tl (vp_updL (M.2.tl) i.toNatClampNeg v))) kc ks Q (pc + 1) lv st) : G F nL (mP A x M) kc ks Q pc lv (.long v :: .int i :: .ref (A 13) :: st) := by
  refine g_last Z d mP_in_tl (mP_K_tl h) (by rw [mP_ln_tl h]; exact hi) ?_
  rw [mP_ri_tl h, mP_st_tl h]
  exact k
theorem m_ref_hd (Z : Cx F cc nL own Ts ret) {ix : Nat} (hin : ∀ w ∈ u_ws RX7 TX7 16, w ∈ Ts) (hlink : Cond.fieldLink own ix (TX7 14).1 (TX7 14).2.1 (TX7 14).2.2.1 ∈ Ts) (d : decode cc pc = .ok (.getfield ix, 3)) (k : G F nL (mP A x M) kc ks Q (pc + 3) lv (.ref (A 14) :: st)) : G F nL (mP A x M) kc ks Q pc lv (.ref x :: st) := g_getr Z 6 14 rfl (by decide) hin hlink d mP_x mP_Kx rfl k
theorem m_ald_hd (Z : Cx F cc nL own Ts ret) {i : Int32} (h : mOk A x) (d : decode cc pc = .ok (.iaload, 1)) (hi : vp_in i 6) (k : G F nL (mP A x M) kc ks Q (pc + 1) lv (.int (M.2.hd i.toNatClampNeg) :: st)) : G F nL (mP A x M) kc ks Q pc lv (.int i :: .ref (A 14) :: st) := by
  refine g_iald Z d mP_in_hd (mP_K_hd h) (by rw [mP_ln_hd h]; exact hi) ?_
  rw [mP_ri_hd h]
  exact k
theorem m_ast_hd (Z : Cx F cc nL own Ts ret) {i : Int32} {v : Int32} (h : mOk A x) (d : decode cc pc = .ok (.iastore, 1)) (hi : vp_in i 6) (k : G F nL (mP A x (M.1, M.2.s_hd (upd (M.2.hd) i.toNatClampNeg v))) kc ks Q (pc + 1) lv st) : G F nL (mP A x M) kc ks Q pc lv (.int v :: .int i :: .ref (A 14) :: st) := by
  refine g_iast Z d mP_in_hd (mP_K_hd h) (by rw [mP_ln_hd h]; exact hi) ?_
  rw [mP_ri_hd h, mP_st_hd h]
  exact k
theorem m_get_wk (Z : Cx F cc nL own Ts ret) {ix : Nat} (hin : ∀ w ∈ u_ws RX7 TX7 16, w ∈ Ts) (hlink : Cond.fieldLink own ix (TX7 5).1 (TX7 5).2.1 (TX7 5).2.2.1 ∈ Ts) (d : decode cc pc = .ok (.getfield ix, 3)) (k : G F nL (mP A x M) kc ks Q (pc + 3) lv (.int M.2.wk :: st)) : G F nL (mP A x M) kc ks Q pc lv (.ref x :: st) := by
  refine g_geti Z 6 5 rfl (by decide) hin hlink d mP_x mP_Kx ?_
  rw [show (mP A x M).fi x 5 = M.2.wk from if_pos rfl]
  exact k
theorem m_put_wk (Z : Cx F cc nL own Ts ret) {ix : Nat} {v : Int32} (hin : ∀ w ∈ u_ws RX7 TX7 16, w ∈ Ts) (hlink : Cond.fieldLink own ix (TX7 5).1 (TX7 5).2.1 (TX7 5).2.2.1 ∈ Ts) (d : decode cc pc = .ok (.putfield ix, 3)) (k : G F nL (mP A x (M.1, M.2.s_wk v)) kc ks Q (pc + 3) lv st) : G F nL (mP A x M) kc ks Q pc lv (.int v :: .ref x :: st) := by
  refine g_puti Z 6 5 rfl (by decide) tyX7 tyX7_ok nmX7 rfl hin hlink d rfl rfl mP_x mP_Kx ?_
  rw [mP_si_wk]
  exact k
theorem m_get_si (Z : Cx F cc nL own Ts ret) {ix : Nat} (hin : ∀ w ∈ u_ws RX7 TX7 16, w ∈ Ts) (hlink : Cond.fieldLink own ix (TX7 6).1 (TX7 6).2.1 (TX7 6).2.2.1 ∈ Ts) (d : decode cc pc = .ok (.getfield ix, 3)) (k : G F nL (mP A x M) kc ks Q (pc + 3) lv (.int M.2.si :: st)) : G F nL (mP A x M) kc ks Q pc lv (.ref x :: st) := by
  refine g_geti Z 6 6 rfl (by decide) hin hlink d mP_x mP_Kx ?_
  rw [show (mP A x M).fi x 6 = M.2.si from if_pos rfl]
  exact k
theorem m_put_si (Z : Cx F cc nL own Ts ret) {ix : Nat} {v : Int32} (hin : ∀ w ∈ u_ws RX7 TX7 16, w ∈ Ts) (hlink : Cond.fieldLink own ix (TX7 6).1 (TX7 6).2.1 (TX7 6).2.2.1 ∈ Ts) (d : decode cc pc = .ok (.putfield ix, 3)) (k : G F nL (mP A x (M.1, M.2.s_si v)) kc ks Q (pc + 3) lv st) : G F nL (mP A x M) kc ks Q pc lv (.int v :: .ref x :: st) := by
  refine g_puti Z 6 6 rfl (by decide) tyX7 tyX7_ok nmX7 rfl hin hlink d rfl rfl mP_x mP_Kx ?_
  rw [mP_si_si]
  exact k
theorem m_get_ou (Z : Cx F cc nL own Ts ret) {ix : Nat} (hin : ∀ w ∈ u_ws RX7 TX7 16, w ∈ Ts) (hlink : Cond.fieldLink own ix (TX7 8).1 (TX7 8).2.1 (TX7 8).2.2.1 ∈ Ts) (d : decode cc pc = .ok (.getfield ix, 3)) (k : G F nL (mP A x M) kc ks Q (pc + 3) lv (.int M.2.ou :: st)) : G F nL (mP A x M) kc ks Q pc lv (.ref x :: st) := by
  refine g_geti Z 6 8 rfl (by decide) hin hlink d mP_x mP_Kx ?_
  rw [show (mP A x M).fi x 8 = M.2.ou from if_pos rfl]
  exact k
theorem m_put_ou (Z : Cx F cc nL own Ts ret) {ix : Nat} {v : Int32} (hin : ∀ w ∈ u_ws RX7 TX7 16, w ∈ Ts) (hlink : Cond.fieldLink own ix (TX7 8).1 (TX7 8).2.1 (TX7 8).2.2.1 ∈ Ts) (d : decode cc pc = .ok (.putfield ix, 3)) (k : G F nL (mP A x (M.1, M.2.s_ou v)) kc ks Q (pc + 3) lv st) : G F nL (mP A x M) kc ks Q pc lv (.int v :: .ref x :: st) := by
  refine g_puti Z 6 8 rfl (by decide) tyX7 tyX7_ok nmX7 rfl hin hlink d rfl rfl mP_x mP_Kx ?_
  rw [mP_si_ou]
  exact k
theorem m_get_fa (Z : Cx F cc nL own Ts ret) {ix : Nat} (hin : ∀ w ∈ u_ws RX7 TX7 16, w ∈ Ts) (hlink : Cond.fieldLink own ix (TX7 9).1 (TX7 9).2.1 (TX7 9).2.2.1 ∈ Ts) (d : decode cc pc = .ok (.getfield ix, 3)) (k : G F nL (mP A x M) kc ks Q (pc + 3) lv (.int M.2.fa :: st)) : G F nL (mP A x M) kc ks Q pc lv (.ref x :: st) := by
  refine g_geti Z 6 9 rfl (by decide) hin hlink d mP_x mP_Kx ?_
  rw [show (mP A x M).fi x 9 = M.2.fa from if_pos rfl]
  exact k
theorem m_put_fa (Z : Cx F cc nL own Ts ret) {ix : Nat} {v : Int32} (hin : ∀ w ∈ u_ws RX7 TX7 16, w ∈ Ts) (hlink : Cond.fieldLink own ix (TX7 9).1 (TX7 9).2.1 (TX7 9).2.2.1 ∈ Ts) (d : decode cc pc = .ok (.putfield ix, 3)) (k : G F nL (mP A x (M.1, M.2.s_fa v)) kc ks Q (pc + 3) lv st) : G F nL (mP A x M) kc ks Q pc lv (.int v :: .ref x :: st) := by
  refine g_puti Z 6 9 rfl (by decide) tyX7 tyX7_ok nmX7 rfl hin hlink d rfl rfl mP_x mP_Kx ?_
  rw [mP_si_fa]
  exact k
theorem m_get_fp (Z : Cx F cc nL own Ts ret) {ix : Nat} (hin : ∀ w ∈ u_ws RX7 TX7 16, w ∈ Ts) (hlink : Cond.fieldLink own ix (TX7 10).1 (TX7 10).2.1 (TX7 10).2.2.1 ∈ Ts) (d : decode cc pc = .ok (.getfield ix, 3)) (k : G F nL (mP A x M) kc ks Q (pc + 3) lv (.int M.2.fp :: st)) : G F nL (mP A x M) kc ks Q pc lv (.ref x :: st) := by
  refine g_geti Z 6 10 rfl (by decide) hin hlink d mP_x mP_Kx ?_
  rw [show (mP A x M).fi x 10 = M.2.fp from if_pos rfl]
  exact k
theorem m_put_fp (Z : Cx F cc nL own Ts ret) {ix : Nat} {v : Int32} (hin : ∀ w ∈ u_ws RX7 TX7 16, w ∈ Ts) (hlink : Cond.fieldLink own ix (TX7 10).1 (TX7 10).2.1 (TX7 10).2.2.1 ∈ Ts) (d : decode cc pc = .ok (.putfield ix, 3)) (k : G F nL (mP A x (M.1, M.2.s_fp v)) kc ks Q (pc + 3) lv st) : G F nL (mP A x M) kc ks Q pc lv (.int v :: .ref x :: st) := by
  refine g_puti Z 6 10 rfl (by decide) tyX7 tyX7_ok nmX7 rfl hin hlink d rfl rfl mP_x mP_Kx ?_
  rw [mP_si_fp]
  exact k
theorem m_get_aa (Z : Cx F cc nL own Ts ret) {ix : Nat} (hin : ∀ w ∈ u_ws RX7 TX7 16, w ∈ Ts) (hlink : Cond.fieldLink own ix (TX7 11).1 (TX7 11).2.1 (TX7 11).2.2.1 ∈ Ts) (d : decode cc pc = .ok (.getfield ix, 3)) (k : G F nL (mP A x M) kc ks Q (pc + 3) lv (.int M.2.aa :: st)) : G F nL (mP A x M) kc ks Q pc lv (.ref x :: st) := by
  refine g_geti Z 6 11 rfl (by decide) hin hlink d mP_x mP_Kx ?_
  rw [show (mP A x M).fi x 11 = M.2.aa from if_pos rfl]
  exact k
theorem m_put_aa (Z : Cx F cc nL own Ts ret) {ix : Nat} {v : Int32} (hin : ∀ w ∈ u_ws RX7 TX7 16, w ∈ Ts) (hlink : Cond.fieldLink own ix (TX7 11).1 (TX7 11).2.1 (TX7 11).2.2.1 ∈ Ts) (d : decode cc pc = .ok (.putfield ix, 3)) (k : G F nL (mP A x (M.1, M.2.s_aa v)) kc ks Q (pc + 3) lv st) : G F nL (mP A x M) kc ks Q pc lv (.int v :: .ref x :: st) := by
  refine g_puti Z 6 11 rfl (by decide) tyX7 tyX7_ok nmX7 rfl hin hlink d rfl rfl mP_x mP_Kx ?_
  rw [mP_si_aa]
  exact k
theorem m_get_bi (Z : Cx F cc nL own Ts ret) {ix : Nat} (hin : ∀ w ∈ u_ws RX7 TX7 16, w ∈ Ts) (hlink : Cond.fieldLink own ix (TX7 15).1 (TX7 15).2.1 (TX7 15).2.2.1 ∈ Ts) (d : decode cc pc = .ok (.getfield ix, 3)) (k : G F nL (mP A x M) kc ks Q (pc + 3) lv (.int M.2.bi :: st)) : G F nL (mP A x M) kc ks Q pc lv (.ref x :: st) := by
  refine g_geti Z 6 15 rfl (by decide) hin hlink d mP_x mP_Kx ?_
  rw [show (mP A x M).fi x 15 = M.2.bi from if_pos rfl]
  exact k
theorem m_put_bi (Z : Cx F cc nL own Ts ret) {ix : Nat} {v : Int32} (hin : ∀ w ∈ u_ws RX7 TX7 16, w ∈ Ts) (hlink : Cond.fieldLink own ix (TX7 15).1 (TX7 15).2.1 (TX7 15).2.2.1 ∈ Ts) (d : decode cc pc = .ok (.putfield ix, 3)) (k : G F nL (mP A x (M.1, M.2.s_bi v)) kc ks Q (pc + 3) lv st) : G F nL (mP A x M) kc ks Q pc lv (.int v :: .ref x :: st) := by
  refine g_puti Z 6 15 rfl (by decide) tyX7 tyX7_ok nmX7 rfl hin hlink d rfl rfl mP_x mP_Kx ?_
  rw [mP_si_bi]
  exact k
end MP
