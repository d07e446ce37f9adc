/-! the statics, the classes, the law's start -/
theorem ls_is : Cond.laysStatic "FurrowField" "IS_TOO" "[I" ∈ lw_tbl := (List.mem_append_right _ (List.mem_of_getElem? (i := 538) (by decide +kernel)))
theorem ls_bo : Cond.laysStatic "FurrowField" "BODIES" "[I" ∈ lw_tbl := (List.mem_append_right _ (List.mem_of_getElem? (i := 438) (by decide +kernel)))
theorem ao_b : Cond.arrayOver (.object "FurrowField$Bed") ∈ lw_tbl := (List.mem_append_right _ (List.mem_of_getElem? (i := 24) (by decide +kernel)))
theorem ao_p : Cond.arrayOver (.object "FurrowField$Plant") ∈ lw_tbl := (List.mem_append_right _ (List.mem_of_getElem? (i := 49) (by decide +kernel)))
set_option maxRecDepth 20000 in
theorem st_is {b : Nat} {s : State} {A : Nat → Prop} (hgv : (Jvm.Cond.and given_1 narrow_1).before #[Value.ref b] s = true) (hts : ∀ w ∈ lw_tbl, w.before #[Value.ref b] s = true) (hA : ∀ a : Nat, a < s.heap.size → ¬ A a) : ∃ t : Nat, va_T .int t 5 (fun j => .int (cIs j)) A s s.heap ∧ va_Z "FurrowField" "IS_TOO" "[I" (.ref t) A s s.heap := by
  have hs := flat_of_before _ hgv
  have hel : ∀ j : Nat, j < 5 → (Term.elem (.static "FurrowField" "IS_TOO" "[I") (.int (Int32.ofNat j))).eval #[Value.ref b] s none [] s = some (.int (cIs j)) := by
    intro j hj
    rcases (show j = 0 ∨ j = 1 ∨ j = 2 ∨ j = 3 ∨ j = 4 by omega) with rfl | rfl | rfl | rfl | rfl
    · exact va_eqt (z := -1) (hs (Cond.eq (Term.elem (Term.static "FurrowField" "IS_TOO" "[I") (Term.int 0)) (Term.int (-1))) (by decide +kernel))
    · exact va_eqt (z := 0) (hs (Cond.eq (Term.elem (Term.static "FurrowField" "IS_TOO" "[I") (Term.int 1)) (Term.int (0))) (by decide +kernel))
    · exact va_eqt (z := 0) (hs (Cond.eq (Term.elem (Term.static "FurrowField" "IS_TOO" "[I") (Term.int 2)) (Term.int (0))) (by decide +kernel))
    · exact va_eqt (z := 1) (hs (Cond.eq (Term.elem (Term.static "FurrowField" "IS_TOO" "[I") (Term.int 3)) (Term.int (1))) (by decide +kernel))
    · exact va_eqt (z := 0) (hs (Cond.eq (Term.elem (Term.static "FurrowField" "IS_TOO" "[I") (Term.int 4)) (Term.int (0))) (by decide +kernel))
  obtain ⟨t, h1, h2⟩ := va_Tof (args := #[Value.ref b]) (s := s) (tm := .static "FurrowField" "IS_TOO" "[I") (ty := .int) (N := 5) (f := fun j => .int (cIs j)) (A := A) (by decide) (hs _ (by decide +kernel)) (va_eqt (z := 5) (hs _ (by decide +kernel))) hel hA
  exact ⟨t, h2, va_Zof (hts _ ls_is) (hts _ kn_X10) h1 hA⟩

set_option maxRecDepth 20000 in
theorem st_bo {b : Nat} {s : State} {A : Nat → Prop} (hgv : (Jvm.Cond.and given_1 narrow_1).before #[Value.ref b] s = true) (hts : ∀ w ∈ lw_tbl, w.before #[Value.ref b] s = true) (hA : ∀ a : Nat, a < s.heap.size → ¬ A a) : ∃ t : Nat, va_T .int t 20 (fun j => .int (cBo j)) A s s.heap ∧ va_Z "FurrowField" "BODIES" "[I" (.ref t) A s s.heap := by
  have hs := flat_of_before _ hgv
  have hel : ∀ j : Nat, j < 20 → (Term.elem (.static "FurrowField" "BODIES" "[I") (.int (Int32.ofNat j))).eval #[Value.ref b] s none [] s = some (.int (cBo j)) := by
    intro j hj
    rcases (show j = 0 ∨ j = 1 ∨ j = 2 ∨ j = 3 ∨ j = 4 ∨ j = 5 ∨ j = 6 ∨ j = 7 ∨ j = 8 ∨ j = 9 ∨ j = 10 ∨ j = 11 ∨ j = 12 ∨ j = 13 ∨ j = 14 ∨ j = 15 ∨ j = 16 ∨ j = 17 ∨ j = 18 ∨ j = 19 by omega) with rfl | rfl | rfl | rfl | rfl | rfl | rfl | rfl | rfl | rfl | rfl | rfl | rfl | rfl | rfl | rfl | rfl | rfl | rfl | rfl
    · exact va_eqt (z := 10) (hs (Cond.eq (Term.elem (Term.static "FurrowField" "BODIES" "[I") (Term.int 0)) (Term.int (10))) (by decide +kernel))
    · exact va_eqt (z := 11) (hs (Cond.eq (Term.elem (Term.static "FurrowField" "BODIES" "[I") (Term.int 1)) (Term.int (11))) (by decide +kernel))
    · exact va_eqt (z := 10) (hs (Cond.eq (Term.elem (Term.static "FurrowField" "BODIES" "[I") (Term.int 2)) (Term.int (10))) (by decide +kernel))
    · exact va_eqt (z := 12) (hs (Cond.eq (Term.elem (Term.static "FurrowField" "BODIES" "[I") (Term.int 3)) (Term.int (12))) (by decide +kernel))
    · exact va_eqt (z := 13) (hs (Cond.eq (Term.elem (Term.static "FurrowField" "BODIES" "[I") (Term.int 4)) (Term.int (13))) (by decide +kernel))
    · exact va_eqt (z := 20) (hs (Cond.eq (Term.elem (Term.static "FurrowField" "BODIES" "[I") (Term.int 5)) (Term.int (20))) (by decide +kernel))
    · exact va_eqt (z := 20) (hs (Cond.eq (Term.elem (Term.static "FurrowField" "BODIES" "[I") (Term.int 6)) (Term.int (20))) (by decide +kernel))
    · exact va_eqt (z := 21) (hs (Cond.eq (Term.elem (Term.static "FurrowField" "BODIES" "[I") (Term.int 7)) (Term.int (21))) (by decide +kernel))
    · exact va_eqt (z := 20) (hs (Cond.eq (Term.elem (Term.static "FurrowField" "BODIES" "[I") (Term.int 8)) (Term.int (20))) (by decide +kernel))
    · exact va_eqt (z := 22) (hs (Cond.eq (Term.elem (Term.static "FurrowField" "BODIES" "[I") (Term.int 9)) (Term.int (22))) (by decide +kernel))
    · exact va_eqt (z := 30) (hs (Cond.eq (Term.elem (Term.static "FurrowField" "BODIES" "[I") (Term.int 10)) (Term.int (30))) (by decide +kernel))
    · exact va_eqt (z := 30) (hs (Cond.eq (Term.elem (Term.static "FurrowField" "BODIES" "[I") (Term.int 11)) (Term.int (30))) (by decide +kernel))
    · exact va_eqt (z := 30) (hs (Cond.eq (Term.elem (Term.static "FurrowField" "BODIES" "[I") (Term.int 12)) (Term.int (30))) (by decide +kernel))
    · exact va_eqt (z := 31) (hs (Cond.eq (Term.elem (Term.static "FurrowField" "BODIES" "[I") (Term.int 13)) (Term.int (31))) (by decide +kernel))
    · exact va_eqt (z := 30) (hs (Cond.eq (Term.elem (Term.static "FurrowField" "BODIES" "[I") (Term.int 14)) (Term.int (30))) (by decide +kernel))
    · exact va_eqt (z := 40) (hs (Cond.eq (Term.elem (Term.static "FurrowField" "BODIES" "[I") (Term.int 15)) (Term.int (40))) (by decide +kernel))
    · exact va_eqt (z := 40) (hs (Cond.eq (Term.elem (Term.static "FurrowField" "BODIES" "[I") (Term.int 16)) (Term.int (40))) (by decide +kernel))
    · exact va_eqt (z := 41) (hs (Cond.eq (Term.elem (Term.static "FurrowField" "BODIES" "[I") (Term.int 17)) (Term.int (41))) (by decide +kernel))
    · exact va_eqt (z := 40) (hs (Cond.eq (Term.elem (Term.static "FurrowField" "BODIES" "[I") (Term.int 18)) (Term.int (40))) (by decide +kernel))
    · exact va_eqt (z := 42) (hs (Cond.eq (Term.elem (Term.static "FurrowField" "BODIES" "[I") (Term.int 19)) (Term.int (42))) (by decide +kernel))
  obtain ⟨t, h1, h2⟩ := va_Tof (args := #[Value.ref b]) (s := s) (tm := .static "FurrowField" "BODIES" "[I") (ty := .int) (N := 20) (f := fun j => .int (cBo j)) (A := A) (by decide) (hs _ (by decide +kernel)) (va_eqt (z := 20) (hs _ (by decide +kernel))) hel hA
  exact ⟨t, h2, va_Zof (hts _ ls_bo) (hts _ kn_X10) h1 hA⟩

theorem st_K {b : Nat} {s : State} (hts : ∀ w ∈ lw_tbl, w.before #[Value.ref b] s = true) : ∃ (D : va_G) (C : Nat → ClassId), Fy D C s := by
  obtain ⟨c0, i0, k0⟩ := u_known hts uw_X0 (hts _ in_X0)
  obtain ⟨c1, i1, k1⟩ := u_known hts uw_X1 (hts _ in_X1)
  obtain ⟨c2, i2, k2⟩ := u_known hts uw_X2 (hts _ in_X2)
  obtain ⟨c3, i3, k3⟩ := u_known hts uw_X3 (hts _ in_X3)
  obtain ⟨c4, i4, k4⟩ := u_known hts uw_X4 (hts _ in_X4)
  obtain ⟨c5, i5, k5⟩ := u_known hts uw_X5 (hts _ in_X5)
  obtain ⟨c6, i6, k6⟩ := u_known hts uw_X6 (hts _ in_X6)
  obtain ⟨c7, i7, k7⟩ := u_known hts uw_X7 (hts _ in_X7)
  obtain ⟨c8, i8, k8⟩ := u_known hts uw_X8 (hts _ in_X8)
  obtain ⟨c9, i9, k9⟩ := u_known hts uw_X9 (hts _ in_X9)
  obtain ⟨c10, i10, k10⟩ := u_known hts uw_X10 (hts _ in_X10)
  obtain ⟨c11, i11, k11⟩ := u_known hts uw_X11 (hts _ in_X11)
  obtain ⟨cI, kI, pI, fI, gI, mI⟩ := Cond.arrayClass_spec (hts _ ac_int)
  obtain ⟨cJ, kJ, pJ, fJ, gJ, mJ⟩ := Cond.arrayClass_spec (hts _ ac_long)
  obtain ⟨cZ, kZ, pZ, fZ, gZ, mZ⟩ := Cond.arrayClass_spec (hts _ ac_boolean)
  obtain ⟨pB, cB, kB, fB, _, gB, mB, nB⟩ := Cond.arrayOver_spec (hts _ ao_b)
  obtain ⟨pP, cP, kP, fP, _, gP, mP, nP⟩ := Cond.arrayOver_spec (hts _ ao_p)
  refine ⟨(fun c => [c0, c1, c2, c3, c4, c5, c6, c7, c8, c9, c10, c11].getD c c0, fun c => [i0, i1, i2, i3, i4, i5, i6, i7, i8, i9, i10, i11].getD c i0), fun t => [cI, cJ, cZ, cB, cP].getD t cI, fun w hw hq => va_any (nst_on hq) (hts w hw), ⟨fun c q hq => ?_, fun t q hq => ?_⟩, va_AO.of (hts _ ao_b), va_AO.of (hts _ ao_p)⟩
  · match c, hq with
    | 0, hq => cases hq; exact k0
    | 1, hq => cases hq; exact k1
    | 2, hq => cases hq; exact k2
    | 3, hq => cases hq; exact k3
    | 4, hq => cases hq; exact k4
    | 5, hq => cases hq; exact k5
    | 6, hq => cases hq; exact k6
    | 7, hq => cases hq; exact k7
    | 8, hq => cases hq; exact k8
    | 9, hq => cases hq; exact k9
    | 10, hq => cases hq; exact k10
    | 11, hq => cases hq; exact k11
    | n + 12, hq => exact absurd (List.getElem?_eq_some_iff.mp hq).1 (by show ¬ n + 12 < 12; omega)
  · match t, hq with
    | 0, hq => cases hq; exact ⟨fun n z => ⟨(fun k h => by cases h), kI, gI, pI, mI⟩, fI⟩
    | 1, hq => cases hq; exact ⟨fun n z => ⟨(fun k h => by cases h), kJ, gJ, pJ, mJ⟩, fJ⟩
    | 2, hq => cases hq; exact ⟨fun n z => ⟨(fun k h => by cases h), kZ, gZ, pZ, mZ⟩, fZ⟩
    | 3, hq => cases hq; exact ⟨fun n z => ⟨(fun k h => by cases h), kB, gB, pB, mB⟩, kB, pB, gB, mB, fB, nB⟩
    | 4, hq => cases hq; exact ⟨fun n z => ⟨(fun k h => by cases h), kP, gP, pP, mP⟩, kP, pP, gP, mP, fP, nP⟩
    | n + 5, hq => exact absurd (List.getElem?_eq_some_iff.mp hq).1 (by show ¬ n + 5 < 5; omega)

