/-! a line's numbers have no common divisor -/
theorem lnN_prim (A B C : Int) (h : A ≠ 0 ∨ B ≠ 0) : g3 (lnN A B C).1 (lnN A B C).2.1 (lnN A B C).2.2 = 1 ∧ ((lnN A B C).1 ≠ 0 ∨ (lnN A B C).2.1 ≠ 0) := by
  obtain ⟨s, hs, e1, e2, e3⟩ := lnN_mul A B C h
  have hg := g3_pos C h
  generalize lnN A B C = t at e1 e2 e3 ⊢
  have n1 : A.natAbs = g3 A B C * t.1.natAbs := by
    have := congrArg Int.natAbs e1
    rw [Int.natAbs_mul, Int.natAbs_mul, Int.natAbs_natCast] at this
    rcases hs with rfl | rfl <;> simpa using this.symm
  have n2 : B.natAbs = g3 A B C * t.2.1.natAbs := by
    have := congrArg Int.natAbs e2
    rw [Int.natAbs_mul, Int.natAbs_mul, Int.natAbs_natCast] at this
    rcases hs with rfl | rfl <;> simpa using this.symm
  have n3 : C.natAbs = g3 A B C * t.2.2.natAbs := by
    have := congrArg Int.natAbs e3
    rw [Int.natAbs_mul, Int.natAbs_mul, Int.natAbs_natCast] at this
    rcases hs with rfl | rfl <;> simpa using this.symm
  refine ⟨?_, ?_⟩
  · have e : g3 A B C = g3 A B C * g3 t.1 t.2.1 t.2.2 := by
      have : g3 A B C = Nat.gcd (Nat.gcd A.natAbs B.natAbs) C.natAbs := by unfold g3 gg; rw [Int.natAbs_natCast]
      have e2 : g3 t.1 t.2.1 t.2.2 = Nat.gcd (Nat.gcd t.1.natAbs t.2.1.natAbs) t.2.2.natAbs := by unfold g3 gg; rw [Int.natAbs_natCast]
      rw [e2, ← Nat.gcd_mul_left, ← Nat.gcd_mul_left, ← n1, ← n2, ← n3]
      exact this
    have : g3 A B C * 1 = g3 A B C * g3 t.1 t.2.1 t.2.2 := by rw [Nat.mul_one]; exact e
    exact (Nat.eq_of_mul_eq_mul_left hg this).symm
  · rcases h with h | h
    · refine Or.inl (fun z => h ?_)
      rw [z] at n1
      simp at n1
      exact n1
    · refine Or.inr (fun z => h ?_)
      rw [z] at n2
      simp at n2
      exact n2
theorem lnO_prim {pt : Nat → Pt} {z : Nat × Nat} (h : apt (pt z.1) (pt z.2) = true) : g3 (lnO pt z).1 (lnO pt z).2.1 (lnO pt z).2.2 = 1 ∧ ((lnO pt z).1 ≠ 0 ∨ (lnO pt z).2.1 ≠ 0) := by
  have := apt_iff.mp h
  exact lnN_prim _ _ _ (by omega)
theorem c_bec1 {l : Launch} {G : Gx} {d : Nat} {σ : Sg} {Q : Option Value → Sg → Prop} {o : Nat} {x1 x2 x3 : Int32} {t : Int × Int × Int} (ho : kd o = 4) (hn : o < 105) (e1 : x1.toInt = t.1) (e2 : x2.toInt = t.2.1) (e3 : x3.toInt = t.2.2) (b1 : t.1.natAbs ≤ 1000000) (b2 : t.2.1.natAbs ≤ 1000000) (b3 : t.2.2.natAbs ≤ 1000000) (hp : g3 t.1 t.2.1 t.2.2 = 1 ∧ (t.1 ≠ 0 ∨ t.2.1 ≠ 0)) (h : ∀ τ, isLn τ o t → (∀ a, a ≠ o → τ.1 a = σ.1 a) → τ.2 = σ.2 → Q none τ) : Z l G M_X4_become (d + 1) 0 [some (.ref o), some (.int x1), some (.int x2), some (.int x3)] [] σ Q := by
  refine c_X4_become ho hn (by rw [e1]; exact b1) (by rw [e2]; exact b2) (by rw [e3]; exact b3) (by rw [e1, e2]; exact hp.2) (fun τ hL hrow h2 => h τ ?_ hrow h2)
  rw [e1, e2, e3, hp.1] at hL
  simpa using hL
theorem lnO_abs {n : Nat} {pt : Nat → Pt} {z : Nat × Nat} (hP : ∀ i, i < n → ptOk (pt i)) (h : z ∈ LPR (prs n pt) pt) : (lnO pt z).1.natAbs ≤ 1000000 ∧ (lnO pt z).2.1.natAbs ≤ 1000000 ∧ (lnO pt z).2.2.natAbs ≤ 1000000 := by
  obtain ⟨h1, h2, h3⟩ := LPR_mem h
  have k1 := hP z.1 (prs_mem.mp h1).1
  have k2 := hP z.2 (prs_mem.mp h2).1
  unfold ptOk at k1 k2
  have := lnT_abs (x1 := (pt z.1).1.toInt) (y1 := (pt z.1).2.1.toInt) (x2 := (pt z.2).1.toInt) (y2 := (pt z.2).2.1.toInt) (by omega) (by omega) (by omega) (by omega) (apt_iff.mp h3)
  unfold lnO
  omega
/-- how many furrows, and the k-th one -/
def nFur (n : Nat) (pt : Nat → Pt) : Int := if LPR (prs n pt) pt = [] then 1 else ((FUR n pt).length : Int)
def kFur (n : Nat) (pt : Nat → Pt) (k : Nat) : Int × Int × Int := if LPR (prs n pt) pt = [] then (0, 1, -(pt ((prs n pt).getD 0 0)).2.1.toInt) else lnO pt ((FUR n pt).getD k (0, 0))
theorem okLns_of {τ : Sg} {n : Nat} {pt : Nat → Pt} (h : lnsOf τ (prs n pt) pt (LPR (prs n pt) pt)) : okLns τ n pt := ⟨h.1, h.2.1, MaxL_on (prs_sorted n pt) h.2.2.1, MinL_on (prs_sorted n pt) h.2.2.2⟩
theorem rC_join {σ τ : Sg} {a : Ab} (h : rC σ a) (hE : eqX 11 23 σ τ) (hS : τ.1 11 6 ≠ 0 → okStand τ a.1.1 a.1.2) (hL : τ.1 18 7 ≠ 0 → okLines τ a.1.1 a.1.2) : rC τ a := by
  obtain ⟨r1, r2, r3, r4, r5, r6, r7, r8⟩ := h
  refine ⟨rcP_cong (by rw [(hE 0 (by omega)).1]) (fun i hi => (hE _ (by omega)).1) r1, rcB_cong (fun o h1 h2 => hE o (by omega)) r2, by rw [(hE 0 (by omega)).1]; exact r3, rcT_cong (fun o h1 h2 => (hE o (by omega)).1) r4, rcL_cong (hE 10 (by omega)).1 r5, rcU_cong (hE 4 (by omega)).1 (hE 5 (by omega)).1 r6, ⟨hS, hL, ?_, ?_, ?_⟩, fun o h1 h2 => by rw [(hE o (by omega)).1]; exact r8 o h1 h2⟩
  · rw [(hE 24 (by omega)).1]; exact okLayers_cong (fun o h1 h2 => hE o (by omega)) r7.2.2.1
  · rw [(hE 26 (by omega)).1]; exact okDepths_cong (fun o h1 h2 => hE o (by omega)) r7.2.2.2.1
  · rw [(hE 29 (by omega)).1]; exact okStrips_cong (fun o h1 h2 => hE o (by omega)) r7.2.2.2.2
theorem okLns_cong {σ τ : Sg} {n : Nat} {pt : Nat → Pt} (h8 : τ.1 18 8 = σ.1 18 8) (h9 : τ.1 18 9 = σ.1 18 9) (h10 : τ.1 18 10 = σ.1 18 10) (h : ∀ o, 19 ≤ o → o ≤ 21 → τ.1 o = σ.1 o) (hl : okLns σ n pt) : okLns τ n pt := by
  unfold okLns
  rw [h8, h9, h10, h 19 (by omega) (by omega), h 20 (by omega) (by omega), h 21 (by omega) (by omega)]
  exact hl
