/-! the deepest point: pure -/
theorem lnN_sgn (A B C : Int) (h : A ≠ 0 ∨ B ≠ 0) : 0 < (lnN A B C).1 ∨ ((lnN A B C).1 = 0 ∧ 0 < (lnN A B C).2.1) := by
  have d1 : ((g3 A B C : Nat) : Int) ∣ A := by
    apply Int.ofNat_dvd_left.mpr
    exact Nat.dvd_trans (Nat.gcd_dvd_left _ _) (by simp only [Int.natAbs_natCast]; exact Nat.gcd_dvd_left _ _)
  have d2 : ((g3 A B C : Nat) : Int) ∣ B := by
    apply Int.ofNat_dvd_left.mpr
    exact Nat.dvd_trans (Nat.gcd_dvd_left _ _) (by simp only [Int.natAbs_natCast]; exact Nat.gcd_dvd_right _ _)
  have hg := g3_pos C h
  have hg' : (0 : Int) < ((g3 A B C : Nat) : Int) := by omega
  unfold lnN
  split
  · have s1 := sgn_mul hg' (Int.mul_tdiv_cancel' (Int.dvd_neg.mpr d1))
    have s2 := sgn_mul hg' (Int.mul_tdiv_cancel' (Int.dvd_neg.mpr d2))
    dsimp only
    generalize (-A).tdiv ((g3 A B C : Nat) : Int) = u at *
    generalize (-B).tdiv ((g3 A B C : Nat) : Int) = v at *
    omega
  · have s1 := sgn_mul hg' (Int.mul_tdiv_cancel' d1)
    have s2 := sgn_mul hg' (Int.mul_tdiv_cancel' d2)
    dsimp only
    generalize A.tdiv ((g3 A B C : Nat) : Int) = u at *
    generalize B.tdiv ((g3 A B C : Nat) : Int) = v at *
    omega
theorem g3_mul (m A B C : Int) : g3 (m * A) (m * B) (m * C) = m.natAbs * g3 A B C := by
  unfold g3 gg
  simp only [Int.natAbs_natCast, Int.natAbs_mul, Nat.gcd_mul_left]
theorem gg_mul (m A B : Int) : gg (m * A) (m * B) = m.natAbs * gg A B := by
  unfold gg
  simp only [Int.natAbs_mul, Nat.gcd_mul_left]
theorem nrm_uniq {a b c a' b' c' : Int} (hs : g3 a b c = 1) (ht : g3 a' b' c' = 1) (ss : 0 < a ∨ (a = 0 ∧ 0 < b)) (st : 0 < a' ∨ (a' = 0 ∧ 0 < b')) (h1 : a * b' = a' * b) (h2 : a * c' = a' * c) (h3 : b * c' = b' * c) : a = a' ∧ b = b' ∧ c = c' := by
  rcases ss with ha | ⟨ha, hb⟩
  · have ha' : 0 < a' := by
      rcases st with h | ⟨h, hb'⟩
      · exact h
      · subst h
        have := Int.mul_pos ha hb'
        rw [Int.zero_mul] at h1
        omega
    have e1 := g3_mul a a' b' c'
    have e2 := g3_mul a' a b c
    rw [h1, h2, Int.mul_comm a a', e2, hs, ht] at e1
    have e : a = a' := by omega
    subst e
    exact ⟨rfl, (Int.eq_of_mul_eq_mul_left (by omega) h1).symm, (Int.eq_of_mul_eq_mul_left (by omega) h2).symm⟩
  · subst ha
    have ha' : a' = 0 := by
      rw [Int.zero_mul] at h1
      rcases Int.mul_eq_zero.mp h1.symm with h | h
      · exact h
      · omega
    subst ha'
    have hb' : 0 < b' := by omega
    have e1 := g3_mul b 0 b' c'
    have e2 := g3_mul b' 0 b c
    rw [h3, Int.mul_comm b b', Int.mul_zero, ht] at e1
    rw [Int.mul_zero, hs, e1] at e2
    have e : b = b' := by omega
    subst e
    exact ⟨rfl, rfl, (Int.eq_of_mul_eq_mul_left (by omega) h3).symm⟩
theorem prop_can {g g' ta tb ta' tb' A B A' B' s s' : Int} (hg : 0 < g) (hg' : 0 < g') (e1 : g * ta = s * A) (e2 : g * tb = s * B) (e3 : g' * ta' = s' * A') (e4 : g' * tb' = s' * B') (h : A * B' = A' * B) : ta * tb' = ta' * tb := by
  have k : (g * g') * (ta * tb') = (g * g') * (ta' * tb) := by
    have a1 : (g * g') * (ta * tb') = (g * ta) * (g' * tb') := by grind
    have a2 : (g * g') * (ta' * tb) = (g' * ta') * (g * tb) := by grind
    rw [a1, a2, e1, e2, e3, e4]
    have b1 : s * A * (s' * B') = s * s' * (A * B') := by grind
    have b2 : s' * A' * (s * B) = s * s' * (A' * B) := by grind
    rw [b1, b2, h]
  have hp := Int.mul_pos hg hg'
  exact Int.eq_of_mul_eq_mul_left (by omega) k
theorem lnN_uniq {A B C A' B' C' : Int} (h : A ≠ 0 ∨ B ≠ 0) (h' : A' ≠ 0 ∨ B' ≠ 0) (k1 : A * B' = A' * B) (k2 : A * C' = A' * C) (k3 : B * C' = B' * C) : lnN A B C = lnN A' B' C' := by
  obtain ⟨s, hs, e1, e2, e3⟩ := lnN_mul A B C h
  obtain ⟨s', hs', f1, f2, f3⟩ := lnN_mul A' B' C' h'
  have hg := g3_pos C h
  have hg' := g3_pos C' h'
  have p1 := lnN_prim A B C h
  have p2 := lnN_prim A' B' C' h'
  have q1 := lnN_sgn A B C h
  have q2 := lnN_sgn A' B' C' h'
  have r := nrm_uniq p1.1 p2.1 q1 q2 (prop_can (by omega) (by omega) e1 e2 f1 f2 k1) (prop_can (by omega) (by omega) e1 e3 f1 f3 k2) (prop_can (by omega) (by omega) e2 e3 f2 f3 k3)
  exact Prod.ext r.1 (Prod.ext r.2.1 r.2.2)
/-- two points of a line give the same three numbers -/
theorem lnO_same {pt : Nat → Pt} {z y : Nat × Nat} (h : apt (pt z.1) (pt z.2) = true) (h' : apt (pt y.1) (pt y.2) = true) (c1 : crs (pt z.1) (pt z.2) (pt y.1) = 0) (c2 : crs (pt z.1) (pt z.2) (pt y.2) = 0) : lnO pt z = lnO pt y := by
  have a1 := apt_iff.mp h
  have a2 := apt_iff.mp h'
  unfold crs at c1 c2
  unfold lnO lnT
  generalize (pt z.1).1.toInt = x1 at *
  generalize (pt z.1).2.1.toInt = y1 at *
  generalize (pt z.2).1.toInt = x2 at *
  generalize (pt z.2).2.1.toInt = y2 at *
  generalize (pt y.1).1.toInt = u1 at *
  generalize (pt y.1).2.1.toInt = v1 at *
  generalize (pt y.2).1.toInt = u2 at *
  generalize (pt y.2).2.1.toInt = v2 at *
  refine lnN_uniq (by omega) (by omega) ?_ ?_ ?_ <;> grind
theorem isL_any {n p q : Nat} {pt : Nat → Pt} (hp : p ∈ prs n pt) (hq : q ∈ prs n pt) (ha : apt (pt p) (pt q) = true) : isL n pt (lnO pt (p, q)) := by
  obtain ⟨z, hz, hs⟩ := fp_any (prs_sorted n pt) hp hq ha
  refine ⟨z, hz, lnO_same (z := (p, q)) ha (LPR_mem hz).2.2 ?_ ?_⟩
  · exact (hs (pt z.1)).mpr (crs_self _ _).1
  · exact (hs (pt z.2)).mpr (crs_self _ _).2
theorem lnN_abs3 {A B C : Int} {m k : Nat} (h : A ≠ 0 ∨ B ≠ 0) (ha : A.natAbs ≤ m) (hb : B.natAbs ≤ m) (hc : C.natAbs ≤ k) : (lnN A B C).1.natAbs ≤ m ∧ (lnN A B C).2.1.natAbs ≤ m ∧ (lnN A B C).2.2.natAbs ≤ k := by
  have hg := g3_pos C h
  unfold lnN
  split
  · exact ⟨tdiv_abs hg (by omega), tdiv_abs hg (by omega), tdiv_abs hg (by omega)⟩
  · exact ⟨tdiv_abs hg ha, tdiv_abs hg hb, tdiv_abs hg hc⟩
def lnB (t : Int × Int × Int) : Prop := -600 ≤ t.1 ∧ t.1 ≤ 600 ∧ -600 ≤ t.2.1 ∧ t.2.1 ≤ 600 ∧ -180000 ≤ t.2.2 ∧ t.2.2 ≤ 180000
theorem lnO_B {n p q : Nat} {pt : Nat → Pt} (hP : ∀ i, i < n → ptOk (pt i)) (hp : p ∈ prs n pt) (hq : q ∈ prs n pt) (ha : apt (pt p) (pt q) = true) : lnB (lnO pt (p, q)) := by
  have k1 := hP p (prs_mem.mp hp).1
  have k2 := hP q (prs_mem.mp hq).1
  have k3 := apt_iff.mp ha
  unfold ptOk at k1 k2
  have m1 := mulb (a := (pt p).1.toInt) (b := (pt q).2.1.toInt) (p := 300) (q := 300) (by omega) (by omega) (by omega) (by omega)
  have m2 := mulb (a := (pt q).1.toInt) (b := (pt p).2.1.toInt) (p := 300) (q := 300) (by omega) (by omega) (by omega) (by omega)
  have := lnN_abs3 (A := (pt p).2.1.toInt - (pt q).2.1.toInt) (B := (pt q).1.toInt - (pt p).1.toInt) (C := (pt p).1.toInt * (pt q).2.1.toInt - (pt q).1.toInt * (pt p).2.1.toInt) (m := 600) (k := 180000) (by omega) (by omega) (by omega) (by omega)
  unfold lnB lnO lnT
  dsimp only
  omega
theorem isL_B {n : Nat} {pt : Nat → Pt} {t : Int × Int × Int} (hP : ∀ i, i < n → ptOk (pt i)) (h : isL n pt t) : lnB t := by
  obtain ⟨z, hz, e⟩ := h
  have := LPR_mem hz
  rw [e]
  exact lnO_B hP this.1 this.2.1 this.2.2
def bnd (b : Int × Int × Int) : Prop := -500000000 ≤ b.1 ∧ b.1 ≤ 500000000 ∧ -500000000 ≤ b.2.1 ∧ b.2.1 ≤ 500000000 ∧ 1 ≤ b.2.2 ∧ b.2.2 ≤ 1000000
theorem crL_B {s t : Int × Int × Int} (hs : lnB s) (ht : lnB t) : (-216000000 ≤ s.2.1 * t.2.2 - t.2.1 * s.2.2 ∧ s.2.1 * t.2.2 - t.2.1 * s.2.2 ≤ 216000000) ∧ (-216000000 ≤ s.2.2 * t.1 - t.2.2 * s.1 ∧ s.2.2 * t.1 - t.2.2 * s.1 ≤ 216000000) ∧ (-720000 ≤ s.1 * t.2.1 - t.1 * s.2.1 ∧ s.1 * t.2.1 - t.1 * s.2.1 ≤ 720000) := by
  unfold lnB at hs ht
  have m1 := mulb (a := s.2.1) (b := t.2.2) (p := 600) (q := 180000) (by omega) (by omega) (by omega) (by omega)
  have m2 := mulb (a := t.2.1) (b := s.2.2) (p := 600) (q := 180000) (by omega) (by omega) (by omega) (by omega)
  have m3 := mulb (a := s.2.2) (b := t.1) (p := 180000) (q := 600) (by omega) (by omega) (by omega) (by omega)
  have m4 := mulb (a := t.2.2) (b := s.1) (p := 180000) (q := 600) (by omega) (by omega) (by omega) (by omega)
  have m5 := mulb (a := s.1) (b := t.2.1) (p := 600) (q := 600) (by omega) (by omega) (by omega) (by omega)
  have m6 := mulb (a := t.1) (b := s.2.1) (p := 600) (q := 600) (by omega) (by omega) (by omega) (by omega)
  omega
theorem nrC_B {s t : Int × Int × Int} (hs : lnB s) (ht : lnB t) (h : (crL s t).2.2 ≠ 0) : bnd (nrC (crL s t)) := by
  have := crL_B hs ht
  unfold nrC
  unfold crL at h ⊢
  unfold bnd
  dsimp only at h ⊢
  split <;> dsimp only <;> omega
theorem nrC_swap {s t : Int × Int × Int} (h : (crL s t).2.2 ≠ 0) : nrC (crL s t) = nrC (crL t s) := by
  have e1 : (crL t s).1 = -(crL s t).1 := by unfold crL; dsimp only; omega
  have e2 : (crL t s).2.1 = -(crL s t).2.1 := by unfold crL; dsimp only; omega
  have e3 : (crL t s).2.2 = -(crL s t).2.2 := by unfold crL; dsimp only; omega
  unfold nrC
  rw [e1, e2, e3]
  by_cases h0 : 0 < (crL s t).2.2
  · rw [if_pos h0, if_neg (by omega), Int.neg_neg, Int.neg_neg, Int.neg_neg]
  · rw [if_neg h0, if_pos (by omega)]
    exact Prod.ext e1.symm (Prod.ext e2.symm e3.symm)
theorem crL_self (s : Int × Int × Int) : (crL s s).2.2 = 0 := by unfold crL; dsimp only; omega
theorem cand_B {n : Nat} {pt : Nat → Pt} {c : Int × Int × Int} (hP : ∀ i, i < n → ptOk (pt i)) (h : cand n pt c) : bnd c := by
  rcases h with ⟨i, hi, e⟩ | ⟨s, t, hs, ht, h0, e⟩
  · have := hP i (prs_mem.mp hi).1
    unfold ptOk at this
    rw [e]
    unfold bnd
    dsimp only
    omega
  · rw [e]
    exact nrC_B (isL_B hP hs) (isL_B hP ht) h0
/-! the order of points -/
theorem fr_1 {xa da xb db xc dc : Int} (ha : 0 < da) (hb : 0 < db) (hc : 0 < dc) (h1 : xa * db < xb * da) (h2 : xb * dc ≤ xc * db) : xa * dc < xc * da := by
  have e : db * (xc * da - xa * dc) = (xc * db - xb * dc) * da + (xb * da - xa * db) * dc := by grind
  have p1 := Int.mul_nonneg (show 0 ≤ xc * db - xb * dc by omega) (Int.le_of_lt ha)
  have p2 := Int.mul_pos (show 0 < xb * da - xa * db by omega) hc
  have := (sgn_mul hb e).1.mpr (by omega)
  omega
theorem fr_2 {xa da xb db xc dc : Int} (ha : 0 < da) (hb : 0 < db) (hc : 0 < dc) (h1 : xa * db ≤ xb * da) (h2 : xb * dc < xc * db) : xa * dc < xc * da := by
  have e : db * (xc * da - xa * dc) = (xc * db - xb * dc) * da + (xb * da - xa * db) * dc := by grind
  have p1 := Int.mul_pos (show 0 < xc * db - xb * dc by omega) ha
  have p2 := Int.mul_nonneg (show 0 ≤ xb * da - xa * db by omega) (Int.le_of_lt hc)
  have := (sgn_mul hb e).1.mpr (by omega)
  omega
theorem fr_3 {xa da xb db xc dc : Int} (ha : 0 < da) (hb : 0 < db) (hc : 0 < dc) (h1 : xa * db ≤ xb * da) (h2 : xb * dc ≤ xc * db) : xa * dc ≤ xc * da := by
  have e : db * (xc * da - xa * dc) = (xc * db - xb * dc) * da + (xb * da - xa * db) * dc := by grind
  have p1 := Int.mul_nonneg (show 0 ≤ xc * db - xb * dc by omega) (Int.le_of_lt ha)
  have p2 := Int.mul_nonneg (show 0 ≤ xb * da - xa * db by omega) (Int.le_of_lt hc)
  rcases Int.lt_or_le (xc * da - xa * dc) 0 with h | h
  · have := (sgn_mul hb e).2.mp h
    omega
  · omega
theorem lexl_trans {a b c : Int × Int × Int} (ha : 0 < a.2.2) (hb : 0 < b.2.2) (hc : 0 < c.2.2) (h1 : lexl a b) (h2 : lexl b c) : lexl a c := by
  unfold lexl at h1 h2 ⊢
  rcases h1 with h1 | ⟨h1, h1'⟩
  · left
    exact fr_1 ha hb hc h1 (by omega)
  · rcases h2 with h2 | ⟨h2, h2'⟩
    · left
      exact fr_2 ha hb hc (by omega) h2
    · right
      have k1 := fr_3 ha hb hc (Int.le_of_eq h1) (Int.le_of_eq h2)
      have k2 := fr_3 hc hb ha (Int.le_of_eq h2.symm) (Int.le_of_eq h1.symm)
      have k3 := fr_3 ha hb hc h1' h2'
      exact ⟨by omega, k3⟩
theorem lexl_rf (a : Int × Int × Int) : lexl a a := Or.inr ⟨rfl, Int.le_refl _⟩
def lexs (c b : Int × Int × Int) : Prop := c.1 * b.2.2 < b.1 * c.2.2 ∨ (c.1 * b.2.2 = b.1 * c.2.2 ∧ c.2.1 * b.2.2 < b.2.1 * c.2.2)
theorem lexs_l {c b : Int × Int × Int} (h : lexs c b) : lexl c b := by unfold lexs at h; unfold lexl; omega
theorem lexs_n {c b : Int × Int × Int} (h : ¬ lexs c b) : lexl b c := by unfold lexs at h; unfold lexl; omega
/-- the best so far, or nothing yet -/
def BD0 (C : Int × Int × Int → Prop) (f : Int × Int × Int → Int) (r : Int) (b : Int × Int × Int) : Prop := bnd b ∧ ((∀ c, C c → bnd c) ∧ (((∀ c, ¬ C c) ∧ -1 ≤ r ∧ r ≤ 0) ∨ (BestD C f r b ∧ 0 ≤ r ∧ r ≤ 200)))
theorem BD_congr {C D : Int × Int × Int → Prop} {f : Int × Int × Int → Int} {r : Int} {b : Int × Int × Int} (h : ∀ c, C c ↔ D c) (k : BD0 C f r b) : BD0 D f r b := by
  have e : C = D := by funext c; exact propext (h c)
  rw [← e]; exact k
theorem BD_new {C : Int × Int × Int → Prop} {f : Int × Int × Int → Int} {r : Int} {b c : Int × Int × Int} (h : BD0 C f r b) (hc : bnd c) (h0 : 0 ≤ f c) (h2 : f c ≤ 200) (k : r < f c ∨ (r = f c ∧ lexl c b)) : BD0 (fun x => C x ∨ x = c) f (f c) c := by
  obtain ⟨hb, hC, h⟩ := h
  refine ⟨hc, fun x hx => ?_, Or.inr ⟨⟨Or.inr rfl, rfl, fun x hx => ?_⟩, h0, h2⟩⟩
  · rcases hx with hx | rfl
    · exact hC x hx
    · exact hc
  · rcases hx with hx | rfl
    · rcases h with ⟨h, _⟩ | ⟨h, _, _⟩
      · exact absurd hx (h x)
      · rcases h.2.2 x hx with g | ⟨g, g2⟩
        · left; omega
        · rcases k with k | ⟨k, k2⟩
          · left; omega
          · right
            refine ⟨by omega, lexl_trans ?_ ?_ ?_ k2 g2⟩
            · have := hc.2.2.2.2.1; omega
            · have := hb.2.2.2.2.1; omega
            · have := (hC x hx).2.2.2.2.1; omega
    · exact Or.inr ⟨rfl, lexl_rf _⟩
theorem BD_old {C : Int × Int × Int → Prop} {f : Int × Int × Int → Int} {r : Int} {b c : Int × Int × Int} (h : BD0 C f r b) (hc : bnd c) (k : f c < r ∨ (f c = r ∧ lexl b c)) (hn : (∃ x, C x) ∨ 1 ≤ f c) : BD0 (fun x => C x ∨ x = c) f r b := by
  obtain ⟨hb, hC, h⟩ := h
  refine ⟨hb, fun x hx => ?_, ?_⟩
  · rcases hx with hx | rfl
    · exact hC x hx
    · exact hc
  · rcases h with ⟨h, h1, h2⟩ | ⟨h, h1, h2⟩
    · exfalso
      rcases hn with ⟨x, hx⟩ | hn
      · exact h x hx
      · omega
    · refine Or.inr ⟨⟨Or.inl h.1, h.2.1, fun x hx => ?_⟩, h1, h2⟩
      rcases hx with hx | rfl
      · exact h.2.2 x hx
      · exact k
/-! depth at a plant -/
theorem depA_rng (n : Nat) (pt : Nat → Pt) (hn : n ≤ 40) (c : Int × Int × Int) : 0 ≤ depA n pt c ∧ depA n pt c ≤ 160 := by
  have h1 := dep_ge0 (prs n pt) pt (vAt pt c.1 c.2.1 c.2.2)
  have h2 := prs_len n pt
  change 0 ≤ dep (prs n pt) (vAt pt c.1 c.2.1 c.2.2) (w2 pt) ∧ dep (prs n pt) (vAt pt c.1 c.2.1 c.2.2) (w2 pt) ≤ 160
  omega
theorem lsum_mono {l : List Nat} {g h : Nat → Int} (k : ∀ i ∈ l, g i ≤ h i) : lsum l g ≤ lsum l h := by
  induction l with
  | nil => exact Int.le_refl _
  | cons x xs ih =>
    have h1 := ih (fun i hi => k i (List.mem_cons_of_mem _ hi))
    have h2 := k x List.mem_cons_self
    unfold lsum at h1 ⊢
    rw [List.map_cons, List.map_cons, List.sum_cons, List.sum_cons]
    omega
theorem lsum_at {l : List Nat} {g : Nat → Int} {i : Nat} (hi : i ∈ l) (h : ∀ j ∈ l, 0 ≤ g j) : g i ≤ lsum l g := by
  induction l with
  | nil => cases hi
  | cons x xs ih =>
    have hx := h x List.mem_cons_self
    have hr : 0 ≤ lsum xs g := by
      have := lsum_mono (l := xs) (g := fun _ => 0) (h := g) (fun j hj => h j (List.mem_cons_of_mem _ hj))
      have e : lsum xs (fun _ => 0) = 0 := by
        unfold lsum
        clear ih this hi h
        induction xs with
        | nil => rfl
        | cons y ys ih2 => rw [List.map_cons, List.sum_cons, ih2]; rfl
      omega
    have e : lsum (x :: xs) g = g x + lsum xs g := by unfold lsum; rw [List.map_cons, List.sum_cons]
    rcases List.mem_cons.mp hi with rfl | hi
    · omega
    · have := ih hi (fun j hj => h j (List.mem_cons_of_mem _ hj))
      omega
theorem cnt2_pos {p : Pt} (h : ptOk p) : 1 ≤ cnt 2 p := by
  show 1 ≤ allOf p.2.2.1.toInt p.2.2.2.1.toInt
  have r1 : 0 ≤ redOf p.2.2.1.toInt p.2.2.2.1.toInt := by unfold redOf; split <;> (try split) <;> (try split) <;> omega
  have r2 : 0 ≤ blueOf p.2.2.1.toInt p.2.2.2.1.toInt := by unfold blueOf; split <;> (try split) <;> omega
  unfold allOf lentOf
  split <;> split <;> omega
theorem depA_plant {n i : Nat} {pt : Nat → Pt} (hP : ∀ i, i < n → ptOk (pt i)) (hi : i ∈ prs n pt) : 1 ≤ depA n pt ((pt i).1.toInt, (pt i).2.1.toInt, 1) := by
  show 1 ≤ dep (prs n pt) (vAt pt (pt i).1.toInt (pt i).2.1.toInt 1) (w2 pt)
  have hw : ∀ j, 0 ≤ wH (vAt pt (pt i).1.toInt (pt i).2.1.toInt 1) (w2 pt) j ∧ wH (vAt pt (pt i).1.toInt (pt i).2.1.toInt 1) (w2 pt) j ≤ w2 pt j := fun j => by
    have := w2_rng pt j
    unfold wH
    split <;> omega
  have h1 := lsum_at (l := prs n pt) (g := wH (vAt pt (pt i).1.toInt (pt i).2.1.toInt 1) (w2 pt)) hi (fun j _ => (hw j).1)
  have h2 := lsum_mono (l := prs n pt) (fun j _ => (hw j).2)
  have e : wH (vAt pt (pt i).1.toInt (pt i).2.1.toInt 1) (w2 pt) i = w2 pt i := by
    unfold wH vAt
    exact if_pos ⟨by dsimp only; omega, by dsimp only; omega⟩
  have h3 : 1 ≤ w2 pt i := cnt2_pos (hP i (prs_mem.mp hi).1)
  refine fold_ge (fun j _ => ?_) (prs n pt) _ (by omega)
  have := dI_rng (prs n pt) pt (vAt pt (pt i).1.toInt (pt i).2.1.toInt 1) j
  omega
/-! fractions in least terms -/
theorem red_spec (x d : Int) (hd : 0 < d) : (gg x d : Int) * x.tdiv (gg x d : Int) = x ∧ (gg x d : Int) * d.tdiv (gg x d : Int) = d ∧ 0 < d.tdiv (gg x d : Int) ∧ gg (x.tdiv (gg x d : Int)) (d.tdiv (gg x d : Int)) = 1 := by
  have hg := gg_pos (A := x) (B := d) (Or.inr (by omega))
  have d1 : ((gg x d : Nat) : Int) ∣ x := Int.ofNat_dvd_left.mpr (Nat.gcd_dvd_left _ _)
  have d2 : ((gg x d : Nat) : Int) ∣ d := Int.ofNat_dvd_left.mpr (Nat.gcd_dvd_right _ _)
  have e1 := Int.mul_tdiv_cancel' d1
  have e2 := Int.mul_tdiv_cancel' d2
  have hv := (sgn_mul (g := ((gg x d : Nat) : Int)) (by omega) e2).1.mpr hd
  refine ⟨e1, e2, hv, ?_⟩
  have k := gg_mul ((gg x d : Nat) : Int) (x.tdiv ((gg x d : Nat) : Int)) (d.tdiv ((gg x d : Nat) : Int))
  rw [e1, e2, Int.natAbs_natCast] at k
  have k2 : gg x d * gg (x.tdiv ((gg x d : Nat) : Int)) (d.tdiv ((gg x d : Nat) : Int)) = gg x d * 1 := by omega
  exact Nat.eq_of_mul_eq_mul_left hg k2
theorem cop_uniq {u v u' v' : Int} (hv : 0 < v) (hv' : 0 < v') (h : gg u v = 1) (h' : gg u' v' = 1) (e : u * v' = u' * v) : u = u' ∧ v = v' := by
  have k1 := gg_mul v u' v'
  have k2 := gg_mul v' u v
  rw [h', Int.mul_comm v u', ← e] at k1
  rw [h, Int.mul_comm v' u, Int.mul_comm v' v, k1] at k2
  have ev : v = v' := by omega
  subst ev
  exact ⟨Int.eq_of_mul_eq_mul_right (by omega) e, rfl⟩
theorem red_uniq {x d x' d' : Int} (hd : 0 < d) (hd' : 0 < d') (e : x * d' = x' * d) : x.tdiv (gg x d : Int) = x'.tdiv (gg x' d' : Int) ∧ d.tdiv (gg x d : Int) = d'.tdiv (gg x' d' : Int) := by
  obtain ⟨a1, a2, a3, a4⟩ := red_spec x d hd
  obtain ⟨b1, b2, b3, b4⟩ := red_spec x' d' hd'
  have hg := gg_pos (A := x) (B := d) (Or.inr (by omega))
  have hg' := gg_pos (A := x') (B := d') (Or.inr (by omega))
  refine cop_uniq a3 b3 a4 b4 ?_
  refine prop_can (g := (gg x d : Int)) (g' := (gg x' d' : Int)) (s := 1) (s' := 1) (A := x) (B := d) (A' := x') (B' := d') (by omega) (by omega) ?_ ?_ ?_ ?_ e
  · rw [a1]; omega
  · rw [a2]; omega
  · rw [b1]; omega
  · rw [b2]; omega
theorem lexl_anti {a b : Int × Int × Int} (h1 : lexl a b) (h2 : lexl b a) : a.1 * b.2.2 = b.1 * a.2.2 ∧ a.2.1 * b.2.2 = b.2.1 * a.2.2 := by
  unfold lexl at h1 h2
  omega
def dTell (w r : Int) (b : Int × Int × Int) : Int := if w = 0 then r else if w = 1 then b.1.tdiv (gg b.1 b.2.2 : Int) else if w = 2 then b.2.2.tdiv (gg b.1 b.2.2 : Int) else if w = 3 then b.2.1.tdiv (gg b.2.1 b.2.2 : Int) else b.2.2.tdiv (gg b.2.1 b.2.2 : Int)
theorem dTell_uniq {C : Int × Int × Int → Prop} {f : Int × Int × Int → Int} {r r' w : Int} {b b' : Int × Int × Int} (h : BestD C f r b) (h' : BestD C f r' b') (hb : 0 < b.2.2) (hb' : 0 < b'.2.2) : dTell w r b = dTell w r' b' := by
  have k1 := h.2.2 b' h'.1
  have k2 := h'.2.2 b h.1
  have e1 := h.2.1
  have e2 := h'.2.1
  have er : r = r' := by omega
  have l1 : lexl b b' := by
    rcases k1 with k | k
    · omega
    · exact k.2
  have l2 : lexl b' b := by
    rcases k2 with k | k
    · omega
    · exact k.2
  obtain ⟨q1, q2⟩ := lexl_anti l1 l2
  have r1 := red_uniq hb hb' q1
  have r2 := red_uniq hb hb' q2
  unfold dTell
  rw [er, r1.1, r1.2, r2.1, r2.2]
def sDeepest (a : Ab) (w : Int32) (v : Int) : Prop := if ¬ (0 ≤ w.toInt ∧ w.toInt < 5) then v = -1000001 else if (prs a.1.1 a.1.2).length = 0 then v = -1000002 else if 12 < (prs a.1.1 a.1.2).length then v = -1000003 else ∃ r b, BestD (cand a.1.1 a.1.2) (depA a.1.1 a.1.2) r b ∧ 0 < b.2.2 ∧ v = dTell w.toInt r b
theorem sDeepest_uniq {a : Ab} {w : Int32} {u v : Int} (h : sDeepest a w u) (g : sDeepest a w v) : u = v := by
  unfold sDeepest at h g
  split at h
  · rename_i k; rw [if_pos k] at g; omega
  · rename_i k
    rw [if_neg k] at g
    split at h
    · rename_i k1; rw [if_pos k1] at g; omega
    · rename_i k1
      rw [if_neg k1] at g
      split at h
      · rename_i k2; rw [if_pos k2] at g; omega
      · rename_i k2
        rw [if_neg k2] at g
        obtain ⟨r, b, h1, h2, h3⟩ := h
        obtain ⟨r', b', g1, g2, g3⟩ := g
        rw [h3, g3]
        exact dTell_uniq h1 g1 h2 g2
