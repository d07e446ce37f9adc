/-! the widest strip: pure -/
def WBt (T : Int × Int → Nat → Nat → Prop) (pt : Nat → Pt) (up low : Int) : Prop := 0 < low ∧ 0 ≤ up ∧ (∀ u p r, T u p r → gsq pt u p r * low ≤ up * usq u) ∧ (up = 0 ∨ ∃ u p r, T u p r ∧ gsq pt u p r * low = up * usq u)
theorem WBt_best {D : Int × Int → Prop} {P : List Nat} {pt : Nat → Pt} {up low : Int} : WBt (fun u p r => D u ∧ isGap P pt u p r) pt up low ↔ WBest D P pt up low := by
  constructor
  · rintro ⟨h1, h2, h3, h4⟩
    refine ⟨h1, h2, fun u p r hu hg => h3 u p r ⟨hu, hg⟩, h4.imp id ?_⟩
    rintro ⟨u, p, r, ⟨hu, hg⟩, he⟩
    exact ⟨u, p, r, hu, hg, he⟩
  · rintro ⟨h1, h2, h3, h4⟩
    refine ⟨h1, h2, fun u p r hu => h3 u p r hu.1 hu.2, h4.imp id ?_⟩
    rintro ⟨u, p, r, hu, hg, he⟩
    exact ⟨u, p, r, ⟨hu, hg⟩, he⟩
theorem WBt_congr {T S : Int × Int → Nat → Nat → Prop} {pt : Nat → Pt} {up low : Int} (h : ∀ u p r, T u p r ↔ S u p r) (k : WBt T pt up low) : WBt S pt up low := by
  have e : T = S := by funext u p r; exact propext (h u p r)
  rw [← e]; exact k
theorem sq_mono {a g : Int} (h0 : 0 ≤ a) (h : a ≤ g) : a * a ≤ g * g := Int.mul_le_mul h h h0 (by omega)
/-- a direction more, with its widest gap g -/
theorem WBt_new {T : Int × Int → Nat → Nat → Prop} {pt : Nat → Pt} {up low g : Int} {u : Int × Int} {N : Nat → Nat → Prop} (h : WBt T pt up low) (hT : ∀ u p r, T u p r → 0 < usq u) (hu : 0 < usq u) (hN : ∀ p r, N p r → 0 ≤ pj u (pt r) - pj u (pt p) ∧ pj u (pt r) - pj u (pt p) ≤ g) (hg : 0 ≤ g) (he : g = 0 ∨ ∃ p r, N p r ∧ pj u (pt r) - pj u (pt p) = g) (hc : up * usq u < g * g * low) : WBt (fun v p r => T v p r ∨ (v = u ∧ N p r)) pt (g * g) (usq u) := by
  obtain ⟨h1, h2, h3, h4⟩ := h
  have hgg : 0 ≤ g * g := Int.mul_nonneg hg hg
  refine ⟨hu, hgg, fun v p r hv => ?_, ?_⟩
  · rcases hv with hv | ⟨rfl, hn⟩
    · exact fr_3 (hT v p r hv) h1 hu (h3 v p r hv) (Int.le_of_lt hc)
    · have := sq_mono (hN p r hn).1 (hN p r hn).2
      exact Int.mul_le_mul_of_nonneg_right this (Int.le_of_lt hu)
  · rcases he with rfl | ⟨p, r, hn, e⟩
    · left; rfl
    · right
      exact ⟨u, p, r, Or.inr ⟨rfl, hn⟩, by unfold gsq; rw [e]⟩
theorem WBt_old {T : Int × Int → Nat → Nat → Prop} {pt : Nat → Pt} {up low g : Int} {u : Int × Int} {N : Nat → Nat → Prop} (h : WBt T pt up low) (hN : ∀ p r, N p r → 0 ≤ pj u (pt r) - pj u (pt p) ∧ pj u (pt r) - pj u (pt p) ≤ g) (hc : ¬ up * usq u < g * g * low) : WBt (fun v p r => T v p r ∨ (v = u ∧ N p r)) pt up low := by
  obtain ⟨h1, h2, h3, h4⟩ := h
  refine ⟨h1, h2, fun v p r hv => ?_, h4.imp id ?_⟩
  · rcases hv with hv | ⟨rfl, hn⟩
    · exact h3 v p r hv
    · have := sq_mono (hN p r hn).1 (hN p r hn).2
      have := Int.mul_le_mul_of_nonneg_right this (Int.le_of_lt h1)
      unfold gsq
      omega
  · rintro ⟨v, p, r, hv, e⟩
    exact ⟨v, p, r, Or.inl hv, e⟩
theorem usq_nn (u : Int × Int) : 0 ≤ usq u := by
  have h1 : 0 ≤ u.1 * u.1 := by
    rcases Int.le_total 0 u.1 with h | h
    · exact Int.mul_nonneg h h
    · have := Int.mul_nonneg (show 0 ≤ -u.1 by omega) (show 0 ≤ -u.1 by omega)
      rw [Int.neg_mul_neg] at this; exact this
  have h2 : 0 ≤ u.2 * u.2 := by
    rcases Int.le_total 0 u.2 with h | h
    · exact Int.mul_nonneg h h
    · have := Int.mul_nonneg (show 0 ≤ -u.2 by omega) (show 0 ≤ -u.2 by omega)
      rw [Int.neg_mul_neg] at this; exact this
  unfold usq
  omega
theorem sq_pos {a : Int} (h : a ≠ 0) : 0 < a * a := by
  rcases Int.lt_or_gt_of_ne h with h | h
  · have := Int.mul_pos (show 0 < -a by omega) (show 0 < -a by omega)
    rw [Int.neg_mul_neg] at this; exact this
  · exact Int.mul_pos h h
theorem usq_pos {u : Int × Int} (h : u.1 ≠ 0 ∨ u.2 ≠ 0) : 0 < usq u := by
  unfold usq
  have e : ∀ a : Int, 0 ≤ a * a := fun a => by
    by_cases ha : a = 0
    · subst ha; decide
    · exact Int.le_of_lt (sq_pos ha)
  rcases h with h | h
  · have := sq_pos h
    have := e u.2
    omega
  · have := sq_pos h
    have := e u.1
    omega
theorem gap_u {P : List Nat} {pt : Nat → Pt} {u : Int × Int} {p r : Nat} (h : isGap P pt u p r) : 0 < usq u := by
  apply usq_pos
  have h1 := h.2.2.1
  unfold pj at h1
  by_cases h2 : u.1 = 0
  · by_cases h3 : u.2 = 0
    · rw [h2, h3] at h1; omega
    · exact Or.inr h3
  · exact Or.inl h2
/-- proportional directions -/
def prp (u v : Int × Int) : Prop := ∃ k m : Int, 0 < k ∧ m ≠ 0 ∧ k * v.1 = m * u.1 ∧ k * v.2 = m * u.2
theorem prp_pj {u v : Int × Int} {k m : Int} (h1 : k * v.1 = m * u.1) (h2 : k * v.2 = m * u.2) (p r : Pt) : k * (pj v r - pj v p) = m * (pj u r - pj u p) := by
  unfold pj
  generalize r.1.toInt = a
  generalize r.2.1.toInt = b
  generalize p.1.toInt = c
  generalize p.2.1.toInt = d
  have : k * (v.1 * a + v.2 * b - (v.1 * c + v.2 * d)) = (k * v.1) * a + (k * v.2) * b - ((k * v.1) * c + (k * v.2) * d) := by grind
  rw [this, h1, h2]
  grind
theorem prp_gap {P : List Nat} {pt : Nat → Pt} {u v : Int × Int} {p r : Nat} (h : prp u v) (hg : isGap P pt u p r) : ∃ p' r', isGap P pt v p' r' ∧ gsq pt u p r * usq v = gsq pt v p' r' * usq u := by
  obtain ⟨k, m, hk, hm, h1, h2⟩ := h
  obtain ⟨g1, g2, g3, g4⟩ := hg
  have key : gsq pt u p r * usq v = gsq pt v p r * usq u := by
    have e := prp_pj h1 h2 (pt p) (pt r)
    have eu : k * k * usq v = m * m * usq u := by
      unfold usq
      have : k * k * (v.1 * v.1 + v.2 * v.2) = (k * v.1) * (k * v.1) + (k * v.2) * (k * v.2) := by grind
      rw [this, h1, h2]
      grind
    unfold gsq
    generalize pj u (pt r) - pj u (pt p) = a at e ⊢
    generalize pj v (pt r) - pj v (pt p) = b at e ⊢
    have hp : 0 < (k * k) * (m * m) := Int.mul_pos (Int.mul_pos hk hk) (sq_pos hm)
    refine Int.eq_of_mul_eq_mul_left (a := (k * k) * (m * m)) (by omega) ?_
    have l : (k * k) * (m * m) * (a * a * usq v) = (m * a) * (m * a) * (k * k * usq v) := by grind
    have r' : (k * k) * (m * m) * (b * b * usq u) = (k * b) * (k * b) * (m * m * usq u) := by grind
    rw [l, r', eu, e]
  rcases Int.lt_or_gt_of_ne hm with hm | hm
  · refine ⟨r, p, ⟨g2, g1, ?_, fun q hq hc => ?_⟩, ?_⟩
    · have e := prp_pj h1 h2 (pt r) (pt p)
      have : 0 < m * (pj u (pt p) - pj u (pt r)) := by
        have := Int.mul_pos (show 0 < -m by omega) (show 0 < pj u (pt r) - pj u (pt p) by omega)
        have e2 : -m * (pj u (pt r) - pj u (pt p)) = m * (pj u (pt p) - pj u (pt r)) := by grind
        omega
      have := (sgn_mul hk e).1.mpr this
      omega
    · have e1 := prp_pj h1 h2 (pt r) (pt q)
      have e2 := prp_pj h1 h2 (pt q) (pt p)
      have s1 := (sgn_mul hk e1).1.mp (by omega)
      have s2 := (sgn_mul hk e2).1.mp (by omega)
      refine g4 q hq ⟨?_, ?_⟩
      · rcases Int.lt_or_le (pj u (pt p)) (pj u (pt q)) with z | z
        · exact z
        · have := Int.mul_nonneg (show 0 ≤ -m by omega) (show 0 ≤ pj u (pt p) - pj u (pt q) by omega)
          have e3 : -m * (pj u (pt p) - pj u (pt q)) = -(m * (pj u (pt p) - pj u (pt q))) := by grind
          omega
      · rcases Int.lt_or_le (pj u (pt q)) (pj u (pt r)) with z | z
        · exact z
        · have := Int.mul_nonneg (show 0 ≤ -m by omega) (show 0 ≤ pj u (pt q) - pj u (pt r) by omega)
          have e3 : -m * (pj u (pt q) - pj u (pt r)) = -(m * (pj u (pt q) - pj u (pt r))) := by grind
          omega
    · rw [key]
      congr 1
      unfold gsq
      grind
  · refine ⟨p, r, ⟨g1, g2, ?_, fun q hq hc => ?_⟩, key⟩
    · have e := prp_pj h1 h2 (pt p) (pt r)
      have := (sgn_mul hk e).1.mpr (Int.mul_pos hm (by omega))
      omega
    · have e1 := prp_pj h1 h2 (pt p) (pt q)
      have e2 := prp_pj h1 h2 (pt q) (pt r)
      have s1 := (sgn_mul hk e1).1.mp (by omega)
      have s2 := (sgn_mul hk e2).1.mp (by omega)
      have t1 := (sgn_mul hm (rfl : m * (pj u (pt q) - pj u (pt p)) = _)).1.mpr s1
      have t2 := (sgn_mul hm (rfl : m * (pj u (pt r) - pj u (pt q)) = _)).1.mpr s2
      exact g4 q hq ⟨by omega, by omega⟩
theorem WBest_prp {D E : Int × Int → Prop} {P : List Nat} {pt : Nat → Pt} {up low : Int} (h : WBest D P pt up low) (h1 : ∀ v, E v → ∃ u, D u ∧ prp v u) (h2 : ∀ u, D u → ∃ v, E v ∧ prp u v) : WBest E P pt up low := by
  obtain ⟨k1, k2, k3, k4⟩ := h
  refine ⟨k1, k2, fun v p r hv hg => ?_, k4.imp id ?_⟩
  · obtain ⟨u, hu, hp⟩ := h1 v hv
    obtain ⟨p', r', hg', e⟩ := prp_gap hp hg
    have hb := k3 u p' r' hu hg'
    exact fr_3 (gap_u hg) (gap_u hg') k1 (Int.le_of_eq e) hb
  · rintro ⟨u, p, r, hu, hg, he⟩
    obtain ⟨v, hv, hp⟩ := h2 u hu
    obtain ⟨p', r', hg', e⟩ := prp_gap hp hg
    have b1 := fr_3 (gap_u hg') (gap_u hg) k1 (Int.le_of_eq e.symm) (Int.le_of_eq he)
    have b2 := fr_3 k1 (gap_u hg) (gap_u hg') (Int.le_of_eq he.symm) (Int.le_of_eq e)
    exact ⟨v, p', r', hv, hg', by omega⟩
theorem gsq_pos {P : List Nat} {pt : Nat → Pt} {u : Int × Int} {p r : Nat} (h : isGap P pt u p r) : 0 < gsq pt u p r := by
  have := h.2.2.1
  exact Int.mul_pos (by omega) (by omega)
theorem WBest_uniq {D : Int × Int → Prop} {P : List Nat} {pt : Nat → Pt} {up low up' low' : Int} (h : WBest D P pt up low) (g : WBest D P pt up' low') : up * low' = up' * low := by
  obtain ⟨h1, h2, h3, h4⟩ := h
  obtain ⟨g1, g2, g3, g4⟩ := g
  have le : ∀ {a b c d : Int}, 0 < b → 0 < d → 0 ≤ c → (a = 0 ∨ ∃ u p r, D u ∧ isGap P pt u p r ∧ gsq pt u p r * b = a * usq u) → (∀ u p r, D u → isGap P pt u p r → gsq pt u p r * d ≤ c * usq u) → a * d ≤ c * b := by
    intro a b c d hb hd hc ha hcd
    rcases ha with rfl | ⟨u, p, r, hu, hg, e⟩
    · have := Int.mul_nonneg hc (Int.le_of_lt hb)
      omega
    · exact fr_3 hb (gap_u hg) hd (Int.le_of_eq e.symm) (hcd u p r hu hg)
  have a1 := le h1 g1 g2 h4 g3
  have a2 := le g1 h1 h2 g4 h3
  omega
theorem WBest_red {D : Int × Int → Prop} {P : List Nat} {pt : Nat → Pt} {up low : Int} (h : WBest D P pt up low) : WBest D P pt (up.tdiv (gg up low : Int)) (low.tdiv (gg up low : Int)) := by
  obtain ⟨h1, h2, h3, h4⟩ := h
  obtain ⟨e1, e2, e3, -⟩ := red_spec up low h1
  have hg := gg_pos (A := up) (B := low) (Or.inr (by omega))
  generalize up.tdiv (gg up low : Int) = x at *
  generalize low.tdiv (gg up low : Int) = y at *
  generalize hgg : ((gg up low : Nat) : Int) = c at *
  have hc : 0 < c := by omega
  refine ⟨e3, ?_, fun u p r hu hgp => ?_, ?_⟩
  · rcases Int.lt_or_le x 0 with z | z
    · have := (sgn_mul hc e1).2.mp z; omega
    · exact z
  · have := h3 u p r hu hgp
    rw [← e1, ← e2] at this
    have l : gsq pt u p r * (c * y) = c * (gsq pt u p r * y) := by grind
    have m : c * x * usq u = c * (x * usq u) := by grind
    rw [l, m] at this
    exact Int.le_of_mul_le_mul_left this hc
  · rcases h4 with h4 | ⟨u, p, r, hu, hgp, e⟩
    · left
      rw [h4] at e1
      rcases Int.mul_eq_zero.mp e1 with z | z
      · omega
      · exact z
    · right
      refine ⟨u, p, r, hu, hgp, ?_⟩
      rw [← e1, ← e2] at e
      have l : gsq pt u p r * (c * y) = c * (gsq pt u p r * y) := by grind
      have m : c * x * usq u = c * (x * usq u) := by grind
      rw [l, m] at e
      exact Int.eq_of_mul_eq_mul_left (by omega) e
theorem gap_ex {P : List Nat} {pt : Nat → Pt} {u : Int × Int} {p q : Nat} (hp : p ∈ P) (hq : q ∈ P) (h : pj u (pt p) < pj u (pt q)) : ∃ r, isGap P pt u p r := by
  have aux : ∀ (E : List Nat), (∀ k ∈ E, k ∈ P) → ∃ r ∈ P, pj u (pt p) < pj u (pt r) ∧ ∀ k ∈ E, ¬ (pj u (pt p) < pj u (pt k) ∧ pj u (pt k) < pj u (pt r)) := by
    intro E
    induction E with
    | nil => intro _; exact ⟨q, hq, h, fun k hk => by cases hk⟩
    | cons x E ih =>
      intro hE
      obtain ⟨r, hr, h1, h2⟩ := ih (fun k hk => hE k (List.mem_cons_of_mem _ hk))
      by_cases hc : pj u (pt p) < pj u (pt x) ∧ pj u (pt x) < pj u (pt r)
      · refine ⟨x, hE x List.mem_cons_self, hc.1, fun k hk => ?_⟩
        rcases List.mem_cons.mp hk with rfl | hk
        · omega
        · have := h2 k hk; omega
      · refine ⟨r, hr, h1, fun k hk => ?_⟩
        rcases List.mem_cons.mp hk with rfl | hk
        · exact hc
        · exact h2 k hk
  obtain ⟨r, hr, h1, h2⟩ := aux P (fun _ hk => hk)
  exact ⟨r, hp, hr, h1, h2⟩
/-- where there is a line there is a gap, so the widest strip is wide -/
theorem dirs_gap {n : Nat} {pt : Nat → Pt} (h : LPR (prs n pt) pt ≠ []) : ∃ u p r, dirs n pt u ∧ isGap (prs n pt) pt u p r := by
  obtain ⟨z, hz⟩ := List.exists_mem_of_ne_nil _ h
  obtain ⟨h1, h2, h3⟩ := LPR_mem hz
  have hu : dirs n pt ((lnO pt z).2.1, -(lnO pt z).1) := ⟨lnO pt z, ⟨z, hz, rfl⟩, Or.inr rfl⟩
  have hne := (lnO_prim h3).2
  have z1 : lv (lnO pt z) (pt z.1) = 0 := (lv_0 h3 _).mpr (crs_self _ _).1
  have z2 : lv (lnO pt z) (pt z.2) = 0 := (lv_0 h3 _).mpr (crs_self _ _).2
  have ha := apt_iff.mp h3
  have hpj : pj ((lnO pt z).2.1, -(lnO pt z).1) (pt z.1) ≠ pj ((lnO pt z).2.1, -(lnO pt z).1) (pt z.2) := by
    intro e
    unfold pj at e
    unfold lv at z1 z2
    dsimp only at e
    generalize lnO pt z = t at *
    generalize (pt z.1).1.toInt = x1 at *
    generalize (pt z.1).2.1.toInt = y1 at *
    generalize (pt z.2).1.toInt = x2 at *
    generalize (pt z.2).2.1.toInt = y2 at *
    have e1 : t.1 * (x1 - x2) + t.2.1 * (y1 - y2) = 0 := by grind
    have e2 : t.2.1 * (x1 - x2) - t.1 * (y1 - y2) = 0 := by grind
    have s : 0 < t.1 * t.1 + t.2.1 * t.2.1 := usq_pos (u := (t.1, t.2.1)) hne
    have k1 : (t.1 * t.1 + t.2.1 * t.2.1) * (x1 - x2) = 0 := by grind
    have k2 : (t.1 * t.1 + t.2.1 * t.2.1) * (y1 - y2) = 0 := by grind
    rcases Int.mul_eq_zero.mp k1 with z | z
    · omega
    · rcases Int.mul_eq_zero.mp k2 with w | w
      · omega
      · omega
  rcases Int.lt_or_gt_of_ne hpj with g | g
  · obtain ⟨r, hr⟩ := gap_ex h1 h2 g
    exact ⟨_, _, r, hu, hr⟩
  · obtain ⟨r, hr⟩ := gap_ex h2 h1 g
    exact ⟨_, _, r, hu, hr⟩
theorem WBest_wide {n : Nat} {pt : Nat → Pt} {up low : Int} (h : WBest (dirs n pt) (prs n pt) pt up low) (hl : LPR (prs n pt) pt ≠ []) : up ≠ 0 := by
  obtain ⟨u, p, r, hu, hg⟩ := dirs_gap hl
  intro e
  have h1 := h.2.2.1 u p r hu hg
  rw [e, Int.zero_mul] at h1
  have h2 := Int.mul_pos (gsq_pos hg) h.1
  omega
theorem WBest_none {n : Nat} {pt : Nat → Pt} {up low : Int} (h : WBest (dirs n pt) (prs n pt) pt up low) (hl : LPR (prs n pt) pt = []) : up = 0 := by
  rcases h.2.2.2 with e | ⟨u, p, r, hu, _⟩
  · exact e
  · obtain ⟨t, ⟨z, hz, _⟩, _⟩ := hu
    rw [hl] at hz
    cases hz
def sWidest (a : Ab) (w : Int32) (v : Int) : Prop := if ¬ (0 ≤ w.toInt ∧ w.toInt < 2) then v = -1000001 else if LPR (prs a.1.1 a.1.2) a.1.2 = [] then v = -1000002 else ∃ up low, WBest (dirs a.1.1 a.1.2) (prs a.1.1 a.1.2) a.1.2 up low ∧ v = (if w.toInt = 0 then up.tdiv (gg up low : Int) else low.tdiv (gg up low : Int))
theorem sWidest_uniq {a : Ab} {w : Int32} {u v : Int} (h : sWidest a w u) (g : sWidest a w v) : u = v := by
  unfold sWidest at h g
  split at h
  · rename_i k; rw [if_pos k] at g; omega
  · rename_i k
    rw [if_neg k] at g
    split at h
    · rename_i k1; rw [if_pos k1] at g; omega
    · rename_i k1
      rw [if_neg k1] at g
      obtain ⟨up, low, h1, h2⟩ := h
      obtain ⟨up', low', g1, g2⟩ := g
      have := red_uniq h1.1 g1.1 (WBest_uniq h1 g1)
      rw [h2, g2, this.1, this.2]
/-! sorted rows of projections -/
def srt (A : Nat → Int) (m : Nat) : Prop := ∀ i j, i < j → j < m → A i ≤ A j
def vls (A : Nat → Int) (m : Nat) (P : List Nat) (f : Nat → Int) : Prop := (∀ j, j < m → ∃ i p, i < m ∧ P[i]? = some p ∧ A j = f p) ∧ ∀ i p, i < m → P[i]? = some p → ∃ j, j < m ∧ A j = f p
theorem srt_ins {A B : Nat → Int} {m t : Nat} {v : Int} (h : srt A m) (ht : t ≤ m) (h1 : ∀ j, j < t → B j = A j) (h2 : B t = v) (h3 : ∀ j, t < j → j ≤ m → B j = A (j - 1)) (h4 : 0 < t → A (t - 1) ≤ v) (h5 : ∀ j, t ≤ j → j < m → v < A j) : srt B (m + 1) := by
  intro i j hij hj
  have lo : ∀ i, i < t → A i ≤ v := fun i hi => by
    rcases Nat.lt_or_ge i (t - 1) with g | g
    · exact Int.le_trans (h i (t - 1) g (by omega)) (h4 (by omega))
    · rw [show i = t - 1 by omega]; exact h4 (by omega)
  rcases Nat.lt_trichotomy i t with a | a | a
  · rw [h1 i a]
    rcases Nat.lt_trichotomy j t with b | b | b
    · rw [h1 j b]; exact h i j hij (by omega)
    · rw [b, h2]; exact lo i a
    · rw [h3 j b (by omega)]
      have := lo i a
      have := h5 (j - 1) (by omega) (by omega)
      omega
  · rw [a, h2, h3 j (by omega) (by omega)]
    exact Int.le_of_lt (h5 (j - 1) (by omega) (by omega))
  · rw [h3 i a (by omega), h3 j (by omega) (by omega)]
    exact h (i - 1) (j - 1) (by omega) (by omega)
theorem vls_ins {A B : Nat → Int} {m t : Nat} {v : Int} {P : List Nat} {f : Nat → Int} {q : Nat} (h : vls A m P f) (ht : t ≤ m) (h1 : ∀ j, j < t → B j = A j) (h2 : B t = v) (h3 : ∀ j, t < j → j ≤ m → B j = A (j - 1)) (hq : P[m]? = some q) (hv : v = f q) : vls B (m + 1) P f := by
  constructor
  · intro j hj
    rcases Nat.lt_trichotomy j t with a | a | a
    · obtain ⟨i, p, k1, k2, k3⟩ := h.1 j (by omega)
      exact ⟨i, p, by omega, k2, by rw [h1 j a]; exact k3⟩
    · exact ⟨m, q, by omega, hq, by rw [a, h2]; exact hv⟩
    · obtain ⟨i, p, k1, k2, k3⟩ := h.1 (j - 1) (by omega)
      exact ⟨i, p, by omega, k2, by rw [h3 j a (by omega)]; exact k3⟩
  · intro i p hi hp
    rcases Nat.lt_or_ge i m with a | a
    · obtain ⟨j, k1, k2⟩ := h.2 i p a hp
      rcases Nat.lt_or_ge j t with b | b
      · exact ⟨j, by omega, by rw [h1 j b]; exact k2⟩
      · exact ⟨j + 1, by omega, by rw [h3 (j + 1) (by omega) (by omega)]; exact k2⟩
    · have e : i = m := by omega
      subst e
      rw [hq] at hp
      cases hp
      exact ⟨t, by omega, by rw [h2]; exact hv⟩
/-- steps of a sorted row are gaps -/
theorem step_gap {A : Nat → Int} {P : List Nat} {pt : Nat → Pt} {u : Int × Int} {i : Nat} (h : srt A P.length) (hv : vls A P.length P (fun p => pj u (pt p))) (hi : i + 1 < P.length) (hlt : A i < A (i + 1)) : ∃ p r, isGap P pt u p r ∧ pj u (pt r) - pj u (pt p) = A (i + 1) - A i := by
  obtain ⟨a, p, a1, a2, a3⟩ := hv.1 i (by omega)
  obtain ⟨b, r, b1, b2, b3⟩ := hv.1 (i + 1) hi
  dsimp only at a3 b3
  refine ⟨p, r, ⟨List.mem_of_getElem? a2, List.mem_of_getElem? b2, by omega, fun k hk hc => ?_⟩, by omega⟩
  obtain ⟨c, hc1⟩ := List.getElem?_of_mem hk
  obtain ⟨j, j1, j2⟩ := hv.2 c k (List.getElem?_eq_some_iff.mp hc1).1 hc1
  dsimp only at j2
  rcases Nat.lt_or_ge j (i + 1) with g | g
  · rcases Nat.lt_or_ge j i with g2 | g2
    · have := h j i g2 (by omega); omega
    · rw [show j = i by omega] at j2; omega
  · rcases Nat.lt_or_ge (i + 1) j with g2 | g2
    · have := h (i + 1) j g2 j1; omega
    · rw [show j = i + 1 by omega] at j2; omega
/-- no gap is wider than all steps -/
theorem gap_step {A : Nat → Int} {P : List Nat} {pt : Nat → Pt} {u : Int × Int} {g : Int} {p r : Nat} (h : srt A P.length) (hv : vls A P.length P (fun p => pj u (pt p))) (hg : ∀ i, i + 1 < P.length → A (i + 1) - A i ≤ g) (hp : isGap P pt u p r) : pj u (pt r) - pj u (pt p) ≤ g := by
  obtain ⟨h1, h2, h3, h4⟩ := hp
  obtain ⟨a, ha⟩ := List.getElem?_of_mem h1
  obtain ⟨b, hb⟩ := List.getElem?_of_mem h2
  obtain ⟨i, i1, i2⟩ := hv.2 a p (List.getElem?_eq_some_iff.mp ha).1 ha
  obtain ⟨j, j1, j2⟩ := hv.2 b r (List.getElem?_eq_some_iff.mp hb).1 hb
  dsimp only at i2 j2
  have aux : ∀ d k, k + d = j → A k ≤ pj u (pt p) → pj u (pt r) - pj u (pt p) ≤ g := by
    intro d
    induction d with
    | zero => intro k hk hA; rw [show k = j by omega, j2] at hA; omega
    | succ d ih =>
      intro k hk hA
      rcases Int.lt_or_le (pj u (pt p)) (A (k + 1)) with z | z
      · obtain ⟨c, q, c1, c2, c3⟩ := hv.1 (k + 1) (by omega)
        dsimp only at c3
        have := h4 q (List.mem_of_getElem? c2)
        have := hg k (by omega)
        omega
      · exact ih (k + 1) (by omega) z
  have hij : i < j := by
    rcases Nat.lt_or_ge i j with z | z
    · exact z
    · exfalso
      rcases Nat.lt_or_ge j i with w | w
      · have := h j i w i1; omega
      · rw [show i = j by omega, j2] at i2; omega
  exact aux (j - i) i (by omega) (by omega)
