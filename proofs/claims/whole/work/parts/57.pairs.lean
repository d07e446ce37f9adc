/-! pairs of plants, lines through them -/
def rowA (P : List Nat) (ok : Nat × Nat → Bool) (i : Nat) : Nat → List (Nat × Nat)
  | 0 => []
  | j + 1 => rowA P ok i j ++ (if i < j ∧ ok (P.getD i 0, P.getD j 0) = true then [(P.getD i 0, P.getD j 0)] else [])
def allA (P : List Nat) (ok : Nat × Nat → Bool) (m : Nat) : Nat → List (Nat × Nat)
  | 0 => []
  | i + 1 => allA P ok m i ++ rowA P ok i m
theorem rowA_no {P : List Nat} {ok : Nat × Nat → Bool} {i : Nat} : ∀ j, j ≤ i + 1 → rowA P ok i j = []
  | 0, _ => rfl
  | j + 1, h => by
    show rowA P ok i j ++ _ = []
    rw [rowA_no j (by omega), if_neg (by omega)]
    rfl
theorem rowA_eq {P : List Nat} {ok : Nat × Nat → Bool} {i : Nat} : ∀ j, i + 1 ≤ j → j ≤ P.length → rowA P ok i j = (((P.take j).drop (i + 1)).map (fun y => (P.getD i 0, y))).filter ok
  | 0, h, _ => by omega
  | j + 1, h, hj => by
    have hg : P[j]? = some (P.getD j 0) := by rw [List.getD_eq_getElem?_getD, List.getElem?_eq_getElem (by omega)]; rfl
    show rowA P ok i j ++ _ = _
    rw [take_step hg]
    rcases Nat.lt_or_ge i j with h1 | h1
    · rw [rowA_eq j (by omega) (by omega), List.drop_append_of_le_length (by rw [List.length_take]; omega), List.map_append, List.filter_append]
      congr 1
      by_cases hk : ok (P.getD i 0, P.getD j 0) = true
      · rw [if_pos ⟨h1, hk⟩]; simp only [List.map_cons, List.map_nil, List.filter_cons, hk, if_true, List.filter_nil]
      · rw [if_neg (fun z => hk z.2)]; simp only [List.map_cons, List.map_nil, List.filter_cons, hk, List.filter_nil, Bool.false_eq_true, if_false]
    · have : j = i := by omega
      subst this
      rw [rowA_no j (by omega), if_neg (by omega), List.drop_eq_nil_of_le (by simp; omega)]
      rfl
theorem allA_part {P : List Nat} {ok : Nat × Nat → Bool} : ∀ i, i ≤ P.length → allA P ok P.length i ++ (prl (P.drop i)).filter ok = (prl P).filter ok
  | 0, _ => rfl
  | i + 1, h => by
    refine Eq.trans ?_ (allA_part (P := P) (ok := ok) i (by omega))
    show (allA P ok P.length i ++ rowA P ok i P.length) ++ _ = _
    rw [List.append_assoc]
    congr 1
    have hd : P.drop i = P.getD i 0 :: P.drop (i + 1) := by
      rw [List.drop_eq_getElem_cons (by omega), List.getD_eq_getElem?_getD, List.getElem?_eq_getElem (by omega)]; rfl
    rw [hd]
    show _ = ((P.drop (i + 1)).map (fun y => (P.getD i 0, y)) ++ prl (P.drop (i + 1))).filter ok
    rw [List.filter_append, rowA_eq P.length (by omega) (Nat.le_refl _), List.take_length]
theorem allA_all {P : List Nat} {ok : Nat × Nat → Bool} : allA P ok P.length P.length = (prl P).filter ok := by
  have := allA_part (P := P) (ok := ok) P.length (Nat.le_refl _)
  rw [List.drop_length] at this
  simpa [prl] using this
theorem prl_filter (f : Nat → Bool) (ok : Nat × Nat → Bool) : ∀ l : List Nat, (prl l).filter (fun z => f z.1 && f z.2 && ok z) = (prl (l.filter f)).filter ok
  | [] => rfl
  | x :: xs => by
    show (xs.map (fun y => (x, y)) ++ prl xs).filter _ = _
    rw [List.filter_append, prl_filter f ok xs]
    cases hx : f x with
    | true =>
      rw [List.filter_cons_of_pos (by rw [hx])]
      show _ = ((xs.filter f).map (fun y => (x, y)) ++ prl (xs.filter f)).filter ok
      rw [List.filter_append]
      congr 1
      rw [List.filter_map, List.filter_map, List.filter_filter]
      congr 1
      apply List.filter_congr
      intro y _
      simp [hx, Bool.and_comm]
    | false =>
      rw [List.filter_cons_of_neg (by rw [hx]; decide)]
      have : (xs.map (fun y => (x, y))).filter (fun z => f z.1 && f z.2 && ok z) = [] := by
        rw [List.filter_eq_nil_iff]
        intro z hz
        obtain ⟨y, -, rfl⟩ := List.mem_map.mp hz
        simp [hx]
      rw [this]
      rfl
theorem prl_mem {z : Nat × Nat} : ∀ {l : List Nat}, z ∈ prl l → z.1 ∈ l ∧ z.2 ∈ l
  | [], h => by simp [prl] at h
  | x :: xs, h => by
    rcases List.mem_append.mp h with h | h
    · obtain ⟨y, hy, rfl⟩ := List.mem_map.mp h
      exact ⟨List.mem_cons_self, List.mem_cons_of_mem _ hy⟩
    · have := prl_mem h
      exact ⟨List.mem_cons_of_mem _ this.1, List.mem_cons_of_mem _ this.2⟩
theorem prl_lt {z : Nat × Nat} : ∀ {l : List Nat}, l.Pairwise (· < ·) → z ∈ prl l → z.1 < z.2
  | [], _, h => by simp [prl] at h
  | x :: xs, hp, h => by
    rw [List.pairwise_cons] at hp
    rcases List.mem_append.mp h with h | h
    · obtain ⟨y, hy, rfl⟩ := List.mem_map.mp h
      exact hp.1 y hy
    · exact prl_lt hp.2 h
theorem prl_in {p q : Nat} : ∀ {l : List Nat}, l.Pairwise (· < ·) → p ∈ l → q ∈ l → p < q → (p, q) ∈ prl l
  | [], _, h, _, _ => by cases h
  | x :: xs, hp, h1, h2, hlt => by
    rw [List.pairwise_cons] at hp
    rcases List.mem_cons.mp h1 with e1 | g1
    · rcases List.mem_cons.mp h2 with e2 | g2
      · omega
      · rw [e1]; exact List.mem_append_left _ (List.mem_map.mpr ⟨q, g2, rfl⟩)
    · rcases List.mem_cons.mp h2 with e2 | g2
      · have := hp.1 p g1; omega
      · exact List.mem_append_right _ (prl_in hp.2 g1 g2 hlt)
theorem prs_sorted (n : Nat) (pt : Nat → Pt) : (prs n pt).Pairwise (· < ·) := List.Pairwise.filter _ List.pairwise_lt_range
theorem prs_mem {n i : Nat} {pt : Nat → Pt} : i ∈ prs n pt ↔ i < n ∧ (pt i).2.2.2.2 = false := by
  unfold prs
  simp only [List.mem_filter, List.mem_range, Bool.not_eq_true']
theorem sorted_idx {l : List Nat} (hs : l.Pairwise (· < ·)) {i j a b : Nat} (hi : l[i]? = some a) (hj : l[j]? = some b) : (i < j ↔ a < b) ∧ (i = j ↔ a = b) := by
  have h1 : ∀ {i j a b : Nat}, l[i]? = some a → l[j]? = some b → i < j → a < b := by
    intro i j a b hi hj hlt
    obtain ⟨hi1, hi2⟩ := List.getElem?_eq_some_iff.mp hi
    obtain ⟨hj1, hj2⟩ := List.getElem?_eq_some_iff.mp hj
    have := List.pairwise_iff_getElem.mp hs i j hi1 hj1 hlt
    omega
  rcases Nat.lt_trichotomy i j with h | h | h
  · have := h1 hi hj h; omega
  · subst h; rw [hi] at hj; cases hj; omega
  · have := h1 hj hi h; omega
theorem getD_some {l : List Nat} {i a : Nat} (h : l[i]? = some a) : l.getD i 0 = a := by rw [List.getD_eq_getElem?_getD, h]; rfl
/-- bounds on how many pairs there are -/
def tt : Nat → Nat
  | 0 => 0
  | i + 1 => tt i + (39 - i)
theorem rowA_len {P : List Nat} {ok : Nat × Nat → Bool} {i : Nat} : ∀ j, (rowA P ok i j).length ≤ j - (i + 1)
  | 0 => Nat.zero_le _
  | j + 1 => by
    have h := rowA_len (P := P) (ok := ok) (i := i) j
    show (rowA P ok i j ++ _).length ≤ _
    rw [List.length_append]
    by_cases hc : i < j ∧ ok (P.getD i 0, P.getD j 0) = true
    · rw [if_pos hc]; simp; omega
    · rw [if_neg hc]; simp; omega
theorem allA_len {P : List Nat} {ok : Nat × Nat → Bool} {m : Nat} (hm : m ≤ 40) : ∀ i, (allA P ok m i).length ≤ tt i
  | 0 => Nat.zero_le _
  | i + 1 => by
    have h := allA_len (P := P) (ok := ok) hm i
    have h2 := rowA_len (P := P) (ok := ok) (i := i) m
    show (allA P ok m i ++ rowA P ok i m).length ≤ tt i + (39 - i)
    rw [List.length_append]
    omega
theorem tt_lt : ∀ i, i < 39 → tt i + (39 - (i + 1)) < 780 := by decide
theorem pair_room {P : List Nat} {ok : Nat × Nat → Bool} {m i j : Nat} (hm : m ≤ 40) (hij : i < j) (hj : j < m) : (allA P ok m i ++ rowA P ok i j).length < 780 := by
  have h1 := allA_len (P := P) (ok := ok) hm i
  have h2 := rowA_len (P := P) (ok := ok) (i := i) j
  have h3 := tt_lt i (by omega)
  rw [List.length_append]
  omega
theorem LPR_len {P : List Nat} {pt : Nat → Pt} (h : P.length ≤ 40) : (LPR P pt).length ≤ 780 := by
  unfold LPR
  rw [← allA_all]
  have h1 := allA_len (P := P) (ok := okp P pt) h P.length
  have h2 : ∀ i, i ≤ 40 → tt i ≤ 780 := by decide
  exact Nat.le_trans h1 (h2 _ h)
/-- a line's numbers, divided -/
theorem lnN_mul (A B C : Int) (h : A ≠ 0 ∨ B ≠ 0) : ∃ s : Int, (s = 1 ∨ s = -1) ∧ (g3 A B C : Int) * (lnN A B C).1 = s * A ∧ (g3 A B C : Int) * (lnN A B C).2.1 = s * B ∧ (g3 A B C : Int) * (lnN A B C).2.2 = s * C := by
  have d1 : ((g3 A B C : Nat) : Int) ∣ A := by
    apply Int.ofNat_dvd_left.mpr
    exact Nat.dvd_trans (Nat.gcd_dvd_left _ _) (by simp only [Int.natAbs_natCast]; exact Nat.gcd_dvd_left _ _)
  have d2 : ((g3 A B C : Nat) : Int) ∣ B := by
    apply Int.ofNat_dvd_left.mpr
    exact Nat.dvd_trans (Nat.gcd_dvd_left _ _) (by simp only [Int.natAbs_natCast]; exact Nat.gcd_dvd_right _ _)
  have d3 : ((g3 A B C : Nat) : Int) ∣ C := by
    apply Int.ofNat_dvd_left.mpr
    exact Nat.gcd_dvd_right _ _
  unfold lnN
  split
  · refine ⟨-1, Or.inr rfl, ?_, ?_, ?_⟩
    · rw [Int.mul_tdiv_cancel' (Int.dvd_neg.mpr d1)]; omega
    · rw [Int.mul_tdiv_cancel' (Int.dvd_neg.mpr d2)]; omega
    · rw [Int.mul_tdiv_cancel' (Int.dvd_neg.mpr d3)]; omega
  · refine ⟨1, Or.inl rfl, ?_, ?_, ?_⟩
    · rw [Int.mul_tdiv_cancel' d1]; omega
    · rw [Int.mul_tdiv_cancel' d2]; omega
    · rw [Int.mul_tdiv_cancel' d3]; omega
theorem apt_iff {p q : Pt} : apt p q = true ↔ (p.1.toInt ≠ q.1.toInt ∨ p.2.1.toInt ≠ q.2.1.toInt) := by unfold apt; simp
theorem apt_no {p q : Pt} : apt p q = false ↔ (p.1.toInt = q.1.toInt ∧ p.2.1.toInt = q.2.1.toInt) := by
  unfold apt
  rw [decide_eq_false_iff_not]
  omega
theorem lv_crs0 (x1 y1 x2 y2 x y : Int) (h : x1 ≠ x2 ∨ y1 ≠ y2) : ∃ g s : Int, 0 < g ∧ (s = 1 ∨ s = -1) ∧ g * ((lnT x1 y1 x2 y2).1 * x + (lnT x1 y1 x2 y2).2.1 * y + (lnT x1 y1 x2 y2).2.2) = s * ((x2 - x1) * (y - y1) - (y2 - y1) * (x - x1)) := by
  obtain ⟨s, hs, e1, e2, e3⟩ := lnN_mul (y1 - y2) (x2 - x1) (x1 * y2 - x2 * y1) (by omega)
  have hg := g3_pos (A := y1 - y2) (B := x2 - x1) (x1 * y2 - x2 * y1) (by omega)
  refine ⟨((g3 (y1 - y2) (x2 - x1) (x1 * y2 - x2 * y1) : Nat) : Int), s, by omega, hs, ?_⟩
  unfold lnT
  generalize lnN (y1 - y2) (x2 - x1) (x1 * y2 - x2 * y1) = t at e1 e2 e3 ⊢
  generalize ((g3 (y1 - y2) (x2 - x1) (x1 * y2 - x2 * y1) : Nat) : Int) = g at e1 e2 e3 ⊢
  have : g * (t.1 * x + t.2.1 * y + t.2.2) = (g * t.1) * x + (g * t.2.1) * y + g * t.2.2 := by grind
  rw [this, e1, e2, e3]
  grind
/-- where a plant stands to the line through two: by crs -/
theorem lv_crs {pt : Nat → Pt} {z : Nat × Nat} (h : apt (pt z.1) (pt z.2) = true) (r : Pt) : ∃ g s : Int, 0 < g ∧ (s = 1 ∨ s = -1) ∧ g * lv (lnO pt z) r = s * crs (pt z.1) (pt z.2) r :=
  lv_crs0 _ _ _ _ _ _ (apt_iff.mp h)
theorem lv_0 {pt : Nat → Pt} {z : Nat × Nat} (h : apt (pt z.1) (pt z.2) = true) (r : Pt) : lv (lnO pt z) r = 0 ↔ crs (pt z.1) (pt z.2) r = 0 := by
  obtain ⟨g, s, hg, hs, e⟩ := lv_crs h r
  constructor
  · intro h0
    rw [h0, Int.mul_zero] at e
    rcases hs with rfl | rfl <;> omega
  · intro h0
    rw [h0, Int.mul_zero] at e
    rcases Int.mul_eq_zero.mp e with h1 | h1
    · omega
    · exact h1
