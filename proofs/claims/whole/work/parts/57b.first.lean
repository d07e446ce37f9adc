/-! every line has a first pair -/
theorem mul_zero2 {a b t : Int} (h : a ≠ 0 ∨ b ≠ 0) (h1 : a * t = 0) (h2 : b * t = 0) : t = 0 := by
  rcases h with h | h
  · rcases Int.mul_eq_zero.mp h1 with e | e
    · exact absurd e h
    · exact e
  · rcases Int.mul_eq_zero.mp h2 with e | e
    · exact absurd e h
    · exact e
/-- vectors u, v that lie on one line: what lies on the line of the one lies on that of the other -/
theorem col_v {ux uy vx vy wx wy : Int} (hu : ux ≠ 0 ∨ uy ≠ 0) (h : ux * vy - uy * vx = 0) (hw : ux * wy - uy * wx = 0) : vx * wy - vy * wx = 0 := by
  have e1 : ux * (vx * wy - vy * wx) = vx * (ux * wy - uy * wx) - wx * (ux * vy - uy * vx) := by grind
  have e2 : uy * (vx * wy - vy * wx) = vy * (ux * wy - uy * wx) - wy * (ux * vy - uy * vx) := by grind
  rw [h, hw] at e1 e2
  exact mul_zero2 hu (by rw [e1]; omega) (by rw [e2]; omega)
/-- the same line: what is on the one is on the other -/
def sameL (pt : Nat → Pt) (z y : Nat × Nat) : Prop := ∀ r : Pt, crs (pt z.1) (pt z.2) r = 0 ↔ crs (pt y.1) (pt y.2) r = 0
theorem crs_swap (p q r : Pt) : crs q p r = -crs p q r := by unfold crs; grind
theorem crs_self (p q : Pt) : crs p q p = 0 ∧ crs p q q = 0 := by unfold crs; constructor <;> grind
/-- k on the line through p and q, apart from p: the line through p and k is the same -/
theorem col_line {p q k : Pt} (h1 : apt p q = true) (h2 : apt p k = true) (h : crs p q k = 0) (r : Pt) : crs p q r = 0 ↔ crs p k r = 0 := by
  have a1 := apt_iff.mp h1
  have a2 := apt_iff.mp h2
  unfold crs at h ⊢
  constructor
  · intro hr
    exact col_v (ux := q.1.toInt - p.1.toInt) (uy := q.2.1.toInt - p.2.1.toInt) (by omega) h hr
  · intro hr
    refine col_v (ux := k.1.toInt - p.1.toInt) (uy := k.2.1.toInt - p.2.1.toInt) (by omega) ?_ hr
    grind
theorem crs_at {p p' q r : Pt} (h : apt p p' = false) : crs p q r = crs p' q r := by
  have := apt_no.mp h
  unfold crs
  rw [this.1, this.2]
theorem apt_symm {p q : Pt} : apt p q = apt q p := by
  unfold apt
  congr 1
  exact propext ⟨fun h => by omega, fun h => by omega⟩
theorem fp_ex {P : List Nat} {pt : Nat → Pt} (hs : P.Pairwise (· < ·)) : ∀ (m p q : Nat), p + q < m → p ∈ P → q ∈ P → p < q → apt (pt p) (pt q) = true → ∃ z ∈ LPR P pt, sameL pt (p, q) z
  | 0, p, q, h, _, _, _, _ => by omega
  | m + 1, p, q, h, hp, hq, hlt, ha => by
    cases hf : fstP P pt p q with
    | true => exact ⟨(p, q), List.mem_filter.mpr ⟨prl_in hs hp hq hlt, by unfold okp; rw [ha, hf]; rfl⟩, fun r => Iff.rfl⟩
    | false =>
      have : ¬ (∀ k ∈ P, (!((Nat.blt k p || (Nat.blt p k && Nat.blt k q && apt (pt p) (pt k))) && decide (crs (pt p) (pt q) (pt k) = 0))) = true) := fun hh => by
        have := List.all_eq_true.mpr hh
        unfold fstP at hf
        rw [this] at hf
        cases hf
      obtain ⟨k, hk⟩ := Classical.not_forall.mp this
      obtain ⟨hkP, hk⟩ := Classical.not_imp.mp hk
      simp only [Bool.not_eq_true, Bool.not_eq_false', Bool.and_eq_true, Bool.or_eq_true, decide_eq_true_eq] at hk
      obtain ⟨hk1, hk0⟩ := hk
      rcases hk1 with hk1 | hk1
      · have hkp : k < p := Nat.le_of_ble_eq_true hk1
        cases hak : apt (pt k) (pt p) with
        | true =>
          obtain ⟨z, hz, hsm⟩ := fp_ex hs m k p (by omega) hkP hp hkp hak
          refine ⟨z, hz, fun r => Iff.trans ?_ (hsm r)⟩
          show crs (pt p) (pt q) r = 0 ↔ crs (pt k) (pt p) r = 0
          rw [col_line ha (by rw [apt_symm]; exact hak) hk0 r, crs_swap (pt k) (pt p) r]
          omega
        | false =>
          have haq : apt (pt k) (pt q) = true := by
            rw [apt_iff] at ha ⊢
            have := apt_no.mp hak
            omega
          obtain ⟨z, hz, hsm⟩ := fp_ex hs m k q (by omega) hkP hq (by omega) haq
          refine ⟨z, hz, fun r => Iff.trans ?_ (hsm r)⟩
          show crs (pt p) (pt q) r = 0 ↔ crs (pt k) (pt q) r = 0
          rw [crs_at hak]
      · have hpk : p < k := Nat.le_of_ble_eq_true hk1.1.1
        have hkq : k < q := Nat.le_of_ble_eq_true hk1.1.2
        obtain ⟨z, hz, hsm⟩ := fp_ex hs m p k (by omega) hp hkP hpk hk1.2
        refine ⟨z, hz, fun r => Iff.trans ?_ (hsm r)⟩
        exact col_line ha hk1.2 hk0 r
theorem fp_any {P : List Nat} {pt : Nat → Pt} (hs : P.Pairwise (· < ·)) {p q : Nat} (hp : p ∈ P) (hq : q ∈ P) (ha : apt (pt p) (pt q) = true) : ∃ z ∈ LPR P pt, sameL pt (p, q) z := by
  rcases Nat.lt_trichotomy p q with h | h | h
  · exact fp_ex hs (p + q + 1) p q (by omega) hp hq h ha
  · subst h
    have := apt_iff.mp ha
    omega
  · obtain ⟨z, hz, hsm⟩ := fp_ex hs (p + q + 1) q p (by omega) hq hp h (by rw [apt_symm]; exact ha)
    refine ⟨z, hz, fun r => Iff.trans ?_ (hsm r)⟩
    show crs (pt p) (pt q) r = 0 ↔ crs (pt q) (pt p) r = 0
    rw [crs_swap (pt p) (pt q) r]
    omega
theorem cON_same {P : List Nat} {pt : Nat → Pt} {z y : Nat × Nat} (h : sameL pt z y) : cON P pt z = cON P pt y := by
  unfold cON
  congr 1
  apply List.filter_congr
  intro k _
  exact decide_eq_decide.mpr (h (pt k))
theorem LPR_mem {P : List Nat} {pt : Nat → Pt} {z : Nat × Nat} (h : z ∈ LPR P pt) : z.1 ∈ P ∧ z.2 ∈ P ∧ apt (pt z.1) (pt z.2) = true := by
  obtain ⟨h1, h2⟩ := List.mem_filter.mp h
  have := prl_mem h1
  unfold okp at h2
  rw [Bool.and_eq_true] at h2
  exact ⟨this.1, this.2, h2.1⟩
def MaxL (P : List Nat) (pt : Nat → Pt) (L : List (Nat × Nat)) (r : Int) : Prop := (L = [] ∧ r = 0) ∨ ((∃ z ∈ L, r = (cON P pt z : Int)) ∧ ∀ z ∈ L, (cON P pt z : Int) ≤ r)
def MinL (P : List Nat) (pt : Nat → Pt) (L : List (Nat × Nat)) (r : Int) : Prop := (L = [] ∧ r = 0) ∨ ((∃ z ∈ L, r = (cON P pt z : Int)) ∧ ∀ z ∈ L, r ≤ (cON P pt z : Int))
theorem MaxL_on {P : List Nat} {pt : Nat → Pt} {r : Int} (hs : P.Pairwise (· < ·)) (h : MaxL P pt (LPR P pt) r) : MaxOn P pt r := by
  rcases h with ⟨h1, h2⟩ | ⟨⟨z, hz, h1⟩, h2⟩
  · refine Or.inl ⟨fun p hp q hq => ?_, h2⟩
    cases ha : apt (pt p) (pt q) with
    | false => rfl
    | true =>
      obtain ⟨z, hz, -⟩ := fp_any hs hp hq ha
      rw [h1] at hz
      cases hz
  · obtain ⟨m1, m2, m3⟩ := LPR_mem hz
    refine Or.inr ⟨⟨z.1, m1, z.2, m2, m3, h1⟩, fun p hp q hq ha => ?_⟩
    obtain ⟨y, hy, hsm⟩ := fp_any hs hp hq ha
    rw [cON_same hsm]
    exact h2 y hy
theorem MinL_on {P : List Nat} {pt : Nat → Pt} {r : Int} (hs : P.Pairwise (· < ·)) (h : MinL P pt (LPR P pt) r) : MinOn P pt r := by
  rcases h with ⟨h1, h2⟩ | ⟨⟨z, hz, h1⟩, h2⟩
  · refine Or.inl ⟨fun p hp q hq => ?_, h2⟩
    cases ha : apt (pt p) (pt q) with
    | false => rfl
    | true =>
      obtain ⟨z, hz, -⟩ := fp_any hs hp hq ha
      rw [h1] at hz
      cases hz
  · obtain ⟨m1, m2, m3⟩ := LPR_mem hz
    refine Or.inr ⟨⟨z.1, m1, z.2, m2, m3, h1⟩, fun p hp q hq ha => ?_⟩
    obtain ⟨y, hy, hsm⟩ := fp_any hs hp hq ha
    rw [cON_same hsm]
    exact h2 y hy
theorem MaxL_add {P : List Nat} {pt : Nat → Pt} {L : List (Nat × Nat)} {r r' : Int} {z : Nat × Nat} (h : MaxL P pt L r) (hr : r' = if r < (cON P pt z : Int) then (cON P pt z : Int) else r) : MaxL P pt (L ++ [z]) r' := by
  refine Or.inr ?_
  rcases h with ⟨rfl, rfl⟩ | ⟨⟨y, hy, h1⟩, h2⟩
  · refine ⟨⟨z, by simp, ?_⟩, fun y hy => ?_⟩
    · rw [hr]; split <;> omega
    · simp at hy; subst hy; rw [hr]; split <;> omega
  · refine ⟨?_, fun x hx => ?_⟩
    · by_cases hc : r < (cON P pt z : Int)
      · exact ⟨z, by simp, by rw [hr, if_pos hc]⟩
      · exact ⟨y, List.mem_append_left _ hy, by rw [hr, if_neg hc]; exact h1⟩
    · rcases List.mem_append.mp hx with hx | hx
      · have := h2 x hx
        rw [hr]; split <;> omega
      · simp at hx; subst hx
        rw [hr]; split <;> omega
theorem MinL_add {P : List Nat} {pt : Nat → Pt} {L : List (Nat × Nat)} {r r' : Int} {z : Nat × Nat} (h : MinL P pt L r) (hr : r' = if L = [] then (cON P pt z : Int) else if (cON P pt z : Int) < r then (cON P pt z : Int) else r) : MinL P pt (L ++ [z]) r' := by
  refine Or.inr ?_
  rcases h with ⟨rfl, rfl⟩ | ⟨⟨y, hy, h1⟩, h2⟩
  · rw [if_pos rfl] at hr
    exact ⟨⟨z, by simp, hr⟩, fun y hy => by simp at hy; subst hy; omega⟩
  · have hne : L ≠ [] := fun e => by rw [e] at hy; cases hy
    rw [if_neg hne] at hr
    refine ⟨?_, fun x hx => ?_⟩
    · by_cases hc : (cON P pt z : Int) < r
      · exact ⟨z, by simp, by rw [hr, if_pos hc]⟩
      · exact ⟨y, List.mem_append_left _ hy, by rw [hr, if_neg hc]; exact h1⟩
    · rcases List.mem_append.mp hx with hx | hx
      · have := h2 x hx
        rw [hr]; split <;> omega
      · simp at hx; subst hx
        rw [hr]; split <;> omega
/-- the first pair, by places in the list -/
theorem fst_idx {P : List Nat} {pt : Nat → Pt} (hs : P.Pairwise (· < ·)) {i j p q : Nat} (hi : P[i]? = some p) (hj : P[j]? = some q) (hij : i < j) : fstP P pt p q = true ↔ ∀ k r, k < j → P[k]? = some r → (k < i ∨ (i < k ∧ apt (pt p) (pt r) = true)) → crs (pt p) (pt q) (pt r) ≠ 0 := by
  have hpq := ((sorted_idx hs hi hj).1).mp hij
  constructor
  · intro h k r hk hr hc h0
    have := List.all_eq_true.mp h r (List.mem_of_getElem? hr)
    simp only [Bool.not_eq_true', Bool.and_eq_false_imp, Bool.or_eq_true, Bool.and_eq_true, decide_eq_false_iff_not] at this
    refine this ?_ h0
    rcases hc with hc | ⟨hc, ha⟩
    · exact Or.inl (Nat.ble_eq_true_of_le (((sorted_idx hs hr hi).1).mp hc))
    · exact Or.inr ⟨⟨Nat.ble_eq_true_of_le (((sorted_idx hs hi hr).1).mp hc), Nat.ble_eq_true_of_le (((sorted_idx hs hr hj).1).mp hk)⟩, ha⟩
  · intro h
    apply List.all_eq_true.mpr
    intro r hr
    obtain ⟨k, hk⟩ := List.getElem?_of_mem hr
    simp only [Bool.not_eq_true', Bool.and_eq_false_imp, Bool.or_eq_true, Bool.and_eq_true, decide_eq_false_iff_not]
    intro hc
    rcases hc with hc | ⟨⟨hc1, hc2⟩, ha⟩
    · have h1 : r < p := Nat.le_of_ble_eq_true hc
      exact h k r (((sorted_idx hs hk hj).1).mpr (by omega)) hk (Or.inl (((sorted_idx hs hk hi).1).mpr h1))
    · have h1 : p < r := Nat.le_of_ble_eq_true hc1
      have h2 : r < q := Nat.le_of_ble_eq_true hc2
      exact h k r (((sorted_idx hs hk hj).1).mpr h2) hk (Or.inr ⟨((sorted_idx hs hi hk).1).mpr h1, ha⟩)
