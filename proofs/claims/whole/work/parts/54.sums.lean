/-! sums over the plants that are there -/
theorem lsum_nil (g : Nat → Int) : lsum [] g = 0 := rfl
theorem lsum_app (l m : List Nat) (g : Nat → Int) : lsum (l ++ m) g = lsum l g + lsum m g := by
  unfold lsum
  rw [List.map_append, List.sum_append]
theorem lsum_one (i : Nat) (g : Nat → Int) : lsum [i] g = g i := by simp [lsum]
theorem take_step {l : List Nat} {j i : Nat} (h : l[j]? = some i) : l.take (j + 1) = l.take j ++ [i] := by
  rw [List.take_succ, h]
  rfl
theorem lsum_take {l : List Nat} {j i : Nat} {g : Nat → Int} (h : l[j]? = some i) : lsum (l.take (j + 1)) g = lsum (l.take j) g + g i := by
  rw [take_step h, lsum_app, lsum_one]
theorem lsum_rng {l : List Nat} {g : Nat → Int} {c : Int} (h : ∀ i ∈ l, 0 ≤ g i ∧ g i ≤ c) : 0 ≤ lsum l g ∧ lsum l g ≤ c * l.length := by
  induction l with
  | nil => simp [lsum]
  | cons x l ih =>
    have h1 := h x List.mem_cons_self
    have h2 := ih (fun i hi => h i (List.mem_cons_of_mem _ hi))
    have e : lsum (x :: l) g = g x + lsum l g := by simp [lsum]
    rw [e, List.length_cons]
    have : c * ((l.length + 1 : Nat) : Int) = c * (l.length : Int) + c := by rw [Int.natCast_succ, Int.mul_add, Int.mul_one]
    omega
/-- sums over numbers 0 .. n of plants that are there -/
def smN (pt : Nat → Pt) (g : Nat → Int) : Nat → Int
  | 0 => 0
  | n + 1 => smN pt g n + (if (pt n).2.2.2.2 then 0 else g n)
theorem smN_eq (pt : Nat → Pt) (g : Nat → Int) : ∀ n, smN pt g n = lsum (prs n pt) g
  | 0 => rfl
  | n + 1 => by
    rw [prs_succ, lsum_app, ← smN_eq pt g n]
    show smN pt g n + _ = _
    cases (pt n).2.2.2.2 with
    | true => simp [lsum]
    | false => simp [lsum]
theorem smN_rng {pt : Nat → Pt} {g : Nat → Int} {c : Int} (hc : 0 ≤ c) (h : ∀ i, 0 ≤ g i ∧ g i ≤ c) : ∀ n, 0 ≤ smN pt g n ∧ smN pt g n ≤ c * n
  | 0 => by simp [smN]
  | n + 1 => by
    have h1 := smN_rng (pt := pt) hc h n
    have h2 := h n
    have : c * ((n + 1 : Nat) : Int) = c * (n : Int) + c := by rw [Int.natCast_succ, Int.mul_add, Int.mul_one]
    show 0 ≤ smN pt g n + _ ∧ smN pt g n + _ ≤ _
    split <;> omega
theorem cnt_rng (w : Nat) (p : Pt) : 0 ≤ cnt w p ∧ cnt w p ≤ 4 := by
  have := red_rng p.2.2.1.toInt p.2.2.2.1.toInt
  have := blu_rng p.2.2.1.toInt p.2.2.2.1.toInt
  have := all_rng p.2.2.1.toInt p.2.2.2.1.toInt
  unfold cnt
  repeat' split
  all_goals omega
theorem cntS_rng (w : Nat) (t : Int × Int × Int) (s : Int32) (p : Pt) : 0 ≤ cntS w t s p ∧ cntS w t s p ≤ 4 := by
  have := cnt_rng w p
  unfold cntS
  split <;> omega
theorem sd_cases (v : Int) : sd v = 0 ∨ sd v = 1 ∨ sd v = 2 := by
  unfold sd
  repeat' split
  · exact Or.inr (Or.inl rfl)
  · exact Or.inl rfl
  · exact Or.inr (Or.inr rfl)
theorem cntS_all (w : Nat) (t : Int × Int × Int) (p : Pt) : cntS w t 0 p + cntS w t 2 p + cntS w t 1 p = cnt w p := by
  unfold cntS
  rcases sd_cases (lv t p) with h | h | h <;> rw [h]
  · rw [if_pos rfl, if_neg (by decide), if_neg (by decide)]; omega
  · rw [if_neg (by decide), if_neg (by decide), if_pos rfl]; omega
  · rw [if_neg (by decide), if_pos rfl, if_neg (by decide)]; omega
theorem lsum_add3 {l : List Nat} {f g h k : Nat → Int} (e : ∀ i, f i + g i + h i = k i) : lsum l f + lsum l g + lsum l h = lsum l k := by
  induction l with
  | nil => simp [lsum]
  | cons x l ih =>
    have e1 : ∀ q : Nat → Int, lsum (x :: l) q = q x + lsum l q := fun q => by simp [lsum]
    rw [e1, e1, e1, e1, ← ih, ← e x]
    omega
theorem sumS_all (n : Nat) (pt : Nat → Pt) (w : Nat) (t : Int × Int × Int) : sumS n pt w t 0 + sumS n pt w t 2 + sumS n pt w t 1 = sumW n pt w := lsum_add3 (fun i => cntS_all w t (pt i))
theorem kd_row {w : Nat} (h : w < 3) : kd (15 + w) = 12 := by
  rcases (show w = 0 ∨ w = 1 ∨ w = 2 by omega) with rfl | rfl | rfl <;> rfl
theorem ln_row {w : Nat} (h : w < 3) : ln (15 + w) = 40 := by
  rcases (show w = 0 ∨ w = 1 ∨ w = 2 by omega) with rfl | rfl | rfl <;> rfl
theorem st_row {σ : Sg} {n w j i : Nat} {pt : Nat → Pt} (h : okStand σ n pt) (hw : w < 3) (hj : (prs n pt)[j]? = some i) : (σ.1 (15 + w) j).toInt = cnt w (pt i) := by
  have := h.2 j i hj
  rcases (show w = 0 ∨ w = 1 ∨ w = 2 by omega) with rfl | rfl | rfl
  · exact this.2.2.2.1
  · exact this.2.2.2.2.1
  · exact this.2.2.2.2.2
theorem prs_get {n j : Nat} {pt : Nat → Pt} (h : j < (prs n pt).length) : ∃ i, (prs n pt)[j]? = some i := ⟨_, List.getElem?_eq_getElem h⟩
theorem take_all {l : List Nat} {j : Nat} (h : l.length ≤ j) : l.take j = l := List.take_of_length_le h
