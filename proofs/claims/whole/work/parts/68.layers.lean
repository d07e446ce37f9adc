/-! layers: a figure has an edge; the rounds end -/
theorem onE_iff {F : List Nat} {pt : Nat → Pt} {p : Nat} : onE F pt p = true ↔ (∀ q ∈ F, apt (pt p) (pt q) = false) ∨ ∃ q ∈ F, apt (pt p) (pt q) = true ∧ ((∀ k ∈ F, crs (pt p) (pt q) (pt k) ≤ 0) ∨ ∀ k ∈ F, 0 ≤ crs (pt p) (pt q) (pt k)) := by
  unfold onE
  simp only [Bool.or_eq_true, List.all_eq_true, List.any_eq_true, Bool.and_eq_true, Bool.not_eq_true', decide_eq_true_eq]
/-- ahead in the order of x, then of y -/
def hfP (u v : Int) : Prop := 0 < u ∨ (u = 0 ∧ 0 ≤ v)
theorem hf_trans {ux uy vx vy wx wy : Int} (hu : hfP ux uy) (hv : 0 < vx ∨ (vx = 0 ∧ 0 < vy)) (hw : hfP wx wy) (h1 : 0 ≤ ux * vy - uy * vx) (h2 : 0 ≤ vx * wy - vy * wx) : 0 ≤ ux * wy - uy * wx := by
  have u0 : 0 ≤ ux := by unfold hfP at hu; omega
  have w0 : 0 ≤ wx := by unfold hfP at hw; omega
  rcases hv with hv | ⟨hv, hy⟩
  · have e : (ux * wy - uy * wx) * vx = (ux * vy - uy * vx) * wx + (vx * wy - vy * wx) * ux := by grind
    have h3 := Int.mul_nonneg h1 w0
    have h4 := Int.mul_nonneg h2 u0
    rcases Int.lt_or_le (ux * wy - uy * wx) 0 with h | h
    · have := Int.mul_neg_of_neg_of_pos h hv
      omega
    · exact h
  · subst hv
    have e : (0 : Int) * wy - vy * wx = -(vy * wx) := by omega
    rw [e] at h2
    have hwx : wx = 0 := by
      rcases Int.lt_or_le 0 wx with h | h
      · have := Int.mul_pos hy h
        omega
      · omega
    subst hwx
    have wy0 : 0 ≤ wy := by unfold hfP at hw; omega
    have := Int.mul_nonneg u0 wy0
    omega
/-- a plant that is first in that order -/
theorem first_ex {pt : Nat → Pt} : ∀ (F : List Nat), F ≠ [] → ∃ p ∈ F, ∀ k ∈ F, hfP ((pt k).1.toInt - (pt p).1.toInt) ((pt k).2.1.toInt - (pt p).2.1.toInt)
  | [], h => absurd rfl h
  | [x], _ => ⟨x, by simp, fun k hk => by simp at hk; subst hk; unfold hfP; omega⟩
  | x :: y :: F, _ => by
    obtain ⟨p, hp, h⟩ := first_ex (pt := pt) (y :: F) (by simp)
    by_cases hc : hfP ((pt x).1.toInt - (pt p).1.toInt) ((pt x).2.1.toInt - (pt p).2.1.toInt)
    · refine ⟨p, List.mem_cons_of_mem _ hp, fun k hk => ?_⟩
      rcases List.mem_cons.mp hk with rfl | hk
      · exact hc
      · exact h k hk
    · refine ⟨x, List.mem_cons_self, fun k hk => ?_⟩
      rcases List.mem_cons.mp hk with rfl | hk
      · unfold hfP; omega
      · have := h k hk
        unfold hfP at this hc ⊢
        omega
/-- the one turned least to the right, among those of a part -/
theorem least_ex {pt : Nat → Pt} {F : List Nat} {p q0 : Nat} (hF : ∀ k ∈ F, hfP ((pt k).1.toInt - (pt p).1.toInt) ((pt k).2.1.toInt - (pt p).2.1.toInt)) (h0 : q0 ∈ F) (ha : apt (pt p) (pt q0) = true) : ∀ (E : List Nat), (∀ k ∈ E, k ∈ F) → ∃ q ∈ F, apt (pt p) (pt q) = true ∧ ∀ k ∈ E, 0 ≤ crs (pt p) (pt q) (pt k)
  | [], _ => ⟨q0, h0, ha, fun k hk => by cases hk⟩
  | x :: E, hE => by
    obtain ⟨q, hq, hqa, h⟩ := least_ex hF h0 ha E (fun k hk => hE k (List.mem_cons_of_mem _ hk))
    have hx := hE x List.mem_cons_self
    rcases Int.lt_or_le (crs (pt p) (pt q) (pt x)) 0 with hc | hc
    · have hsw : crs (pt p) (pt x) (pt q) = -crs (pt p) (pt q) (pt x) := by unfold crs; grind
      refine ⟨x, hx, ?_, fun k hk => ?_⟩
      · cases hb : apt (pt p) (pt x) with
        | true => rfl
        | false =>
          have e := apt_no.mp hb
          have : crs (pt p) (pt q) (pt x) = 0 := by unfold crs; rw [e.1, e.2]; grind
          omega
      · rcases List.mem_cons.mp hk with rfl | hk
        · rw [(crs_self _ _).2]; omega
        · have h1 := h k hk
          have hqv := apt_iff.mp hqa
          have hqh := hF q hq
          unfold crs at h1 hsw hc ⊢
          refine hf_trans (hF x hx) ?_ (hF k (hE k (List.mem_cons_of_mem _ hk))) ?_ h1
          · unfold hfP at hqh; omega
          · omega
    · refine ⟨q, hq, hqa, fun k hk => ?_⟩
      rcases List.mem_cons.mp hk with rfl | hk
      · exact hc
      · exact h k hk
theorem edge_ex {F : List Nat} {pt : Nat → Pt} (h : F ≠ []) : ∃ p ∈ F, onE F pt p = true := by
  obtain ⟨p, hp, hf⟩ := first_ex (pt := pt) F h
  refine ⟨p, hp, onE_iff.mpr ?_⟩
  by_cases hc : ∀ q ∈ F, apt (pt p) (pt q) = false
  · exact Or.inl hc
  · refine Or.inr ?_
    obtain ⟨q0, hq⟩ := Classical.not_forall.mp hc
    obtain ⟨h0, ha⟩ := Classical.not_imp.mp hq
    obtain ⟨q, h1, h2, h3⟩ := least_ex hf h0 (by simpa using ha) F (fun _ hk => hk)
    exact ⟨q, h1, h2, Or.inr h3⟩
theorem LY_le (P : List Nat) (pt : Nat → Pt) : ∀ r p, LY P pt r p ≤ r
  | 0, _ => Nat.le_refl _
  | r + 1, p => by
    have := LY_le P pt r p
    unfold LY
    split <;> omega
theorem LY_keep {P : List Nat} {pt : Nat → Pt} {r p : Nat} (h : LY P pt r p ≠ 0) : LY P pt (r + 1) p = LY P pt r p := by
  show (if LY P pt r p = 0 ∧ _ then r + 1 else LY P pt r p) = _
  rw [if_neg (fun z => h z.1)]
/-- those not yet in a layer -/
def fgr (P : List Nat) (pt : Nat → Pt) (r : Nat) : List Nat := P.filter (fun q => LY P pt r q == 0)
theorem fgr_mem {P : List Nat} {pt : Nat → Pt} {r p : Nat} : p ∈ fgr P pt r ↔ p ∈ P ∧ LY P pt r p = 0 := by
  unfold fgr
  simp
theorem LY_new {P : List Nat} {pt : Nat → Pt} {r p : Nat} (h : LY P pt r p = 0) : LY P pt (r + 1) p = if onE (fgr P pt r) pt p = true then r + 1 else 0 := by
  show (if LY P pt r p = 0 ∧ onE (fgr P pt r) pt p = true then r + 1 else LY P pt r p) = _
  by_cases hc : onE (fgr P pt r) pt p = true
  · rw [if_pos ⟨h, hc⟩, if_pos hc]
  · rw [if_neg (fun z => hc z.2), if_neg hc, h]
theorem LY_in {P : List Nat} {pt : Nat → Pt} {r p : Nat} : (LY P pt (r + 1) p = 0 ∨ LY P pt (r + 1) p = r + 1) ↔ LY P pt r p = 0 := by
  have h1 := LY_le P pt r p
  by_cases h : LY P pt r p = 0
  · rw [LY_new h]
    split <;> simp [h]
  · rw [LY_keep h]; omega
theorem filt_lt {f g : Nat → Bool} : ∀ {P : List Nat}, (∀ p ∈ P, g p = true → f p = true) → (∃ p ∈ P, f p = true ∧ g p = false) → (P.filter g).length < (P.filter f).length
  | [], _, h => by obtain ⟨p, hp, -⟩ := h; cases hp
  | x :: P, hi, h => by
    have hi' : ∀ p ∈ P, g p = true → f p = true := fun p hp => hi p (List.mem_cons_of_mem _ hp)
    have hle : (P.filter g).length ≤ (P.filter f).length := by
      have : P.filter g = (P.filter f).filter g := by
        rw [List.filter_filter]
        apply List.filter_congr
        intro p hp
        cases hg : g p with
        | false => rfl
        | true => rw [hi' p hp hg]; rfl
      rw [this]
      exact List.length_filter_le _ _
    by_cases hx : f x = true ∧ g x = false
    · rw [List.filter_cons, List.filter_cons, if_pos hx.1, if_neg (by rw [hx.2]; decide), List.length_cons]
      omega
    · have hlt := filt_lt (P := P) hi' (by
        obtain ⟨p, hp, h1, h2⟩ := h
        rcases List.mem_cons.mp hp with rfl | hp
        · exact absurd ⟨h1, h2⟩ hx
        · exact ⟨p, hp, h1, h2⟩)
      have hgf := hi x List.mem_cons_self
      rw [List.filter_cons, List.filter_cons]
      cases hg : g x <;> cases hf : f x <;> simp_all <;> omega
theorem fgr_lt {P : List Nat} {pt : Nat → Pt} {r : Nat} (h : fgr P pt r ≠ []) : (fgr P pt (r + 1)).length < (fgr P pt r).length := by
  obtain ⟨p, hp, he⟩ := edge_ex (pt := pt) h
  obtain ⟨hpP, hp0⟩ := fgr_mem.mp hp
  refine filt_lt (fun q hq hg => ?_) ⟨p, hpP, by simp [hp0], by rw [LY_new hp0, if_pos he]; simp⟩
  have hg' : LY P pt (r + 1) q = 0 := by simpa using hg
  simp [LY_in.mp (Or.inl hg')]
theorem fgr_bound {P : List Nat} {pt : Nat → Pt} : ∀ r, (∀ s, s < r → fgr P pt s ≠ []) → (fgr P pt r).length + r ≤ P.length
  | 0, _ => by have := List.length_filter_le (fun q => LY P pt 0 q == 0) P; unfold fgr; omega
  | r + 1, h => by
    have h1 := fgr_bound r (fun s hs => h s (by omega))
    have h2 := fgr_lt (h r (by omega))
    omega
theorem isNL_of {P : List Nat} {pt : Nat → Pt} {r : Nat} (h : ∀ s, s < r → fgr P pt s ≠ []) (h0 : fgr P pt r = []) : isNL P pt r := by
  refine ⟨fun p hp h1 => ?_, fun s hs => ?_⟩
  · have := fgr_mem.mpr ⟨hp, h1⟩
    rw [h0] at this
    cases this
  · obtain ⟨p, hp⟩ := List.exists_mem_of_ne_nil _ (h s hs)
    exact ⟨p, (fgr_mem.mp hp).1, (fgr_mem.mp hp).2⟩
theorem isNL_uniq {P : List Nat} {pt : Nat → Pt} {r s : Nat} (h : isNL P pt r) (g : isNL P pt s) : r = s := by
  rcases Nat.lt_trichotomy r s with hlt | he | hlt
  · obtain ⟨p, hp, h0⟩ := g.2 r hlt
    exact absurd h0 (h.1 p hp)
  · exact he
  · obtain ⟨p, hp, h0⟩ := h.2 s hlt
    exact absurd h0 (g.1 p hp)
/-- how many are in a layer -/
def inLy (P : List Nat) (pt : Nat → Pt) (r : Nat) (w : Int) : Nat := (P.filter (fun p => decide ((LY P pt r p : Int) = w))).length
theorem one_side {F : List Nat} {pt : Nat → Pt} {p q : Nat} : ((∀ k ∈ F, crs (pt p) (pt q) (pt k) ≤ 0) ∨ ∀ k ∈ F, 0 ≤ crs (pt p) (pt q) (pt k)) ↔ ¬ ((∃ k ∈ F, 0 < crs (pt p) (pt q) (pt k)) ∧ ∃ k ∈ F, crs (pt p) (pt q) (pt k) < 0) := by
  constructor
  · rintro (h | h) ⟨⟨k, hk, h1⟩, ⟨m, hm, h2⟩⟩
    · have := h k hk; omega
    · have := h m hm; omega
  · intro h
    by_cases h1 : ∃ k ∈ F, 0 < crs (pt p) (pt q) (pt k)
    · right
      intro k hk
      rcases Int.lt_or_le (crs (pt p) (pt q) (pt k)) 0 with h2 | h2
      · exact absurd ⟨h1, ⟨k, hk, h2⟩⟩ h
      · exact h2
    · left
      intro k hk
      rcases Int.lt_or_le 0 (crs (pt p) (pt q) (pt k)) with h2 | h2
      · exact absurd ⟨k, hk, h2⟩ h1
      · exact h2
