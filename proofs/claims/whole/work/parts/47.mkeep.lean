/-! the model behind a change of a plant -/
def km (σ : Sg) (i : Nat) (x w : Int32) : Sg := uI (uI (uI (uI (uI (uI σ 1 6 x) 1 7 w) 1 8 (σ.1 31 i)) 1 9 (σ.1 32 i)) 1 10 (σ.1 34 i)) 1 11 (σ.1 35 i)
theorem km_row {σ : Sg} {i : Nat} {x w : Int32} {o : Nat} (h : o ≠ 1) : (km σ i x w).1 o = σ.1 o := by
  unfold km
  simp (disch := omega) only [uI_row]
theorem km_1 {σ : Sg} {i : Nat} {x w : Int32} {k : Nat} (h : k < 6 ∨ 11 < k) : (km σ i x w).1 1 k = σ.1 1 k := by
  unfold km
  simp (disch := omega) only [uI_nk]
theorem km_u {σ : Sg} {i : Nat} {x w : Int32} : (km σ i x w).1 1 6 = x ∧ (km σ i x w).1 1 7 = w ∧ (km σ i x w).1 1 8 = σ.1 31 i ∧ (km σ i x w).1 1 9 = σ.1 32 i ∧ (km σ i x w).1 1 10 = σ.1 34 i ∧ (km σ i x w).1 1 11 = σ.1 35 i := by
  unfold km
  simp (disch := omega) only [uI_nk, uI_eq, and_self]
theorem km_2 {σ : Sg} {i : Nat} {x w : Int32} : (km σ i x w).2 = σ.2 := rfl
theorem rM_pl {σ τ : Sg} {a : Ab} {n : Nat} {pt : Nat → Pt} {u : Option (Nat × Bool × Pt)} {f : Int32} (h : rM σ a) (hP : rmP τ n pt) (hU : rmU τ u) (hZ : rmZ τ) (hE : ∀ o, (o = 36 ∨ o = 37 ∨ o = 40) → τ.1 o = σ.1 o) (h18 : τ.1 1 18 = σ.1 1 18) (h19 : τ.1 1 19 = σ.1 1 19) (h2 : τ.2 = σ.2) (hf : τ.1 1 16 = f) : rM τ (plTo a n pt f u) := by
  obtain ⟨r1, r2, r3, r4, r5, r6, r7⟩ := h
  refine ⟨hP, rmB_cong (hE 36 (by omega)) (hE 37 (by omega)) (by rw [h2]) r2, hf, ⟨by rw [h18]; exact r4.1, fun j hj => by rw [hE 40 (by omega)]; exact r4.2.1 j hj, by rw [h19]; exact r4.2.2⟩, ⟨?_, ?_, ?_⟩, hU, hZ⟩
  · rw [h2]; exact r5.1
  · rw [h2]; exact r5.2.1
  · rw [h2]; exact r5.2.2
/-- what the model holds of plant i -/
def plM (σ : Sg) (i : Nat) (p : Pt) : Prop := σ.1 31 i = p.1 ∧ σ.1 32 i = p.2.1 ∧ σ.1 33 i = p.2.2.1 ∧ σ.1 34 i = p.2.2.2.1 ∧ σ.1 35 i = (if p.2.2.2.2 then 1 else 0)
theorem plM_b {σ : Sg} {i : Nat} {p : Pt} (h : plM σ i p) : σ.1 35 i = 0 ∨ σ.1 35 i = 1 := by
  rw [h.2.2.2.2]
  split
  · exact Or.inr rfl
  · exact Or.inl rfl
theorem rM_chg {σ ρ : Sg} {a : Ab} {i : Nat} {x : Int32} {p : Pt} (hr : rM σ a) (hn : a.1.1 ≤ 40) (hi : i < a.1.1) (hx : x.toInt = (i : Int)) (h1 : ρ.1 1 = (km σ i x 0).1 1) (hp : plM ρ i p) (hpo : ∀ o j, 31 ≤ o → o ≤ 35 → j ≠ i → ρ.1 o j = σ.1 o j) (h3 : ∀ o, 36 ≤ o → o ≤ 40 → ρ.1 o = σ.1 o) (h2 : ρ.2 = σ.2) : rM (uI ρ 1 16 0) (plTo a a.1.1 (va_up a.1.2 i p) 0 (some (i, false, a.1.2 i))) := by
  have hq := hr.1.2 i hi
  have u := km_u (σ := σ) (i := i) (x := x) (w := 0)
  refine rM_pl hr ⟨?_, fun j hj => ?_⟩ ⟨?_, ?_, fun _ => ?_⟩ (fun j hj => ?_) (fun o ho => by rw [uI_row (by omega)]; exact h3 o (by omega) (by omega)) ?_ ?_ (by rw [uI_2]; exact h2) (uI_eq _ _ _ _)
  · rw [uI_nk (by omega), h1, km_1 (by omega)]; exact hr.1.1
  · simp (disch := omega) only [uI_row]
    by_cases e : j = i
    · subst e
      simp only [va_up, if_true]
      exact hp
    · simp only [va_up, if_neg e]
      rw [hpo 31 j (by omega) (by omega) e, hpo 32 j (by omega) (by omega) e, hpo 33 j (by omega) (by omega) e, hpo 34 j (by omega) (by omega) e, hpo 35 j (by omega) (by omega) e]
      exact hr.1.2 j hj
  · rw [uI_nk (by omega), h1, u.1]; exact hx
  · rw [uI_nk (by omega), h1, u.2.1]; rfl
  · simp (disch := omega) only [uI_nk]
    rw [h1, u.2.2.1, u.2.2.2.1, u.2.2.2.2.1, u.2.2.2.2.2]
    exact ⟨hq.1, hq.2.1, hq.2.2.2.1, hq.2.2.2.2⟩
  · rw [uI_row (by omega)]
    by_cases e : j = i
    · subst e; exact plM_b hp
    · rw [hpo 35 j (by omega) (by omega) e]; exact hr.2.2.2.2.2.2 j hj
  · rw [uI_nk (by omega), h1, km_1 (by omega)]
  · rw [uI_nk (by omega), h1, km_1 (by omega)]
theorem rM_new {σ ρ : Sg} {a : Ab} {x w : Int32} {p : Pt} (hr : rM σ a) (hn : a.1.1 < 40) (hx : x.toInt = (a.1.1 : Int)) (hw : w.toInt = (a.1.1 : Int) + 1) (h1 : ∀ k, k ≠ 0 → ρ.1 1 k = (km σ a.1.1 x 1).1 1 k) (h0 : ρ.1 1 0 = w) (hp : plM ρ a.1.1 p) (hpo : ∀ o j, 31 ≤ o → o ≤ 35 → j ≠ a.1.1 → ρ.1 o j = σ.1 o j) (h3 : ∀ o, 36 ≤ o → o ≤ 40 → ρ.1 o = σ.1 o) (h2 : ρ.2 = σ.2) : rM (uI ρ 1 16 0) (plTo a (a.1.1 + 1) (va_up a.1.2 a.1.1 p) 0 (some (a.1.1, true, (0, 0, 0, 0, false)))) := by
  have u := km_u (σ := σ) (i := a.1.1) (x := x) (w := 1)
  refine rM_pl hr ⟨?_, fun j hj => ?_⟩ ⟨?_, ?_, fun z => absurd z (by decide)⟩ (fun j hj => ?_) (fun o ho => by rw [uI_row (by omega)]; exact h3 o (by omega) (by omega)) ?_ ?_ (by rw [uI_2]; exact h2) (uI_eq _ _ _ _)
  · rw [uI_nk (by omega), h0, hw]; omega
  · simp (disch := omega) only [uI_row]
    by_cases e : j = a.1.1
    · subst e
      simp only [va_up, if_true]
      exact hp
    · simp only [va_up, if_neg e]
      rw [hpo 31 j (by omega) (by omega) e, hpo 32 j (by omega) (by omega) e, hpo 33 j (by omega) (by omega) e, hpo 34 j (by omega) (by omega) e, hpo 35 j (by omega) (by omega) e]
      exact hr.1.2 j (by omega)
  · rw [uI_nk (by omega), h1 6 (by omega), u.1]; exact hx
  · rw [uI_nk (by omega), h1 7 (by omega), u.2.1]; rfl
  · rw [uI_row (by omega)]
    by_cases e : j = a.1.1
    · subst e; exact plM_b hp
    · rw [hpo 35 j (by omega) (by omega) e]; exact hr.2.2.2.2.2.2 j hj
  · rw [uI_nk (by omega), h1 18 (by omega), km_1 (by omega)]
  · rw [uI_nk (by omega), h1 19 (by omega), km_1 (by omega)]
theorem eqC_km {σ τ : Sg} {i : Nat} {x w : Int32} (h : eqC σ τ) : eqC σ (km τ i x w) := by
  unfold km
  exact eqC_uI (eqC_uI (eqC_uI (eqC_uI (eqC_uI (eqC_uI h rfl) rfl) rfl) rfl) rfl) rfl
theorem maway_of {b : Bool} {v : Int32} (h : v = if b then 1 else 0) (h0 : v.toInt ≠ 0) : b = true := by
  cases b with
  | true => rfl
  | false => rw [h] at h0; exact absurd rfl h0
theorem mthere_of {b : Bool} {v : Int32} (h : v = if b then 1 else 0) (h0 : v.toInt = 0) : b = false := by
  cases b with
  | false => rfl
  | true => rw [h] at h0; exact absurd h0 (by decide)
