/-! the class behind a change of a plant -/
def kp (σ : Sg) (i : Nat) (x : Int32) : Sg := bec (uI (uI (uI σ 4 1 1) 4 2 x) 4 3 (σ.1 0 11)) 5 (65 + i)
theorem kp_row {σ : Sg} {i : Nat} {x : Int32} {o : Nat} (h4 : o ≠ 4) (h5 : o ≠ 5) : (kp σ i x).1 o = σ.1 o := by
  unfold kp
  rw [bec_row h5, uI_row h4, uI_row h4, uI_row h4]
theorem kp_4 {σ : Sg} {i : Nat} {x : Int32} : (kp σ i x).1 4 1 = 1 ∧ (kp σ i x).1 4 2 = x ∧ (kp σ i x).1 4 3 = σ.1 0 11 := by
  unfold kp
  rw [bec_row (by omega)]
  simp (disch := omega) only [uI_nk, uI_eq, and_self]
theorem kp_5 {σ : Sg} {i k : Nat} {x : Int32} (h : k < 8) : (kp σ i x).1 5 k = σ.1 (65 + i) k := by
  unfold kp
  rw [bec_at h]
  simp (disch := omega) only [uI_no]
theorem kp_pl {σ : Sg} {i : Nat} {x : Int32} {q : Pt} (h : plC σ (65 + i) q) : plC (kp σ i x) 5 q := by
  unfold kp
  refine plC_bec (plC_cong ?_ h)
  simp (disch := omega) only [uI_row]
theorem kp_2 {σ : Sg} {i : Nat} {x : Int32} : (kp σ i x).2 = σ.2 := rfl
theorem plC_b {σ : Sg} {o : Nat} {p : Pt} (h : plC σ o p) : σ.1 o 7 = 0 ∨ σ.1 o 7 = 1 := by
  rw [h.2.2.2.2.2.2.2]
  split
  · exact Or.inl rfl
  · exact Or.inr rfl
theorem rC_pl {σ τ : Sg} {a : Ab} {n : Nat} {pt : Nat → Pt} {u : Option (Nat × Bool × Pt)} {f : Int32} (h : rC σ a) (hP : rcP τ n pt) (hU : rcU τ n u) (hC : CA τ n pt) (hZ : rcZ τ) (hE : ∀ o, (o = 10 ∨ (6 ≤ o ∧ o ≤ 8) ∨ (49 ≤ o ∧ o < 65)) → τ.1 o = σ.1 o) (h2 : τ.2 = σ.2) (hf : τ.1 0 12 = f) : rC τ (plTo a n pt f u) := by
  obtain ⟨r1, r2, r3, r4, r5, r6, r7, r8⟩ := h
  exact ⟨hP, rcB_cong (fun o h1 h3 => ⟨hE o (by omega), by rw [h2]⟩) r2, hf, rcT_cong (fun o h1 h3 => hE o (by omega)) r4, rcL_cong (hE 10 (by omega)) r5, hU, hC, hZ⟩
theorem rC_chg {σ ρ : Sg} {a : Ab} {i : Nat} {x : Int32} {p : Pt} (hr : rC σ a) (hn : a.1.1 ≤ 40) (hi : i < a.1.1) (hx : x.toInt = (i : Int)) (hρ : plC ρ (65 + i) p) (hrow : ∀ o, o ≠ 65 + i → ρ.1 o = (kp σ i x).1 o) (h2 : ρ.2 = σ.2) : rC (uI (fgt ρ) 0 12 0) (plTo a a.1.1 (va_up a.1.2 i p) 0 (some (i, false, a.1.2 i))) := by
  have row : ∀ o, (o < 11 ∨ 30 < o) → o ≠ 0 → (uI (fgt ρ) 0 12 0).1 o = ρ.1 o := fun o ho h0 => by rw [uI_row h0, fgt_row ho]
  refine rC_pl hr ⟨?_, fun j hj => ?_⟩ ⟨?_, ?_, ?_, fun _ => ?_⟩ (CA_cong (fun o h1 h3 => ⟨uI_row (by omega), rfl⟩) (fgt_CA (σ := ρ))) (fun o ho hlt => ?_) (fun o ho => ?_) (by rw [uI_2, fgt_2]; exact h2) (uI_eq _ _ _ _)
  · rw [uI_nk (by omega), fgt_row (by omega), hrow 0 (by omega), kp_row (by omega) (by omega)]
    exact hr.1.1
  · by_cases e : j = i
    · subst e
      simp only [va_up, if_true]
      exact plC_cong (row _ (by omega) (by omega)) hρ
    · simp only [va_up, if_neg e]
      exact plC_cong (by rw [row _ (by omega) (by omega), hrow _ (by omega), kp_row (by omega) (by omega)]) (hr.1.2 j hj)
  · rw [row 4 (by omega) (by omega), hrow 4 (by omega)]; exact kp_4.1
  · rw [row 4 (by omega) (by omega), hrow 4 (by omega), kp_4.2.1]; exact hx
  · rw [row 4 (by omega) (by omega), hrow 4 (by omega), kp_4.2.2]; exact hr.1.1
  · exact plC_cong (by rw [row 5 (by omega) (by omega), hrow 5 (by omega)]) (kp_pl (hr.1.2 i hi))
  · rw [row o (by omega) (by omega)]
    by_cases e : o = 65 + i
    · subst e; exact plC_b hρ
    · rw [hrow o e]
      rcases ho with rfl | ho
      · rw [kp_5 (by omega)]; exact plC_b (hr.1.2 i hi)
      · rw [kp_row (by omega) (by omega)]; exact hr.2.2.2.2.2.2.2 o (Or.inr ho) hlt
  · rw [row o (by omega) (by omega), hrow o (by omega), kp_row (by omega) (by omega)]
theorem rC_new {σ ρ : Sg} {a : Ab} {x w : Int32} {p : Pt} (hr : rC σ a) (hn : a.1.1 < 40) (hx : x.toInt = (a.1.1 : Int)) (hw : w.toInt = (a.1.1 : Int) + 1) (hρ : plC ρ (65 + a.1.1) p) (hrow : ∀ o, o ≠ 65 + a.1.1 → ρ.1 o = (kp σ a.1.1 x).1 o) (h2 : ρ.2 = σ.2) : rC (uI (fgt (uI ρ 0 11 w)) 0 12 0) (plTo a (a.1.1 + 1) (va_up a.1.2 a.1.1 p) 0 (some (a.1.1, true, (0, 0, 0, 0, false)))) := by
  have row : ∀ o, (o < 11 ∨ 30 < o) → o ≠ 0 → (uI (fgt (uI ρ 0 11 w)) 0 12 0).1 o = ρ.1 o := fun o ho h0 => by rw [uI_row h0, fgt_row ho, uI_row h0]
  refine rC_pl hr ⟨?_, fun j hj => ?_⟩ ⟨?_, ?_, ?_, fun z => absurd z (by decide)⟩ (CA_cong (fun o h1 h3 => ⟨uI_row (by omega), rfl⟩) (fgt_CA (σ := uI ρ 0 11 w))) (fun o ho hlt => ?_) (fun o ho => ?_) (by rw [uI_2, fgt_2, uI_2]; exact h2) (uI_eq _ _ _ _)
  · rw [uI_nk (by omega), fgt_row (by omega), uI_eq]
    omega
  · by_cases e : j = a.1.1
    · subst e
      simp only [va_up, if_true]
      exact plC_cong (row _ (by omega) (by omega)) hρ
    · simp only [va_up, if_neg e]
      exact plC_cong (by rw [row _ (by omega) (by omega), hrow _ (by omega), kp_row (by omega) (by omega)]) (hr.1.2 j (by omega))
  · rw [row 4 (by omega) (by omega), hrow 4 (by omega)]; exact kp_4.1
  · rw [row 4 (by omega) (by omega), hrow 4 (by omega), kp_4.2.1]; exact hx
  · rw [row 4 (by omega) (by omega), hrow 4 (by omega), kp_4.2.2, hr.1.1]
    simp
  · rw [row o (by omega) (by omega)]
    by_cases e : o = 65 + a.1.1
    · subst e; exact plC_b hρ
    · rw [hrow o e]
      rcases ho with rfl | ho
      · rw [kp_5 (by omega)]; exact hr.2.2.2.2.2.2.2 _ (Or.inr (by omega)) (by omega)
      · rw [kp_row (by omega) (by omega)]; exact hr.2.2.2.2.2.2.2 o (Or.inr ho) hlt
  · rw [row o (by omega) (by omega), hrow o (by omega), kp_row (by omega) (by omega)]
theorem eqM_kp {σ ρ : Sg} {i : Nat} {x : Int32} (hrow : ∀ o, o ≠ 65 + i → ρ.1 o = (kp σ i x).1 o) (h2 : ρ.2 = σ.2) : eqM σ ρ := fun o ho => by
  have h4 : o ≠ 4 := fun e => by rw [e] at ho; cases ho
  have h5 : o ≠ 5 := fun e => by rw [e] at ho; cases ho
  have h6 : o ≠ 65 + i := fun e => by rw [e, isM_big (by omega)] at ho; cases ho
  exact ⟨by rw [hrow o h6, kp_row h4 h5], by rw [h2]⟩
theorem undo_C {σ : Sg} {a : Ab} {u : Nat} {nw : Bool} {p : Pt} (hr : rC σ a) (hk : abOk a) (hu : a.2.2.2.2.2 = some (u, nw, p)) : rC (fgt (uI (bec (uI σ 4 1 0) (65 + u) 5) 0 11 (σ.1 4 3))) (plTo a (if nw then a.1.1 - 1 else a.1.1) (if nw then a.1.2 else va_up a.1.2 u p) a.2.2.1 none) := by
  have hru := hr.2.2.2.2.2.1
  have hku := hk.2.2.2.2.2.2.2
  rw [hu] at hru hku
  obtain ⟨u1, u2, u3, u4⟩ := hru
  obtain ⟨k1, k2, k3⟩ := hku
  have row : ∀ o, (o < 11 ∨ 30 < o) → o ≠ 0 → o ≠ 4 → o ≠ 65 + u → (fgt (uI (bec (uI σ 4 1 0) (65 + u) 5) 0 11 (σ.1 4 3))).1 o = σ.1 o := fun o ho h0 h4 h6 => by rw [fgt_row ho, uI_row h0, bec_row h6, uI_row h4]
  have rown : ∀ k, k < 8 → (fgt (uI (bec (uI σ 4 1 0) (65 + u) 5) 0 11 (σ.1 4 3))).1 (65 + u) k = σ.1 5 k := fun k hk => by rw [fgt_row (by omega), uI_row (by omega), bec_at hk, uI_row (by omega)]
  refine rC_pl hr ⟨?_, fun j hj => ?_⟩ ?_ fgt_CA (fun o ho hlt => ?_) (fun o ho => row o (by omega) (by omega) (by omega) (by omega)) rfl ?_
  · rw [fgt_row (by omega), uI_eq, u3]
    cases nw with
    | true => have := k2 rfl; simp; omega
    | false => simp
  · cases nw with
    | true =>
      simp only [if_true] at hj ⊢
      have := k2 rfl
      exact plC_cong (row _ (by omega) (by omega) (by omega) (by omega)) (hr.1.2 j (by omega))
    | false =>
      simp only [Bool.false_eq_true, if_false] at hj ⊢
      by_cases e : j = u
      · subst e
        simp only [va_up, if_true]
        have h5 := u4 rfl
        unfold plC at h5 ⊢
        rw [rown _ (by omega), rown _ (by omega), rown _ (by omega), rown _ (by omega), rown _ (by omega), rown _ (by omega), rown _ (by omega), rown _ (by omega)]
        exact h5
      · simp only [va_up, if_neg e]
        exact plC_cong (row _ (by omega) (by omega) (by omega) (by omega)) (hr.1.2 j hj)
  · show _ = _
    rw [fgt_row (by omega), uI_row (by omega), bec_row (by omega), uI_eq]
  · by_cases e : o = 65 + u
    · subst e; rw [rown 7 (by omega)]; exact hr.2.2.2.2.2.2.2 5 (Or.inl rfl) (by decide)
    · rw [row o (by omega) (by omega) (by omega) e]; exact hr.2.2.2.2.2.2.2 o ho hlt
  · rw [fgt_row (by omega), uI_nk (by omega), bec_row (by omega), uI_row (by omega)]
    exact hr.2.2.1
