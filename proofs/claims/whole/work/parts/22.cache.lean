/-! what the class keeps worked out -/
/-- the stand holds the plants that are there -/
def okStand (σ : Sg) (n : Nat) (pt : Nat → Pt) : Prop := (σ.1 11 7).toInt = ((prs n pt).length : Int) ∧ ∀ (j i : Nat), (prs n pt)[j]? = some i → (σ.1 12 j).toInt = (i : Int) ∧ σ.1 13 j = (pt i).1 ∧ σ.1 14 j = (pt i).2.1 ∧ (σ.1 15 j).toInt = redOf (pt i).2.2.1.toInt (pt i).2.2.2.1.toInt ∧ (σ.1 16 j).toInt = blueOf (pt i).2.2.1.toInt (pt i).2.2.2.1.toInt ∧ (σ.1 17 j).toInt = allOf (pt i).2.2.1.toInt (pt i).2.2.2.1.toInt
/-- the furrows among the lines, where they are worked out -/
def okFur (σ : Sg) (n : Nat) (pt : Nat → Pt) : Prop := (σ.1 18 6).toInt = ((FUR n pt).length : Int) ∧ ∀ (t : Nat) (z : Nat × Nat), (FUR n pt)[t]? = some z → ∃ k : Nat, (σ.1 22 t).toInt = (k : Int) ∧ (LPR (prs n pt) pt)[k]? = some z
def okLns (σ : Sg) (n : Nat) (pt : Nat → Pt) : Prop := (σ.1 18 8).toInt = ((LPR (prs n pt) pt).length : Int) ∧ (∀ (k : Nat) (z : Nat × Nat), (LPR (prs n pt) pt)[k]? = some z → (σ.1 19 k).toInt = (lnO pt z).1 ∧ (σ.1 20 k).toInt = (lnO pt z).2.1 ∧ (σ.1 21 k).toInt = (lnO pt z).2.2) ∧ MaxOn (prs n pt) pt (σ.1 18 9).toInt ∧ MinOn (prs n pt) pt (σ.1 18 10).toInt
def okLines (σ : Sg) (n : Nat) (pt : Nat → Pt) : Prop := okLns σ n pt ∧ (σ.1 18 5 ≠ 0 → okFur σ n pt)
def okLayers (σ : Sg) (n : Nat) (pt : Nat → Pt) : Prop := ∃ r : Nat, isNL (prs n pt) pt r ∧ (σ.1 24 2).toInt = (r : Int) ∧ (∀ (j i : Nat), (prs n pt)[j]? = some i → (σ.1 25 j).toInt = (LY (prs n pt) pt r i : Int)) ∧ ∀ j, (prs n pt).length ≤ j → j < 40 → σ.1 25 j = 0
def okDepths (σ : Sg) (n : Nat) (pt : Nat → Pt) : Prop := BestD (cand n pt) (depA n pt) (σ.1 26 3).toInt ((σ.2 26 4).toInt, (σ.2 26 5).toInt, (σ.2 26 6).toInt)
def okStrips (σ : Sg) (n : Nat) (pt : Nat → Pt) : Prop := WBest (dirs n pt) (prs n pt) pt (σ.2 29 2).toInt (σ.2 29 3).toInt ∧ gg (σ.2 29 2).toInt (σ.2 29 3).toInt = 1
def CA (σ : Sg) (n : Nat) (pt : Nat → Pt) : Prop := (σ.1 11 6 ≠ 0 → okStand σ n pt) ∧ (σ.1 18 7 ≠ 0 → okLines σ n pt) ∧ (σ.1 24 1 ≠ 0 → okLayers σ n pt) ∧ (σ.1 26 2 ≠ 0 → okDepths σ n pt) ∧ (σ.1 29 1 ≠ 0 → okStrips σ n pt)
theorem okLines_cong {σ τ : Sg} {n : Nat} {pt : Nat → Pt} {c : Prop} (_h : ∀ o, 18 ≤ o → o ≤ 23 → τ.1 o = σ.1 o ∧ τ.2 o = σ.2 o) (hc : c → okLines σ n pt) : c → okLines τ n pt := fun hh => by
  have := hc hh
  unfold okLines okLns okFur at this ⊢
  rw [(_h 18 (by omega) (by omega)).1, (_h 19 (by omega) (by omega)).1, (_h 20 (by omega) (by omega)).1, (_h 21 (by omega) (by omega)).1, (_h 22 (by omega) (by omega)).1]
  exact this
theorem okLayers_cong {σ τ : Sg} {n : Nat} {pt : Nat → Pt} {c : Prop} (_h : ∀ o, 24 ≤ o → o ≤ 25 → τ.1 o = σ.1 o ∧ τ.2 o = σ.2 o) (hc : c → okLayers σ n pt) : c → okLayers τ n pt := fun hh => by
  have := hc hh
  unfold okLayers at this ⊢
  rw [(_h 24 (by omega) (by omega)).1, (_h 25 (by omega) (by omega)).1]
  exact this
theorem okDepths_cong {σ τ : Sg} {n : Nat} {pt : Nat → Pt} {c : Prop} (_h : ∀ o, 26 ≤ o → o ≤ 28 → τ.1 o = σ.1 o ∧ τ.2 o = σ.2 o) (hc : c → okDepths σ n pt) : c → okDepths τ n pt := fun hh => by
  have := hc hh
  unfold okDepths at this ⊢
  rw [(_h 26 (by omega) (by omega)).1, (_h 26 (by omega) (by omega)).2]
  exact this
theorem okStrips_cong {σ τ : Sg} {n : Nat} {pt : Nat → Pt} {c : Prop} (_h : ∀ o, 29 ≤ o → o ≤ 30 → τ.1 o = σ.1 o ∧ τ.2 o = σ.2 o) (hc : c → okStrips σ n pt) : c → okStrips τ n pt := fun hh => by
  have := hc hh
  unfold okStrips at this ⊢
  rw [(_h 29 (by omega) (by omega)).2]
  exact this
theorem okStand_cong {σ τ : Sg} {n : Nat} {pt : Nat → Pt} {c : Prop} (_h : ∀ o, 11 ≤ o → o ≤ 17 → τ.1 o = σ.1 o ∧ τ.2 o = σ.2 o) (hc : c → okStand σ n pt) : c → okStand τ n pt := fun hh => by
  have := hc hh
  unfold okStand at this ⊢
  rw [(_h 11 (by omega) (by omega)).1, (_h 12 (by omega) (by omega)).1, (_h 13 (by omega) (by omega)).1, (_h 14 (by omega) (by omega)).1, (_h 15 (by omega) (by omega)).1, (_h 16 (by omega) (by omega)).1, (_h 17 (by omega) (by omega)).1]
  exact this
theorem CA_cong {σ τ : Sg} {n : Nat} {pt : Nat → Pt} (h : ∀ o, 11 ≤ o → o ≤ 30 → τ.1 o = σ.1 o ∧ τ.2 o = σ.2 o) (hc : CA σ n pt) : CA τ n pt := by
  obtain ⟨c1, c2, c3, c4, c5⟩ := hc
  refine ⟨?_, ?_, ?_, ?_, ?_⟩
  · rw [(h 11 (by omega) (by omega)).1]; exact okStand_cong (fun o h1 h2 => h o (by omega) (by omega)) c1
  · rw [(h 18 (by omega) (by omega)).1]; exact okLines_cong (fun o h1 h2 => h o (by omega) (by omega)) c2
  · rw [(h 24 (by omega) (by omega)).1]; exact okLayers_cong (fun o h1 h2 => h o (by omega) (by omega)) c3
  · rw [(h 26 (by omega) (by omega)).1]; exact okDepths_cong (fun o h1 h2 => h o (by omega) (by omega)) c4
  · rw [(h 29 (by omega) (by omega)).1]; exact okStrips_cong (fun o h1 h2 => h o (by omega) (by omega)) c5
theorem CA_none {σ : Sg} {n : Nat} {pt : Nat → Pt} (h1 : σ.1 11 6 = 0) (h2 : σ.1 18 7 = 0) (h3 : σ.1 24 1 = 0) (h4 : σ.1 26 2 = 0) (h5 : σ.1 29 1 = 0) : CA σ n pt := ⟨fun h => absurd h1 h, fun h => absurd h2 h, fun h => absurd h3 h, fun h => absurd h4 h, fun h => absurd h5 h⟩
/-- each plant's object is there or not -/
def rcZ (σ : Sg) : Prop := ∀ o, (o = 5 ∨ 65 ≤ o) → o < 105 → σ.1 o 7 = 0 ∨ σ.1 o 7 = 1
/-- the class's side -/
def rC (σ : Sg) (a : Ab) : Prop := rcP σ a.1.1 a.1.2 ∧ rcB σ a.2.1 ∧ σ.1 0 12 = a.2.2.1 ∧ rcT σ a.2.2.2.1 ∧ rcL σ a.2.2.2.2.1 ∧ rcU σ a.1.1 a.2.2.2.2.2 ∧ CA σ a.1.1 a.1.2 ∧ rcZ σ
theorem plC_cong {σ τ : Sg} {o : Nat} {p : Pt} (h : τ.1 o = σ.1 o) (hp : plC σ o p) : plC τ o p := by
  unfold plC
  rw [h]
  exact hp
theorem rcP_cong {σ τ : Sg} {n : Nat} {pt : Nat → Pt} (h0 : τ.1 0 11 = σ.1 0 11) (h : ∀ i, i < n → τ.1 (65 + i) = σ.1 (65 + i)) (hr : rcP σ n pt) : rcP τ n pt := ⟨by rw [h0]; exact hr.1, fun i hi => plC_cong (h i hi) (hr.2 i hi)⟩
theorem rcB_cong {σ τ : Sg} {bd : Nat → Bd} (h : ∀ o, 49 ≤ o → o < 65 → τ.1 o = σ.1 o ∧ τ.2 o = σ.2 o) (hr : rcB σ bd) : rcB τ bd := fun b hb => by
  unfold bdC
  rw [(h (49 + b) (by omega) (by omega)).1, (h (57 + b) (by omega) (by omega)).2]
  exact hr b hb
theorem rcT_cong {σ τ : Sg} {t : Nat × (Nat → Int32)} (h : ∀ o, 6 ≤ o → o ≤ 8 → τ.1 o = σ.1 o) (hr : rcT σ t) : rcT τ t := by
  unfold rcT
  rw [h 6 (by omega) (by omega), h 7 (by omega) (by omega), h 8 (by omega) (by omega)]
  exact hr
theorem rcL_cong {σ τ : Sg} {t : Int32 × Int32 × Int32} (h : τ.1 10 = σ.1 10) (hr : rcL σ t) : rcL τ t := by
  unfold rcL
  rw [h]
  exact hr
theorem rcU_cong {σ τ : Sg} {n : Nat} {u : Option (Nat × Bool × Pt)} (h4 : τ.1 4 = σ.1 4) (h5 : τ.1 5 = σ.1 5) (hr : rcU σ n u) : rcU τ n u := by
  cases u with
  | none => show τ.1 4 1 = 0; rw [h4]; exact hr
  | some q =>
    obtain ⟨u, nw, p⟩ := q
    show τ.1 4 1 = 1 ∧ (τ.1 4 2).toInt = _ ∧ (τ.1 4 3).toInt = _ ∧ (_ → plC τ 5 p)
    rw [h4]
    exact ⟨hr.1, hr.2.1, hr.2.2.1, fun h => plC_cong h5 (hr.2.2.2 h)⟩
/-- only the status and some beds change -/
theorem rC_of {σ τ : Sg} {a : Ab} {bd : Nat → Bd} {f : Int32} (hr : rC σ a) (h0 : τ.1 0 11 = σ.1 0 11) (h : ∀ o, o ≠ 0 → (o < 49 ∨ 65 ≤ o) → isM o = false → τ.1 o = σ.1 o ∧ τ.2 o = σ.2 o) (hb : rcB τ bd) (hf : τ.1 0 12 = f) : rC τ (a.1, bd, f, a.2.2.2) := by
  obtain ⟨r1, r2, r3, r4, r5, r6, r7, r8⟩ := hr
  refine ⟨rcP_cong h0 (fun i _ => (h _ (by omega) (by omega) (isM_big (by omega))).1) r1, hb, hf, rcT_cong (fun o h1 h2 => (h o (by omega) (by omega) ?_).1) r4, rcL_cong (h 10 (by omega) (by omega) rfl).1 r5, rcU_cong (h 4 (by omega) (by omega) rfl).1 (h 5 (by omega) (by omega) rfl).1 r6, CA_cong (fun o h1 h2 => h o (by omega) (by omega) ?_) r7, fun o h1 h2 => by rw [(h o (by omega) (by omega) (by rcases h1 with rfl | h1 <;> first | rfl | exact isM_big (by omega))).1]; exact r8 o h1 h2⟩
  · rcases (show o = 6 ∨ o = 7 ∨ o = 8 by omega) with rfl | rfl | rfl <;> rfl
  · rcases (show o = 11 ∨ o = 12 ∨ o = 13 ∨ o = 14 ∨ o = 15 ∨ o = 16 ∨ o = 17 ∨ o = 18 ∨ o = 19 ∨ o = 20 ∨ o = 21 ∨ o = 22 ∨ o = 23 ∨ o = 24 ∨ o = 25 ∨ o = 26 ∨ o = 27 ∨ o = 28 ∨ o = 29 ∨ o = 30 by omega) with rfl | rfl | rfl | rfl | rfl | rfl | rfl | rfl | rfl | rfl | rfl | rfl | rfl | rfl | rfl | rfl | rfl | rfl | rfl | rfl <;> rfl
