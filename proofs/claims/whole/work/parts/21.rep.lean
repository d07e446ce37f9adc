/-! the abstract state, and how each side holds it -/
/-- a plant: x, y, kind, colour, away -/
abbrev Pt : Type := Int32 × Int32 × Int32 × Int32 × Bool
/-- a bed: 0 missing or its lane and 1 more; how many items; the items -/
abbrev Bd : Type := Int32 × Int32 × (Nat → Int64)
/-- numbers given, plants; beds; status; the trace; the line; the latest change (its plant, whether it is new, what it was) -/
abbrev Ab : Type := (Nat × (Nat → Pt)) × (Nat → Bd) × Int32 × (Nat × (Nat → Int32)) × (Int32 × Int32 × Int32) × Option (Nat × Bool × Pt)
def redOf (k c : Int) : Int := if k = 1 then 1 else if k = 3 then 2 else if k = 4 ∧ c = 1 then 1 else 0
def blueOf (k c : Int) : Int := if k = 2 then 1 else if k = 4 ∧ c = 2 then 1 else 0
def lentOf (k c : Int) : Int := if redOf k c + blueOf k c = 0 then 1 else redOf k c + blueOf k c
def allOf (k c : Int) : Int := if k = 3 then 1 + lentOf k c else lentOf k c
def ptOk (p : Pt) : Prop := -300 ≤ p.1.toInt ∧ p.1.toInt ≤ 300 ∧ -300 ≤ p.2.1.toInt ∧ p.2.1.toInt ≤ 300 ∧ 0 ≤ p.2.2.1.toInt ∧ p.2.2.1.toInt < 5 ∧ 0 ≤ p.2.2.2.1.toInt ∧ p.2.2.2.1.toInt < 3
def bdOk (b : Bd) : Prop := 0 ≤ b.1.toInt ∧ b.1.toInt ≤ 3 ∧ (b.1 ≠ 0 → 0 ≤ b.2.1.toInt ∧ b.2.1.toInt ≤ 100)
def lnOk (a : Int32) : Prop := -1000000 ≤ a.toInt ∧ a.toInt ≤ 1000000
def unOk (n : Nat) (pt : Nat → Pt) : Option (Nat × Bool × Pt) → Prop
  | none => True
  | some (u, nw, p) => u < n ∧ (nw = true → u + 1 = n) ∧ (nw = false → ptOk p ∧ p.2.2.1 = (pt u).2.2.1)
def abOk (a : Ab) : Prop := a.1.1 ≤ 40 ∧ (∀ i, i < a.1.1 → ptOk (a.1.2 i)) ∧ (∀ b, b < 8 → bdOk (a.2.1 b)) ∧ a.2.2.2.1.1 ≤ 16 ∧ lnOk a.2.2.2.2.1.1 ∧ lnOk a.2.2.2.2.1.2.1 ∧ lnOk a.2.2.2.2.1.2.2 ∧ unOk a.1.1 a.1.2 a.2.2.2.2.2
/-- the class's object o holds a plant -/
def plC (σ : Sg) (o : Nat) (p : Pt) : Prop := σ.1 o 0 = p.1 ∧ σ.1 o 1 = p.2.1 ∧ σ.1 o 2 = p.2.2.1 ∧ σ.1 o 3 = p.2.2.2.1 ∧ (σ.1 o 4).toInt = redOf p.2.2.1.toInt p.2.2.2.1.toInt ∧ (σ.1 o 5).toInt = blueOf p.2.2.1.toInt p.2.2.2.1.toInt ∧ (σ.1 o 6).toInt = allOf p.2.2.1.toInt p.2.2.2.1.toInt ∧ σ.1 o 7 = (if p.2.2.2.2 then 0 else 1)
def rcP (σ : Sg) (n : Nat) (pt : Nat → Pt) : Prop := (σ.1 0 11).toInt = (n : Int) ∧ ∀ i, i < n → plC σ (65 + i) (pt i)
def bdC (σ : Sg) (b : Nat) (q : Bd) : Prop := σ.1 (49 + b) 1 = (if q.1 = 0 then 0 else 1) ∧ (q.1 ≠ 0 → (σ.1 (49 + b) 2).toInt = q.1.toInt - 1 ∧ σ.1 (49 + b) 3 = q.2.1 ∧ ∀ j : Nat, (j : Int) < q.2.1.toInt → σ.2 (57 + b) j = q.2.2 j)
def rcB (σ : Sg) (bd : Nat → Bd) : Prop := ∀ b, b < 8 → bdC σ b (bd b)
def rcT (σ : Sg) (t : Nat × (Nat → Int32)) : Prop := (σ.1 6 1).toInt = (t.1 : Int) ∧ (∀ j, j < t.1 → σ.1 7 j = t.2 j) ∧ σ.1 8 1 = 0
def rcL (σ : Sg) (t : Int32 × Int32 × Int32) : Prop := σ.1 10 0 = t.1 ∧ σ.1 10 1 = t.2.1 ∧ σ.1 10 2 = t.2.2
def rcU (σ : Sg) (n : Nat) : Option (Nat × Bool × Pt) → Prop
  | none => σ.1 4 1 = 0
  | some (u, nw, p) => σ.1 4 1 = 1 ∧ (σ.1 4 2).toInt = (u : Int) ∧ (σ.1 4 3).toInt = (if nw then (n : Int) - 1 else n) ∧ (nw = false → plC σ 5 p)
/-- the model's side -/
def rmP (σ : Sg) (n : Nat) (pt : Nat → Pt) : Prop := (σ.1 1 0).toInt = (n : Int) ∧ ∀ i, i < n → σ.1 31 i = (pt i).1 ∧ σ.1 32 i = (pt i).2.1 ∧ σ.1 33 i = (pt i).2.2.1 ∧ σ.1 34 i = (pt i).2.2.2.1 ∧ σ.1 35 i = (if (pt i).2.2.2.2 then 1 else 0)
def rmB (σ : Sg) (bd : Nat → Bd) : Prop := ∀ b, b < 8 → σ.1 36 b = (bd b).1 ∧ ((bd b).1 ≠ 0 → σ.1 37 b = (bd b).2.1 ∧ ∀ j : Nat, (j : Int) < (bd b).2.1.toInt → σ.2 38 (100 * b + j) = (bd b).2.2 j)
def rmT (σ : Sg) (t : Nat × (Nat → Int32)) : Prop := (σ.1 1 18).toInt = (t.1 : Int) ∧ (∀ j, j < t.1 → σ.1 40 j = t.2 j) ∧ σ.1 1 19 = 0
def rmL (σ : Sg) (t : Int32 × Int32 × Int32) : Prop := (σ.2 1 20).toInt = t.1.toInt ∧ (σ.2 1 21).toInt = t.2.1.toInt ∧ (σ.2 1 22).toInt = t.2.2.toInt
def rmU (σ : Sg) : Option (Nat × Bool × Pt) → Prop
  | none => (σ.1 1 6).toInt < 0
  | some (u, nw, p) => (σ.1 1 6).toInt = (u : Int) ∧ σ.1 1 7 = (if nw then 1 else 0) ∧ (nw = false → σ.1 1 8 = p.1 ∧ σ.1 1 9 = p.2.1 ∧ σ.1 1 10 = p.2.2.2.1 ∧ σ.1 1 11 = (if p.2.2.2.2 then 1 else 0))
def rmZ (σ : Sg) : Prop := ∀ i, i < 40 → σ.1 35 i = 0 ∨ σ.1 35 i = 1
def rM (σ : Sg) (a : Ab) : Prop := rmP σ a.1.1 a.1.2 ∧ rmB σ a.2.1 ∧ σ.1 1 16 = a.2.2.1 ∧ rmT σ a.2.2.2.1 ∧ rmL σ a.2.2.2.2.1 ∧ rmU σ a.2.2.2.2.2 ∧ rmZ σ
/-- the model's objects -/
def isM (o : Nat) : Bool := o == 1 || (Nat.ble 31 o && Nat.ble o 48)
/-- the two stores agree on the model's objects; on all others -/
def eqM (σ τ : Sg) : Prop := ∀ o, isM o = true → τ.1 o = σ.1 o ∧ τ.2 o = σ.2 o
def eqC (σ τ : Sg) : Prop := ∀ o, isM o = false → τ.1 o = σ.1 o ∧ τ.2 o = σ.2 o
theorem eqM_rf {σ : Sg} : eqM σ σ := fun _ _ => ⟨rfl, rfl⟩
theorem eqC_rf {σ : Sg} : eqC σ σ := fun _ _ => ⟨rfl, rfl⟩
theorem eqM_tr {σ τ υ : Sg} (h : eqM σ τ) (g : eqM τ υ) : eqM σ υ := fun o ho => ⟨(g o ho).1.trans (h o ho).1, (g o ho).2.trans (h o ho).2⟩
theorem eqC_tr {σ τ υ : Sg} (h : eqC σ τ) (g : eqC τ υ) : eqC σ υ := fun o ho => ⟨(g o ho).1.trans (h o ho).1, (g o ho).2.trans (h o ho).2⟩
theorem eqM_uI {σ τ : Sg} {o k : Nat} {v : Int32} (h : eqM σ τ) (ho : isM o = false) : eqM σ (uI τ o k v) := fun a ha => by
  have hne : a ≠ o := fun e => by rw [e, ho] at ha; cases ha
  exact ⟨(by funext b; exact uI_no hne : (uI τ o k v).1 a = τ.1 a).trans (h a ha).1, (h a ha).2⟩
theorem eqM_uJ {σ τ : Sg} {o k : Nat} {v : Int64} (h : eqM σ τ) (ho : isM o = false) : eqM σ (uJ τ o k v) := fun a ha => by
  have hne : a ≠ o := fun e => by rw [e, ho] at ha; cases ha
  exact ⟨(h a ha).1, (by funext b; exact uJ_no hne : (uJ τ o k v).2 a = τ.2 a).trans (h a ha).2⟩
theorem eqC_uI {σ τ : Sg} {o k : Nat} {v : Int32} (h : eqC σ τ) (ho : isM o = true) : eqC σ (uI τ o k v) := fun a ha => by
  have hne : a ≠ o := fun e => by rw [e, ho] at ha; cases ha
  exact ⟨(by funext b; exact uI_no hne : (uI τ o k v).1 a = τ.1 a).trans (h a ha).1, (h a ha).2⟩
theorem eqC_uJ {σ τ : Sg} {o k : Nat} {v : Int64} (h : eqC σ τ) (ho : isM o = true) : eqC σ (uJ τ o k v) := fun a ha => by
  have hne : a ≠ o := fun e => by rw [e, ho] at ha; cases ha
  exact ⟨(h a ha).1, (by funext b; exact uJ_no hne : (uJ τ o k v).2 a = τ.2 a).trans (h a ha).2⟩
theorem isM_bed {b : Nat} (h : b < 8) : isM (49 + b) = false := by
  rcases (show b = 0 ∨ b = 1 ∨ b = 2 ∨ b = 3 ∨ b = 4 ∨ b = 5 ∨ b = 6 ∨ b = 7 by omega) with rfl | rfl | rfl | rfl | rfl | rfl | rfl | rfl <;> rfl
theorem isM_big {o : Nat} (h : 49 ≤ o) : isM o = false := by
  unfold isM
  have h1 : (o == 1) = false := by simp; omega
  have h2 : Nat.ble o 48 = false := by
    cases hb : Nat.ble o 48 with
    | false => rfl
    | true => have := Nat.le_of_ble_eq_true hb; omega
  simp [h1, h2]
theorem eqM_zJ {σ τ : Sg} {o n : Nat} (h : eqM σ τ) (ho : isM o = false) : eqM σ (zJ τ o n) := fun a ha => by
  have hne : a ≠ o := fun e => by rw [e, ho] at ha; cases ha
  exact ⟨(h a ha).1, (by funext b; simp [zJ, hne] : (zJ τ o n).2 a = τ.2 a).trans (h a ha).2⟩
/-- the model holds the same if its objects are the same -/
theorem rM_cong {σ τ : Sg} {a : Ab} (h : eqM σ τ) (hr : rM σ a) : rM τ a := by
  have h1 := h 1 rfl
  have e := fun o ho => (h o ho)
  obtain ⟨r1, r2, r3, r4, r5, r6, r7⟩ := hr
  refine ⟨⟨by rw [h1.1]; exact r1.1, fun i hi => ?_⟩, fun b hb => ?_, by rw [h1.1]; exact r3, ⟨by rw [h1.1]; exact r4.1, fun j hj => by rw [(h 40 rfl).1]; exact r4.2.1 j hj, by rw [h1.1]; exact r4.2.2⟩, ⟨by rw [h1.2]; exact r5.1, by rw [h1.2]; exact r5.2.1, by rw [h1.2]; exact r5.2.2⟩, ?_, fun i hi => by rw [(h 35 rfl).1]; exact r7 i hi⟩
  · rw [(h 31 rfl).1, (h 32 rfl).1, (h 33 rfl).1, (h 34 rfl).1, (h 35 rfl).1]; exact r1.2 i hi
  · rw [(h 36 rfl).1, (h 37 rfl).1, (h 38 rfl).2]; exact r2 b hb
  · cases hu : a.2.2.2.2.2 with
    | none => rw [hu] at r6; show (τ.1 1 6).toInt < 0; rw [h1.1]; exact r6
    | some q =>
      rw [hu] at r6
      obtain ⟨u, nw, p⟩ := q
      show (τ.1 1 6).toInt = _ ∧ τ.1 1 7 = _ ∧ (_ → τ.1 1 8 = _ ∧ τ.1 1 9 = _ ∧ τ.1 1 10 = _ ∧ τ.1 1 11 = _)
      rw [h1.1]; exact r6
