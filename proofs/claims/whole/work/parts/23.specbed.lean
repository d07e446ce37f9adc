/-! what the calls on beds answer and do -/
theorem uI_row {σ : Sg} {o k : Nat} {v : Int32} {a : Nat} (h : a ≠ o) : (uI σ o k v).1 a = σ.1 a := by funext b; exact uI_no h
theorem uJ_row {σ : Sg} {o k : Nat} {v : Int64} {a : Nat} (h : a ≠ o) : (uJ σ o k v).2 a = σ.2 a := by funext b; exact uJ_no h
theorem zJ_1 {σ : Sg} {o n : Nat} : (zJ σ o n).1 = σ.1 := rfl
theorem zJ_row {σ : Sg} {o n a : Nat} (h : a ≠ o) : (zJ σ o n).2 a = σ.2 a := by funext b; simp [zJ, h]
theorem zJ_in {σ : Sg} {o n j : Nat} (h : j < n) : (zJ σ o n).2 o j = 0 := by simp [zJ, h]
theorem cpJ_1 {σ : Sg} {a sp b dp n : Nat} : (cpJ σ a sp b dp n).1 = σ.1 := rfl
theorem cpJ_row {σ : Sg} {a sp b dp n o : Nat} (h : o ≠ b) : (cpJ σ a sp b dp n).2 o = σ.2 o := by simp [cpJ, h]
theorem cpJ_at {σ : Sg} {a sp b dp n : Nat} : (cpJ σ a sp b dp n).2 b = va_cpy (σ.2 a) (σ.2 b) sp dp n := by simp [cpJ]
theorem eqM_cpJ {σ τ : Sg} {a sp b dp n : Nat} (h : eqM σ τ) (ho : isM b = false) : eqM σ (cpJ τ a sp b dp n) := fun x hx => by
  have hne : x ≠ b := fun e => by rw [e, ho] at hx; cases hx
  exact ⟨(h x hx).1, (cpJ_row hne).trans (h x hx).2⟩
def stat (a : Ab) (f : Int32) : Ab := (a.1, a.2.1, f, a.2.2.2)
def bedTo (a : Ab) (b : Nat) (q : Bd) : Ab := (a.1, va_up a.2.1 b q, 0, a.2.2.2)
/-- only the status changes -/
theorem rC_stat {σ : Sg} {a : Ab} {f : Int32} (h : rC σ a) : rC (uI σ 0 12 f) (stat a f) := by
  refine rC_of h (uI_nk (by omega)) (fun o h0 _ _ => ⟨uI_row h0, rfl⟩) (rcB_cong (fun o h1 h2 => ⟨uI_row (by omega), rfl⟩) h.2.1) (uI_eq _ _ _ _)
theorem rC_bed {σ τ : Sg} {a : Ab} {b : Nat} {q : Bd} (h : rC σ a) (hb : b < 8) (h1 : τ.1 0 11 = σ.1 0 11) (h2 : ∀ o, o ≠ 0 → o ≠ 49 + b → o ≠ 57 + b → τ.1 o = σ.1 o ∧ τ.2 o = σ.2 o) (h3 : bdC τ b q) (h4 : τ.1 0 12 = 0) : rC τ (bedTo a b q) := by
  refine rC_of h h1 (fun o h0 hr _ => h2 o h0 (by omega) (by omega)) (fun b' hb' => ?_) h4
  by_cases e : b' = b
  · subst e; simp only [va_up, if_true]; exact h3
  · simp only [va_up, if_neg e]
    unfold bdC
    rw [(h2 (49 + b') (by omega) (by omega) (by omega)).1, (h2 (57 + b') (by omega) (by omega) (by omega)).2]
    exact h.2.1 b' hb'
def sBed (a : Ab) (b l n : Int32) : Int × Ab :=
  if ¬ (0 ≤ b.toInt ∧ b.toInt < 8 ∧ 0 ≤ l.toInt ∧ l.toInt < 3 ∧ n.toInt ≤ 100) then (-1000001, a)
  else if n.toInt < 0 then (-1000014, stat a 4)
  else (n.toInt, bedTo a b.toInt.toNat (l + 1, n, fun _ => 0))
theorem sBed_1 {a : Ab} {b l n : Int32} (h : ¬ (0 ≤ b.toInt ∧ b.toInt < 8 ∧ 0 ≤ l.toInt ∧ l.toInt < 3 ∧ n.toInt ≤ 100)) : sBed a b l n = (-1000001, a) := if_pos h
theorem sBed_2 {a : Ab} {b l n : Int32} (h : 0 ≤ b.toInt ∧ b.toInt < 8 ∧ 0 ≤ l.toInt ∧ l.toInt < 3) (h2 : n.toInt < 0) : sBed a b l n = (-1000014, stat a 4) := (if_neg (by omega)).trans (if_pos h2)
theorem sBed_3 {a : Ab} {b l n : Int32} {i : Nat} (h : 0 ≤ l.toInt ∧ l.toInt < 3) (h2 : 0 ≤ n.toInt ∧ n.toInt ≤ 100) (hi : i < 8) (hb : b.toInt = (i : Int)) : sBed a b l n = (n.toInt, bedTo a i (l + 1, n, fun _ => 0)) := by
  unfold sBed
  rw [if_neg (by omega), if_neg (by omega)]
  congr 2
  omega
def sSet (a : Ab) (b i : Int32) (v : Int64) : Int × Ab :=
  if ¬ (0 ≤ b.toInt ∧ b.toInt < 8) then (-1000001, a)
  else if (a.2.1 b.toInt.toNat).1 = 0 then (-1000011, stat a 1)
  else if ¬ (0 ≤ i.toInt ∧ i.toInt < (a.2.1 b.toInt.toNat).2.1.toInt) then (-1000012, stat a 2)
  else ((nrw ((a.2.1 b.toInt.toNat).1.toInt - 1) v).toInt, bedTo a b.toInt.toNat ((a.2.1 b.toInt.toNat).1, (a.2.1 b.toInt.toNat).2.1, vp_updL (a.2.1 b.toInt.toNat).2.2 i.toInt.toNat (nrw ((a.2.1 b.toInt.toNat).1.toInt - 1) v)))
theorem sSet_1 {a : Ab} {b i : Int32} {v : Int64} (h : ¬ (0 ≤ b.toInt ∧ b.toInt < 8)) : sSet a b i v = (-1000001, a) := if_pos h
theorem sSet_2 {a : Ab} {b i : Int32} {v : Int64} {k : Nat} (hk : k < 8) (hb : b.toInt = (k : Int)) (h : (a.2.1 k).1 = 0) : sSet a b i v = (-1000011, stat a 1) := by
  have e : b.toInt.toNat = k := by omega
  unfold sSet
  rw [e, if_neg (by omega), if_pos h]
theorem sSet_3 {a : Ab} {b i : Int32} {v : Int64} {k : Nat} (hk : k < 8) (hb : b.toInt = (k : Int)) (h : (a.2.1 k).1 ≠ 0) (h2 : ¬ (0 ≤ i.toInt ∧ i.toInt < (a.2.1 k).2.1.toInt)) : sSet a b i v = (-1000012, stat a 2) := by
  have e : b.toInt.toNat = k := by omega
  unfold sSet
  rw [e, if_neg (by omega), if_neg h, if_pos h2]
theorem sSet_4 {a : Ab} {b i : Int32} {v : Int64} {k j : Nat} (hk : k < 8) (hb : b.toInt = (k : Int)) (h : (a.2.1 k).1 ≠ 0) (hj : i.toInt = (j : Int)) (h2 : (j : Int) < (a.2.1 k).2.1.toInt) : sSet a b i v = ((nrw ((a.2.1 k).1.toInt - 1) v).toInt, bedTo a k ((a.2.1 k).1, (a.2.1 k).2.1, vp_updL (a.2.1 k).2.2 j (nrw ((a.2.1 k).1.toInt - 1) v))) := by
  have e : b.toInt.toNat = k := by omega
  have e2 : i.toInt.toNat = j := by omega
  unfold sSet
  rw [e, e2, if_neg (by omega), if_neg h, if_neg (by omega)]
def sDrop (a : Ab) (b : Int32) : Int × Ab :=
  if ¬ (0 ≤ b.toInt ∧ b.toInt < 8) then (-1000001, a)
  else if (a.2.1 b.toInt.toNat).1 = 0 then (-1000011, stat a 1)
  else ((a.2.1 b.toInt.toNat).2.1.toInt, bedTo a b.toInt.toNat (0, 0, fun _ => 0))
theorem sDrop_1 {a : Ab} {b : Int32} (h : ¬ (0 ≤ b.toInt ∧ b.toInt < 8)) : sDrop a b = (-1000001, a) := if_pos h
theorem sDrop_2 {a : Ab} {b : Int32} {k : Nat} (hk : k < 8) (hb : b.toInt = (k : Int)) (h : (a.2.1 k).1 = 0) : sDrop a b = (-1000011, stat a 1) := by
  have e : b.toInt.toNat = k := by omega
  unfold sDrop
  rw [e, if_neg (by omega), if_pos h]
theorem sDrop_3 {a : Ab} {b : Int32} {k : Nat} (hk : k < 8) (hb : b.toInt = (k : Int)) (h : (a.2.1 k).1 ≠ 0) : sDrop a b = ((a.2.1 k).2.1.toInt, bedTo a k (0, 0, fun _ => 0)) := by
  have e : b.toInt.toNat = k := by omega
  unfold sDrop
  rw [e, if_neg (by omega), if_neg h]
def sCopy (a : Ab) (p i q j n : Int32) : Int × Ab :=
  if ¬ (0 ≤ p.toInt ∧ p.toInt < 8 ∧ 0 ≤ q.toInt ∧ q.toInt < 8) then (-1000001, a)
  else if (a.2.1 p.toInt.toNat).1 = 0 ∨ (a.2.1 q.toInt.toNat).1 = 0 then (-1000011, stat a 1)
  else if (a.2.1 p.toInt.toNat).1 ≠ (a.2.1 q.toInt.toNat).1 then (-1000015, stat a 5)
  else if ¬ (0 ≤ i.toInt ∧ 0 ≤ j.toInt ∧ 0 ≤ n.toInt ∧ i.toInt + n.toInt ≤ (a.2.1 p.toInt.toNat).2.1.toInt ∧ j.toInt + n.toInt ≤ (a.2.1 q.toInt.toNat).2.1.toInt) then (-1000012, stat a 2)
  else (n.toInt, bedTo a q.toInt.toNat ((a.2.1 q.toInt.toNat).1, (a.2.1 q.toInt.toNat).2.1, va_cpy (a.2.1 p.toInt.toNat).2.2 (a.2.1 q.toInt.toNat).2.2 i.toInt.toNat j.toInt.toNat n.toInt.toNat))
theorem sCopy_1 {a : Ab} {p i q j n : Int32} (h : ¬ (0 ≤ p.toInt ∧ p.toInt < 8 ∧ 0 ≤ q.toInt ∧ q.toInt < 8)) : sCopy a p i q j n = (-1000001, a) := if_pos h
theorem sCopy_2 {a : Ab} {p i q j n : Int32} {k m : Nat} (hk : k < 8) (hm : m < 8) (hp : p.toInt = (k : Int)) (hq : q.toInt = (m : Int)) (h : (a.2.1 k).1 = 0 ∨ (a.2.1 m).1 = 0) : sCopy a p i q j n = (-1000011, stat a 1) := by
  have e1 : p.toInt.toNat = k := by omega
  have e2 : q.toInt.toNat = m := by omega
  unfold sCopy
  rw [e1, e2, if_neg (by omega), if_pos h]
theorem sCopy_3 {a : Ab} {p i q j n : Int32} {k m : Nat} (hk : k < 8) (hm : m < 8) (hp : p.toInt = (k : Int)) (hq : q.toInt = (m : Int)) (h : ¬ ((a.2.1 k).1 = 0 ∨ (a.2.1 m).1 = 0)) (h2 : (a.2.1 k).1 ≠ (a.2.1 m).1) : sCopy a p i q j n = (-1000015, stat a 5) := by
  have e1 : p.toInt.toNat = k := by omega
  have e2 : q.toInt.toNat = m := by omega
  unfold sCopy
  rw [e1, e2, if_neg (by omega), if_neg h, if_pos h2]
theorem sCopy_4 {a : Ab} {p i q j n : Int32} {k m : Nat} (hk : k < 8) (hm : m < 8) (hp : p.toInt = (k : Int)) (hq : q.toInt = (m : Int)) (h : ¬ ((a.2.1 k).1 = 0 ∨ (a.2.1 m).1 = 0)) (h2 : (a.2.1 k).1 = (a.2.1 m).1) (h3 : ¬ (0 ≤ i.toInt ∧ 0 ≤ j.toInt ∧ 0 ≤ n.toInt ∧ i.toInt + n.toInt ≤ (a.2.1 k).2.1.toInt ∧ j.toInt + n.toInt ≤ (a.2.1 m).2.1.toInt)) : sCopy a p i q j n = (-1000012, stat a 2) := by
  have e1 : p.toInt.toNat = k := by omega
  have e2 : q.toInt.toNat = m := by omega
  unfold sCopy
  rw [e1, e2, if_neg (by omega), if_neg h, if_neg (fun z => z h2), if_pos h3]
theorem sCopy_5 {a : Ab} {p i q j n : Int32} {k m i' j' n' : Nat} (hk : k < 8) (hm : m < 8) (hp : p.toInt = (k : Int)) (hq : q.toInt = (m : Int)) (h : ¬ ((a.2.1 k).1 = 0 ∨ (a.2.1 m).1 = 0)) (h2 : (a.2.1 k).1 = (a.2.1 m).1) (hi : i.toInt = (i' : Int)) (hj : j.toInt = (j' : Int)) (hn : n.toInt = (n' : Int)) (h3 : (i' : Int) + n' ≤ (a.2.1 k).2.1.toInt) (h4 : (j' : Int) + n' ≤ (a.2.1 m).2.1.toInt) : sCopy a p i q j n = (n.toInt, bedTo a m ((a.2.1 m).1, (a.2.1 m).2.1, va_cpy (a.2.1 k).2.2 (a.2.1 m).2.2 i' j' n')) := by
  have e1 : p.toInt.toNat = k := by omega
  have e2 : q.toInt.toNat = m := by omega
  have e3 : i.toInt.toNat = i' := by omega
  have e4 : j.toInt.toNat = j' := by omega
  have e5 : n.toInt.toNat = n' := by omega
  unfold sCopy
  rw [e1, e2, e3, e4, e5, if_neg (by omega), if_neg h, if_neg (fun z => z h2), if_neg (by omega)]
