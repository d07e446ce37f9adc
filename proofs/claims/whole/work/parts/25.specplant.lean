/-! what the calls on plants answer and do -/
def aN (a : Ab) : Nat := a.1.1
/-- plants, status and the latest change become others -/
def plTo (a : Ab) (n : Nat) (pt : Nat → Pt) (f : Int32) (u : Option (Nat × Bool × Pt)) : Ab := ((n, pt), a.2.1, f, a.2.2.2.1, a.2.2.2.2.1, u)
def inF (x : Int) : Prop := -300 ≤ x ∧ x ≤ 300
def sPlant (a : Ab) (b i k : Int32) : Int × Ab :=
  if ¬ (0 ≤ b.toInt ∧ b.toInt < 8 ∧ 0 ≤ k.toInt ∧ k.toInt < 5) then (-1000001, a)
  else if a.1.1 = 40 then (-1000003, a)
  else if (a.2.1 b.toInt.toNat).1 = 0 then (-1000011, stat a 1)
  else if ¬ (0 ≤ i.toInt ∧ i.toInt + 2 ≤ (a.2.1 b.toInt.toNat).2.1.toInt) then (-1000012, stat a 2)
  else if ¬ (-300 ≤ ((a.2.1 b.toInt.toNat).2.2 i.toInt.toNat).toInt ∧ ((a.2.1 b.toInt.toNat).2.2 i.toInt.toNat).toInt ≤ 300 ∧ -300 ≤ ((a.2.1 b.toInt.toNat).2.2 (i.toInt.toNat + 1)).toInt ∧ ((a.2.1 b.toInt.toNat).2.2 (i.toInt.toNat + 1)).toInt ≤ 300) then (-1000001, a)
  else (a.1.1, plTo a (a.1.1 + 1) (va_up a.1.2 a.1.1 (((a.2.1 b.toInt.toNat).2.2 i.toInt.toNat).toInt32, ((a.2.1 b.toInt.toNat).2.2 (i.toInt.toNat + 1)).toInt32, k, 0, false)) 0 (some (a.1.1, true, (0, 0, 0, 0, false))))
section SP
variable {a : Ab} {b i k : Int32} {q j : Nat}
theorem sPlant_1 (h : ¬ (0 ≤ b.toInt ∧ b.toInt < 8 ∧ 0 ≤ k.toInt ∧ k.toInt < 5)) : sPlant a b i k = (-1000001, a) := if_pos h
theorem sPlant_2 (h : 0 ≤ b.toInt ∧ b.toInt < 8 ∧ 0 ≤ k.toInt ∧ k.toInt < 5) (h2 : a.1.1 = 40) : sPlant a b i k = (-1000003, a) := (if_neg (fun z => z h)).trans (if_pos h2)
theorem sPlant_3 (hq : q < 8) (hb : b.toInt = (q : Int)) (h : 0 ≤ k.toInt ∧ k.toInt < 5) (h2 : a.1.1 ≠ 40) (h3 : (a.2.1 q).1 = 0) : sPlant a b i k = (-1000011, stat a 1) := by
  have e : b.toInt.toNat = q := by omega
  unfold sPlant
  rw [e, if_neg (by omega), if_neg h2, if_pos h3]
theorem sPlant_4 (hq : q < 8) (hb : b.toInt = (q : Int)) (h : 0 ≤ k.toInt ∧ k.toInt < 5) (h2 : a.1.1 ≠ 40) (h3 : (a.2.1 q).1 ≠ 0) (h4 : ¬ (0 ≤ i.toInt ∧ i.toInt + 2 ≤ (a.2.1 q).2.1.toInt)) : sPlant a b i k = (-1000012, stat a 2) := by
  have e : b.toInt.toNat = q := by omega
  unfold sPlant
  rw [e, if_neg (by omega), if_neg h2, if_neg h3, if_pos h4]
theorem sPlant_5 (hq : q < 8) (hb : b.toInt = (q : Int)) (h : 0 ≤ k.toInt ∧ k.toInt < 5) (h2 : a.1.1 ≠ 40) (h3 : (a.2.1 q).1 ≠ 0) (hj : i.toInt = (j : Int)) (h4 : (j : Int) + 2 ≤ (a.2.1 q).2.1.toInt) (h5 : ¬ (-300 ≤ ((a.2.1 q).2.2 j).toInt ∧ ((a.2.1 q).2.2 j).toInt ≤ 300 ∧ -300 ≤ ((a.2.1 q).2.2 (j + 1)).toInt ∧ ((a.2.1 q).2.2 (j + 1)).toInt ≤ 300)) : sPlant a b i k = (-1000001, a) := by
  have e : b.toInt.toNat = q := by omega
  have e2 : i.toInt.toNat = j := by omega
  unfold sPlant
  rw [e, e2, if_neg (by omega), if_neg h2, if_neg h3, if_neg (by omega), if_pos h5]
theorem sPlant_6 (hq : q < 8) (hb : b.toInt = (q : Int)) (h : 0 ≤ k.toInt ∧ k.toInt < 5) (h2 : a.1.1 ≠ 40) (h3 : (a.2.1 q).1 ≠ 0) (hj : i.toInt = (j : Int)) (h4 : (j : Int) + 2 ≤ (a.2.1 q).2.1.toInt) (h5 : -300 ≤ ((a.2.1 q).2.2 j).toInt ∧ ((a.2.1 q).2.2 j).toInt ≤ 300 ∧ -300 ≤ ((a.2.1 q).2.2 (j + 1)).toInt ∧ ((a.2.1 q).2.2 (j + 1)).toInt ≤ 300) : sPlant a b i k = ((a.1.1 : Int), plTo a (a.1.1 + 1) (va_up a.1.2 a.1.1 (((a.2.1 q).2.2 j).toInt32, ((a.2.1 q).2.2 (j + 1)).toInt32, k, 0, false)) 0 (some (a.1.1, true, (0, 0, 0, 0, false)))) := by
  have e : b.toInt.toNat = q := by omega
  have e2 : i.toInt.toNat = j := by omega
  unfold sPlant
  rw [e, e2, if_neg (by omega), if_neg h2, if_neg h3, if_neg (by omega), if_neg (fun z => z h5)]
end SP
/-- a plant p that is given and there: what is asked first of most calls -/
def sGiv (a : Ab) (p : Int32) (good : Bool) (f : Nat → Int × Ab) : Int × Ab :=
  if ¬ (0 ≤ p.toInt ∧ p.toInt < (a.1.1 : Int)) ∨ good = false then (-1000001, a)
  else if (a.1.2 p.toInt.toNat).2.2.2.2 = true then (-1000011, stat a 1)
  else f p.toInt.toNat
theorem sGiv_1 {a : Ab} {p : Int32} {g : Bool} {f : Nat → Int × Ab} (h : ¬ (0 ≤ p.toInt ∧ p.toInt < (a.1.1 : Int)) ∨ g = false) : sGiv a p g f = (-1000001, a) := if_pos h
theorem sGiv_2 {a : Ab} {p : Int32} {g : Bool} {f : Nat → Int × Ab} {i : Nat} (hi : i < a.1.1) (hp : p.toInt = (i : Int)) (hg : g = true) (h : (a.1.2 i).2.2.2.2 = true) : sGiv a p g f = (-1000011, stat a 1) := by
  have e : p.toInt.toNat = i := by omega
  unfold sGiv
  rw [e, if_neg (by rw [hg]; simp; omega), if_pos h]
theorem sGiv_3 {a : Ab} {p : Int32} {g : Bool} {f : Nat → Int × Ab} {i : Nat} (hi : i < a.1.1) (hp : p.toInt = (i : Int)) (hg : g = true) (h : (a.1.2 i).2.2.2.2 = false) : sGiv a p g f = f i := by
  have e : p.toInt.toNat = i := by omega
  unfold sGiv
  rw [e, if_neg (by rw [hg]; simp; omega), if_neg (by rw [h]; decide)]
def sMove (a : Ab) (p x y : Int32) : Int × Ab := sGiv a p true (fun i =>
  if ¬ (-300 ≤ (a.1.2 i).1.toInt + x.toInt ∧ (a.1.2 i).1.toInt + x.toInt ≤ 300 ∧ -300 ≤ (a.1.2 i).2.1.toInt + y.toInt ∧ (a.1.2 i).2.1.toInt + y.toInt ≤ 300) then (-1000001, a)
  else (1, plTo a a.1.1 (va_up a.1.2 i ((a.1.2 i).1 + x, (a.1.2 i).2.1 + y, (a.1.2 i).2.2)) 0 (some (i, false, a.1.2 i))))
def sAway (a : Ab) (p : Int32) : Int × Ab := sGiv a p true (fun i =>
  ((prs a.1.1 (va_up a.1.2 i ((a.1.2 i).1, (a.1.2 i).2.1, (a.1.2 i).2.2.1, (a.1.2 i).2.2.2.1, true))).length, plTo a a.1.1 (va_up a.1.2 i ((a.1.2 i).1, (a.1.2 i).2.1, (a.1.2 i).2.2.1, (a.1.2 i).2.2.2.1, true)) 0 (some (i, false, a.1.2 i))))
def in03 (x m : Int) : Bool := decide (0 ≤ x ∧ x < m)
def sColour (a : Ab) (p c : Int32) : Int × Ab := sGiv a p (in03 c.toInt 3) (fun i =>
  if (a.1.2 i).2.2.1.toInt ≠ 4 then (-1000013, stat a 3)
  else ((a.1.2 i).2.2.2.1.toInt, plTo a a.1.1 (va_up a.1.2 i ((a.1.2 i).1, (a.1.2 i).2.1, (a.1.2 i).2.2.1, c, (a.1.2 i).2.2.2.2)) 0 (some (i, false, a.1.2 i))))
def isOf (k w : Int) : Bool := decide (k = w ∨ w = 0 ∨ (k = 3 ∧ w = 1))
def sIs (a : Ab) (p k : Int32) : Int × Ab := sGiv a p (in03 k.toInt 5) (fun i => (if isOf (a.1.2 i).2.2.1.toInt k.toInt then 1 else 0, stat a 0))
def asV (w k c : Int) : Int := if w = 0 then redOf k c else if w = 1 then blueOf k c else if w = 2 then allOf k c else worV k c
def asB (w k c : Int) : List Int32 := if w = 0 then redB k c else if w = 1 then bluB k c else if w = 2 then allB k c else worB k c
def trTo (a : Ab) (f : Int32) (bs : List Int32) : Ab := (a.1, a.2.1, f, (bs.length, fun j => bs.getD j 0), a.2.2.2.2)
def sAsk (a : Ab) (p w : Int32) : Int × Ab :=
  if ¬ (0 ≤ p.toInt ∧ p.toInt < (a.1.1 : Int)) ∨ in03 w.toInt 4 = false then (-1000001, a)
  else if (a.1.2 p.toInt.toNat).2.2.2.2 = true then (-1000011, trTo a 1 [])
  else (asV w.toInt (a.1.2 p.toInt.toNat).2.2.1.toInt (a.1.2 p.toInt.toNat).2.2.2.1.toInt, trTo a 0 (asB w.toInt (a.1.2 p.toInt.toNat).2.2.1.toInt (a.1.2 p.toInt.toNat).2.2.2.1.toInt))
def sTrace (a : Ab) (i : Int32) : Int := if 0 ≤ i.toInt ∧ i.toInt < (a.2.2.2.1.1 : Int) then (a.2.2.2.1.2 i.toInt.toNat).toInt else -1000000
def sUndo (a : Ab) : Int × Ab := match a.2.2.2.2.2 with
  | none => (-1000002, a)
  | some (u, nw, p) => (1, plTo a (if nw then a.1.1 - 1 else a.1.1) (if nw then a.1.2 else va_up a.1.2 u p) a.2.2.1 none)
