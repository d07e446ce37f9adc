/-! pure words on plants and lines -/
def prs (n : Nat) (pt : Nat → Pt) : List Nat := (List.range n).filter (fun i => !(pt i).2.2.2.2)
def gg (x y : Int) : Nat := Nat.gcd x.natAbs y.natAbs
def g3 (A B C : Int) : Nat := gg (gg A B : Int) C
def lnN (A B C : Int) : Int × Int × Int := if A < 0 ∨ (A = 0 ∧ B < 0) then ((-A).tdiv (g3 A B C), (-B).tdiv (g3 A B C), (-C).tdiv (g3 A B C)) else (A.tdiv (g3 A B C), B.tdiv (g3 A B C), C.tdiv (g3 A B C))
def lnT (x1 y1 x2 y2 : Int) : Int × Int × Int := lnN (y1 - y2) (x2 - x1) (x1 * y2 - x2 * y1)
/-- the side of a line: 0 left, 1 on it, 2 right -/
def sd (v : Int) : Int32 := if v = 0 then 1 else if 0 < v then 0 else 2
def lsum (l : List Nat) (g : Nat → Int) : Int := (l.map g).sum
/-- a count of a plant: 0 red, 1 blue, else all -/
def cnt (w : Nat) (p : Pt) : Int := if w = 0 then redOf p.2.2.1.toInt p.2.2.2.1.toInt else if w = 1 then blueOf p.2.2.1.toInt p.2.2.2.1.toInt else allOf p.2.2.1.toInt p.2.2.2.1.toInt
/-- where a plant stands to a line -/
def lv (t : Int × Int × Int) (p : Pt) : Int := t.1 * p.1.toInt + t.2.1 * p.2.1.toInt + t.2.2
/-- the count of a plant if it is on that side -/
def cntS (w : Nat) (t : Int × Int × Int) (s : Int32) (p : Pt) : Int := if sd (lv t p) = s then cnt w p else 0
def sumS (n : Nat) (pt : Nat → Pt) (w : Nat) (t : Int × Int × Int) (s : Int32) : Int := lsum (prs n pt) (fun i => cntS w t s (pt i))
def sumW (n : Nat) (pt : Nat → Pt) (w : Nat) : Int := lsum (prs n pt) (fun i => cnt w (pt i))
/-- neither side has more than half -/
def hlv (n : Nat) (pt : Nat → Pt) (w : Nat) (t : Int × Int × Int) : Bool := decide (2 * sumS n pt w t 0 ≤ sumW n pt w ∧ 2 * sumS n pt w t 2 ≤ sumW n pt w)
/-- all pairs of a list, the first first -/
def prl : List Nat → List (Nat × Nat)
  | [] => []
  | x :: xs => xs.map (fun y => (x, y)) ++ prl xs
def apt (p q : Pt) : Bool := decide (p.1.toInt ≠ q.1.toInt ∨ p.2.1.toInt ≠ q.2.1.toInt)
/-- above 0 if r lies to the left as one goes from p to q, 0 if on one line with both -/
def crs (p q r : Pt) : Int := (q.1.toInt - p.1.toInt) * (r.2.1.toInt - p.2.1.toInt) - (q.2.1.toInt - p.2.1.toInt) * (r.1.toInt - p.1.toInt)
/-- the first pair of its line -/
def fstP (P : List Nat) (pt : Nat → Pt) (p q : Nat) : Bool := P.all (fun k => !((Nat.blt k p || (Nat.blt p k && Nat.blt k q && apt (pt p) (pt k))) && decide (crs (pt p) (pt q) (pt k) = 0)))
def okp (P : List Nat) (pt : Nat → Pt) (z : Nat × Nat) : Bool := apt (pt z.1) (pt z.2) && fstP P pt z.1 z.2
def LPR (P : List Nat) (pt : Nat → Pt) : List (Nat × Nat) := (prl P).filter (okp P pt)
def lnO (pt : Nat → Pt) (z : Nat × Nat) : Int × Int × Int := lnT (pt z.1).1.toInt (pt z.1).2.1.toInt (pt z.2).1.toInt (pt z.2).2.1.toInt
def okf (n : Nat) (pt : Nat → Pt) (z : Nat × Nat) : Bool := hlv n pt 0 (lnO pt z) && hlv n pt 1 (lnO pt z)
def FUR (n : Nat) (pt : Nat → Pt) : List (Nat × Nat) := (LPR (prs n pt) pt).filter (okf n pt)
/-- how many stand on the line through two -/
def cON (P : List Nat) (pt : Nat → Pt) (z : Nat × Nat) : Nat := (P.filter (fun k => decide (crs (pt z.1) (pt z.2) (pt k) = 0))).length
def MaxOn (P : List Nat) (pt : Nat → Pt) (r : Int) : Prop := ((∀ p ∈ P, ∀ q ∈ P, apt (pt p) (pt q) = false) ∧ r = 0) ∨ ((∃ p ∈ P, ∃ q ∈ P, apt (pt p) (pt q) = true ∧ r = (cON P pt (p, q) : Int)) ∧ ∀ p ∈ P, ∀ q ∈ P, apt (pt p) (pt q) = true → (cON P pt (p, q) : Int) ≤ r)
def MinOn (P : List Nat) (pt : Nat → Pt) (r : Int) : Prop := ((∀ p ∈ P, ∀ q ∈ P, apt (pt p) (pt q) = false) ∧ r = 0) ∨ ((∃ p ∈ P, ∃ q ∈ P, apt (pt p) (pt q) = true ∧ r = (cON P pt (p, q) : Int)) ∧ ∀ p ∈ P, ∀ q ∈ P, apt (pt p) (pt q) = true → r ≤ (cON P pt (p, q) : Int))
