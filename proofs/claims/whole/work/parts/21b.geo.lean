/-! depth, layers, strips: pure words -/
/-- from a point x / d, y / d to a plant, d times -/
def vAt (pt : Nat → Pt) (x y d : Int) (i : Nat) : Int × Int := ((pt i).1.toInt * d - x, (pt i).2.1.toInt * d - y)
def crV (a b : Int × Int) : Int := a.1 * b.2 - a.2 * b.1
def dtV (a b : Int × Int) : Int := a.1 * b.1 + a.2 * b.2
def wH (V : Nat → Int × Int) (w : Nat → Int) (k : Nat) : Int := if (V k).1 = 0 ∧ (V k).2 = 0 then w k else 0
def wL (V : Nat → Int × Int) (w : Nat → Int) (u : Int × Int) (k : Nat) : Int := if 0 < crV u (V k) then w k else 0
def wR (V : Nat → Int × Int) (w : Nat → Int) (u : Int × Int) (k : Nat) : Int := if crV u (V k) < 0 then w k else 0
def wA (V : Nat → Int × Int) (w : Nat → Int) (u : Int × Int) (k : Nat) : Int := if crV u (V k) = 0 ∧ 0 < dtV u (V k) then w k else 0
def wB (V : Nat → Int × Int) (w : Nat → Int) (u : Int × Int) (k : Nat) : Int := if crV u (V k) = 0 ∧ dtV u (V k) < 0 then w k else 0
/-- the least sum beside a plant -/
def dI (P : List Nat) (V : Nat → Int × Int) (w : Nat → Int) (i : Nat) : Int := min (lsum P (wL V w (V i))) (lsum P (wR V w (V i))) + min (lsum P (wA V w (V i))) (lsum P (wB V w (V i)))
def dStep (P : List Nat) (V : Nat → Int × Int) (w : Nat → Int) (m : Int) (i : Nat) : Int := if (V i).1 = 0 ∧ (V i).2 = 0 then m else min m (lsum P (wH V w) + dI P V w i)
/-- the depth of a point -/
def dep (P : List Nat) (V : Nat → Int × Int) (w : Nat → Int) : Int := P.foldl (dStep P V w) (lsum P w)
def depA (n : Nat) (pt : Nat → Pt) (c : Int × Int × Int) : Int := dep (prs n pt) (vAt pt c.1 c.2.1 c.2.2) (fun i => cnt 2 (pt i))
/-- a line through two that are there -/
def isL (n : Nat) (pt : Nat → Pt) (t : Int × Int × Int) : Prop := ∃ z ∈ LPR (prs n pt) pt, t = lnO pt z
/-- where two lines cross: x, y, and what they are to be divided by -/
def crL (s t : Int × Int × Int) : Int × Int × Int := (s.2.1 * t.2.2 - t.2.1 * s.2.2, s.2.2 * t.1 - t.2.2 * s.1, s.1 * t.2.1 - t.1 * s.2.1)
def nrC (c : Int × Int × Int) : Int × Int × Int := if 0 < c.2.2 then c else (-c.1, -c.2.1, -c.2.2)
/-- the points among which the deepest is looked for -/
def cand (n : Nat) (pt : Nat → Pt) (c : Int × Int × Int) : Prop := (∃ i ∈ prs n pt, c = ((pt i).1.toInt, (pt i).2.1.toInt, 1)) ∨ ∃ s t, isL n pt s ∧ isL n pt t ∧ (crL s t).2.2 ≠ 0 ∧ c = nrC (crL s t)
def lexl (b c : Int × Int × Int) : Prop := b.1 * c.2.2 < c.1 * b.2.2 ∨ (b.1 * c.2.2 = c.1 * b.2.2 ∧ b.2.1 * c.2.2 ≤ c.2.1 * b.2.2)
def BestD (C : Int × Int × Int → Prop) (f : Int × Int × Int → Int) (r : Int) (b : Int × Int × Int) : Prop := C b ∧ r = f b ∧ ∀ c, C c → f c < r ∨ (f c = r ∧ lexl b c)
/-- on the edge of a figure -/
def onE (F : List Nat) (pt : Nat → Pt) (p : Nat) : Bool := F.all (fun q => !apt (pt p) (pt q)) || F.any (fun q => apt (pt p) (pt q) && (F.all (fun k => decide (crs (pt p) (pt q) (pt k) ≤ 0)) || F.all (fun k => decide (0 ≤ crs (pt p) (pt q) (pt k)))))
/-- the layers after so many rounds; 0 is none yet -/
def LY (P : List Nat) (pt : Nat → Pt) : Nat → Nat → Nat
  | 0, _ => 0
  | r + 1, p => if LY P pt r p = 0 ∧ onE (P.filter (fun q => LY P pt r q == 0)) pt p = true then r + 1 else LY P pt r p
/-- how many rounds there are -/
def isNL (P : List Nat) (pt : Nat → Pt) (r : Nat) : Prop := (∀ p ∈ P, LY P pt r p ≠ 0) ∧ ∀ s, s < r → ∃ p ∈ P, LY P pt s p = 0
/-- how far along a direction -/
def pj (u : Int × Int) (p : Pt) : Int := u.1 * p.1.toInt + u.2 * p.2.1.toInt
def isGap (P : List Nat) (pt : Nat → Pt) (u : Int × Int) (p r : Nat) : Prop := p ∈ P ∧ r ∈ P ∧ pj u (pt p) < pj u (pt r) ∧ ∀ k ∈ P, ¬ (pj u (pt p) < pj u (pt k) ∧ pj u (pt k) < pj u (pt r))
def dirs (n : Nat) (pt : Nat → Pt) (u : Int × Int) : Prop := ∃ t, isL n pt t ∧ (u = (t.1, t.2.1) ∨ u = (t.2.1, -t.1))
def gsq (pt : Nat → Pt) (u : Int × Int) (p r : Nat) : Int := (pj u (pt r) - pj u (pt p)) * (pj u (pt r) - pj u (pt p))
def usq (u : Int × Int) : Int := u.1 * u.1 + u.2 * u.2
/-- the widest empty strip, by the square of its width -/
def WBest (D : Int × Int → Prop) (P : List Nat) (pt : Nat → Pt) (up low : Int) : Prop := 0 < low ∧ 0 ≤ up ∧ (∀ u p r, D u → isGap P pt u p r → gsq pt u p r * low ≤ up * usq u) ∧ (up = 0 ∨ ∃ u p r, D u ∧ isGap P pt u p r ∧ gsq pt u p r * low = up * usq u)
