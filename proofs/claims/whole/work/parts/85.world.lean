/-! the world behind the constructors -/
def s0 : Sg := (fun o => match o with
  | 1 => fun k => if k = 6 then -1000000 else 0
  | 10 => fun k => if k = 1 then 1 else 0
  | 23 => fun k => if k = 1 then 1 else 0
  | _ => fun _ => 0, fun o => match o with
  | 1 => fun k => if k = 21 then 1 else 0
  | _ => fun _ => 0)
def alX (b t6 t7 : Nat) (q : List Nat) (bd it pl : Nat → Nat) (o : Nat) : Nat := if o = 105 then b else if o = 106 then t6 else if o = 107 then t7 else if 65 ≤ o then pl (o - 65) else if 57 ≤ o then it (o - 57) else if 49 ≤ o then bd (o - 49) else q.getD o 0
theorem al_bd {b t6 t7 : Nat} {q : List Nat} {bd it pl : Nat → Nat} {j : Nat} (h : j < 8) : alX b t6 t7 q bd it pl (49 + j) = bd j := by
  unfold alX
  rw [if_neg (by omega), if_neg (by omega), if_neg (by omega), if_neg (by omega), if_neg (by omega), if_pos (by omega), show 49 + j - 49 = j by omega]
theorem al_pl {b t6 t7 : Nat} {q : List Nat} {bd it pl : Nat → Nat} {j : Nat} (h : j < 40) : alX b t6 t7 q bd it pl (65 + j) = pl j := by
  unfold alX
  rw [if_neg (by omega), if_neg (by omega), if_neg (by omega), if_pos (by omega), show 65 + j - 65 = j by omega]
theorem al_it {b t6 t7 : Nat} {q : List Nat} {bd it pl : Nat → Nat} {j : Nat} (h : j < 8) : alX b t6 t7 q bd it pl (57 + j) = it j := by
  unfold alX
  rw [if_neg (by omega), if_neg (by omega), if_neg (by omega), if_neg (by omega), if_pos (by omega), show 57 + j - 57 = j by omega]
def piX (o : Nat) : Nat := if 65 ≤ o then o - 46 else if 57 ≤ o then 2 * (o - 57) + 4 else if 49 ≤ o then 2 * (o - 49) + 3 else if 31 ≤ o then o + 56 else if 4 ≤ o then o + 55 else [0, 86, 2, 1].getD o 0
theorem pi_inj : ∀ o, o < 105 → ∀ o', o' < 105 → piX o = piX o' → o = o' := by decide +kernel
def A10 (α : Nat → Nat) : Nat × va_E := (α 0, .inr (10, [.ref (α 2), .ref (α 3), .ref (α 4), .ref (α 6), .ref (α 8), .ref (α 10), .ref (α 11), .ref (α 18), .ref (α 24), .ref (α 26), .ref (α 29), .int 0, .int 0]))
def E10 (C : Nat → ClassId) (α : Nat → Nat) : va_W := [((α 4), .inr (1, [.ref (α 5), .int 0, .int 0, .int 0])), ((α 5), .inr (6, [.int 0, .int 0, .int 0, .int 0, .int 0, .int 0, .int 0, .int 0])), ((α 6), .inr (9, [.ref (α 7), .int 0])), ((α 7), .inl (C 0, (16, .inl (fun _ => 0)))), ((α 8), .inr (9, [.ref (α 9), .int 0])), ((α 9), .inl (C 0, (0, .inl (fun _ => 0)))), ((α 10), .inr (4, [.int (0), .int (1), .int (0)])), ((α 11), .inr (7, [.ref (α 12), .ref (α 13), .ref (α 14), .ref (α 15), .ref (α 16), .ref (α 17), .int 0, .int 0])), ((α 12), .inl (C 0, (40, .inl (fun _ => 0)))), ((α 13), .inl (C 0, (40, .inl (fun _ => 0)))), ((α 14), .inl (C 0, (40, .inl (fun _ => 0)))), ((α 15), .inl (C 0, (40, .inl (fun _ => 0)))), ((α 16), .inl (C 0, (40, .inl (fun _ => 0)))), ((α 17), .inl (C 0, (40, .inl (fun _ => 0)))), ((α 18), .inr (5, [.ref (α 19), .ref (α 20), .ref (α 21), .ref (α 22), .ref (α 23), .int 0, .int 0, .int 0, .int 0, .int 0, .int 0])), ((α 19), .inl (C 0, (780, .inl (fun _ => 0)))), ((α 20), .inl (C 0, (780, .inl (fun _ => 0)))), ((α 21), .inl (C 0, (780, .inl (fun _ => 0)))), ((α 22), .inl (C 0, (780, .inl (fun _ => 0)))), ((α 23), .inr (4, [.int (0), .int (1), .int (0)])), ((α 24), .inr (3, [.ref (α 25), .int 0, .int 0])), ((α 25), .inl (C 0, (40, .inl (fun _ => 0)))), ((α 26), .inr (2, [.ref (α 27), .ref (α 28), .int 0, .int 0, .long 0, .long 0, .long 0])), ((α 27), .inl (C 1, (40, .inr (.inl (fun _ => 0))))), ((α 28), .inl (C 1, (40, .inr (.inl (fun _ => 0))))), ((α 29), .inr (8, [.ref (α 30), .int 0, .long 0, .long 0])), ((α 30), .inl (C 0, (40, .inl (fun _ => 0))))]
def M11 (C : Nat → ClassId) (α : Nat → Nat) : va_W := [((α 1), .inr (11, [.int 0, .ref (α 31), .ref (α 32), .ref (α 33), .ref (α 34), .ref (α 35), .int (-1000000), .int 0, .int 0, .int 0, .int 0, .int 0, .ref (α 36), .ref (α 37), .ref (α 38), .ref (α 39), .int 0, .ref (α 40), .int 0, .int 0, .long 0, .long 1, .long 0, .long 0, .long 0, .long 0, .ref (α 41), .ref (α 42), .ref (α 43), .int 0, .long 0, .long 0, .long 0, .ref (α 44), .ref (α 45), .ref (α 46), .ref (α 47), .ref (α 48), .long 0, .long 0])), ((α 31), .inl (C 0, (40, .inl (fun _ => 0)))), ((α 32), .inl (C 0, (40, .inl (fun _ => 0)))), ((α 33), .inl (C 0, (40, .inl (fun _ => 0)))), ((α 34), .inl (C 0, (40, .inl (fun _ => 0)))), ((α 35), .inl (C 2, (40, .inl (fun _ => 0)))), ((α 36), .inl (C 0, (8, .inl (fun _ => 0)))), ((α 37), .inl (C 0, (8, .inl (fun _ => 0)))), ((α 38), .inl (C 1, (800, .inr (.inl (fun _ => 0))))), ((α 39), .inl (C 1, (100, .inr (.inl (fun _ => 0))))), ((α 40), .inl (C 0, (16, .inl (fun _ => 0)))), ((α 41), .inl (C 1, (40, .inr (.inl (fun _ => 0))))), ((α 42), .inl (C 1, (40, .inr (.inl (fun _ => 0))))), ((α 43), .inl (C 0, (40, .inl (fun _ => 0)))), ((α 44), .inl (C 1, (66, .inr (.inl (fun _ => 0))))), ((α 45), .inl (C 1, (66, .inr (.inl (fun _ => 0))))), ((α 46), .inl (C 1, (66, .inr (.inl (fun _ => 0))))), ((α 47), .inl (C 0, (40, .inl (fun _ => 0)))), ((α 48), .inl (C 2, (40, .inl (fun _ => 0))))]
def wOK (G : Gx) (w : va_W) : Prop := ∀ o, o < 105 → ∃ x, w[piX o]? = some (G.1 o, x) ∧ ∀ (D : va_G) (H : Heap), va_at D vwCl (G.1 o, x) H → va_at D vwCl (G.1 o, cel G s0 o) H
theorem arrV_ext {c : ClassId} {n : Nat} {f g : Nat → Value} (h : ∀ j, j < n → f j = g j) : arrV c n f = arrV c n g := by
  have e : (fun j : Fin n => f j.val) = (fun j : Fin n => g j.val) := funext fun j => h j.val j.isLt
  unfold arrV
  rw [e]
theorem at_beds {D D' : va_G} {C : Nat → ClassId} {Aw : Nat → Prop} {Ln : Nat} {xs : Nat → Int32} {α : Nat → Nat} {f : Nat → Option Nat} {H : Heap} {q : Nat} (hf : ∀ j, j < 8 → f j = some (α (49 + j))) (h : va_at D' vwCl (q, .inl (C 3, 8, .inr (.inr (.inr (.inr f))))) H) : va_at D' vwCl (q, cel (α, D, C, Aw, Ln, xs) s0 2) H := by
  rw [cel_R (c := 0) (show kd 2 = 15 + 0 from rfl)]
  have h' : H[q]? = some (arrV (C 3) 8 (fun j => va_rf (f j))) := h
  have e : arrV (C 3) 8 (fun j => va_rf (f j)) = arrV (C 3) 8 (fun j => va_rf (some (α (49 + j)))) := arrV_ext (fun j hj => by rw [hf j hj])
  rw [e] at h'
  exact h'
theorem at_plts {D D' : va_G} {C : Nat → ClassId} {Aw : Nat → Prop} {Ln : Nat} {xs : Nat → Int32} {α : Nat → Nat} {f : Nat → Option Nat} {H : Heap} {q : Nat} (hf : ∀ j, j < 40 → f j = some (α (65 + j))) (h : va_at D' vwCl (q, .inl (C 4, 40, .inr (.inr (.inr (.inr f))))) H) : va_at D' vwCl (q, cel (α, D, C, Aw, Ln, xs) s0 3) H := by
  rw [cel_R (c := 1) (show kd 3 = 15 + 1 from rfl)]
  have h' : H[q]? = some (arrV (C 4) 40 (fun j => va_rf (f j))) := h
  have e : arrV (C 4) 40 (fun j => va_rf (f j)) = arrV (C 4) 40 (fun j => va_rf (some (α (65 + j)))) := arrV_ext (fun j hj => by rw [hf j hj])
  rw [e] at h'
  exact h'
section LK
variable {A P B : Nat × va_E} {R T E M : va_W}
theorem w_flat : (A :: ((P :: ((B :: R) ++ T)) ++ E)) ++ M = A :: P :: B :: (R ++ (T ++ (E ++ M))) := by simp only [List.cons_append, List.append_assoc]
theorem lk_R (hR : R.length = 16) (i : Nat) (hi : i < 16) : ((A :: ((P :: ((B :: R) ++ T)) ++ E)) ++ M)[i + 3]? = R[i]? := by
  rw [w_flat]
  show (R ++ (T ++ (E ++ M)))[i]? = _
  exact List.getElem?_append_left (by omega)
theorem lk_T (hR : R.length = 16) (hT : T.length = 40) (i : Nat) (hi : i < 40) : ((A :: ((P :: ((B :: R) ++ T)) ++ E)) ++ M)[i + 19]? = T[i]? := by
  rw [w_flat]
  show (R ++ (T ++ (E ++ M)))[i + 16]? = _
  rw [List.getElem?_append_right (by omega), List.getElem?_append_left (by omega), hR, show i + 16 - 16 = i by omega]
theorem lk_E (hR : R.length = 16) (hT : T.length = 40) (hE : E.length = 27) (i : Nat) (hi : i < 27) : ((A :: ((P :: ((B :: R) ++ T)) ++ E)) ++ M)[i + 59]? = E[i]? := by
  rw [w_flat]
  show (R ++ (T ++ (E ++ M)))[i + 56]? = _
  rw [List.getElem?_append_right (by omega), List.getElem?_append_right (by omega), List.getElem?_append_left (by omega), hR, hT, show i + 56 - 16 - 40 = i by omega]
theorem lk_M (hR : R.length = 16) (hT : T.length = 40) (hE : E.length = 27) (i : Nat) : ((A :: ((P :: ((B :: R) ++ T)) ++ E)) ++ M)[i + 86]? = M[i]? := by
  rw [w_flat]
  show (R ++ (T ++ (E ++ M)))[i + 83]? = _
  rw [List.getElem?_append_right (by omega), List.getElem?_append_right (by omega), List.getElem?_append_right (by omega), hR, hT, hE, show i + 83 - 16 - 40 - 27 = i by omega]
end LK

