/-! asks: bodies and values; the trace -/
def redB (k c : Int) : List Int32 := if k = 1 then [11] else if k = 3 then [12, 11] else if k = 4 then (if c = 1 then [13] else [13, 10]) else [10]
def bluB (k c : Int) : List Int32 := if k = 2 then [21] else if k = 4 then (if c = 2 then [22] else [22, 20]) else [20]
def lenB (k c : Int) : List Int32 := 30 :: (redB k c ++ bluB k c)
def allB (k c : Int) : List Int32 := if k = 3 then 31 :: lenB k c else lenB k c
def worB (k c : Int) : List Int32 := if k = 4 then 42 :: lenB k c else if k = 2 then 41 :: 40 :: allB k c else 40 :: allB k c
def worV (k c : Int) : Int := if k = 4 then lentOf k c else if k = 2 then 10 * allOf k c - 5 else 10 * allOf k c
/-- a body leaves its number in trace t -/
def lvT (t : Nat) (σ : Sg) (b : Int32) : Sg := if t = 6 ∧ (σ.1 6 1).toInt < 16 then uI (uI σ 7 (σ.1 6 1).toInt.toNat b) 6 1 (σ.1 6 1 + 1) else σ
def lvs (t : Nat) (σ : Sg) (bs : List Int32) : Sg := bs.foldl (lvT t) σ
def TL (σ : Sg) (t : Nat) : Prop := (t = 6 ∨ t = 8) ∧ 0 ≤ (σ.1 t 1).toInt ∧ (σ.1 t 1).toInt ≤ 16
theorem lvT_row {t : Nat} {σ : Sg} {b : Int32} {o : Nat} (h6 : o ≠ 6) (h7 : o ≠ 7) : (lvT t σ b).1 o = σ.1 o := by
  unfold lvT
  split
  · rw [uI_row h6, uI_row h7]
  · rfl
theorem lvT_2 {t : Nat} {σ : Sg} {b : Int32} : (lvT t σ b).2 = σ.2 := by
  unfold lvT
  split <;> rfl
theorem lvT_TL {t : Nat} {σ : Sg} {b : Int32} (h : TL σ t) : TL (lvT t σ b) t := by
  obtain ⟨h1, h2, h3⟩ := h
  refine ⟨h1, ?_⟩
  rcases h1 with rfl | rfl
  · unfold lvT
    by_cases hc : (σ.1 6 1).toInt < 16
    · rw [if_pos ⟨rfl, hc⟩, uI_eq, t32_add (y := 1)] <;> (have : (1 : Int32).toInt = 1 := rfl) <;> omega
    · rw [if_neg (fun z => hc z.2)]; omega
  · rw [lvT_row (by omega) (by omega)]; omega
theorem lvs_nil {t : Nat} {σ : Sg} : lvs t σ [] = σ := rfl
theorem lvs_cons {t : Nat} {σ : Sg} {b : Int32} {bs : List Int32} : lvs t σ (b :: bs) = lvs t (lvT t σ b) bs := rfl
theorem lvs_app {t : Nat} {σ : Sg} {xs ys : List Int32} : lvs t σ (xs ++ ys) = lvs t (lvs t σ xs) ys := List.foldl_append
theorem lvs_row {t o : Nat} (h6 : o ≠ 6) (h7 : o ≠ 7) : ∀ (bs : List Int32) (σ : Sg), (lvs t σ bs).1 o = σ.1 o
  | [], _ => rfl
  | b :: bs, σ => by rw [lvs_cons, lvs_row h6 h7 bs, lvT_row h6 h7]
theorem lvs_2 {t : Nat} : ∀ (bs : List Int32) (σ : Sg), (lvs t σ bs).2 = σ.2
  | [], _ => rfl
  | b :: bs, σ => by rw [lvs_cons, lvs_2 bs, lvT_2]
theorem lvs_TL {t : Nat} : ∀ (bs : List Int32) (σ : Sg), TL σ t → TL (lvs t σ bs) t
  | [], _, h => h
  | b :: bs, σ, h => lvs_TL bs _ (lvT_TL h)
theorem lvs_8 : ∀ (bs : List Int32) (σ : Sg), lvs 8 σ bs = σ
  | [], _ => rfl
  | b :: bs, σ => by rw [lvs_cons, show lvT 8 σ b = σ from if_neg (fun z => absurd z.1 (by decide)), lvs_8 bs]
theorem TL_kd {σ : Sg} {t : Nat} (h : TL σ t) : kd t = 9 ∧ t < 105 := by
  rcases h.1 with rfl | rfl
  · exact ⟨rfl, by decide⟩
  · exact ⟨rfl, by decide⟩
theorem TL_cong {σ τ : Sg} {t : Nat} (h : TL σ t) (e : τ.1 t = σ.1 t) : TL τ t := by
  unfold TL
  rw [e]
  exact h
