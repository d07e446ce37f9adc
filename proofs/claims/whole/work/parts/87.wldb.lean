set_option maxRecDepth 20000 in
set_option maxHeartbeats 4000000 in
theorem wld_b {D : va_G} {C : Nat → ClassId} {Aw : Nat → Prop} {Ln : Nat} {xs : Nat → Int32} {α : Nat → Nat} {R T : va_W} {f g : Nat → Option Nat} (hb : bdsI C R f (fun j => α (49 + j)) (fun j => α (57 + j)) 8) (hp : plsI T g (fun j => α (65 + j)) 40) (o : Nat) (h1 : 49 ≤ o) (h2 : o ≤ 64) : ∃ x, ((A10 α :: (((α 3, .inl (C 4, 40, .inr (.inr (.inr (.inr g))))) :: (((α 2, .inl (C 3, 8, .inr (.inr (.inr (.inr f))))) :: R) ++ T)) ++ E10 C α)) ++ M11 C α)[piX o]? = some (α o, x) ∧ ∀ (D' : va_G) (H : Heap), va_at D' vwCl (α o, x) H → va_at D' vwCl (α o, cel (α, D, C, Aw, Ln, xs) s0 o) H := by
  rcases (show o = 49 ∨ o = 50 ∨ o = 51 ∨ o = 52 ∨ o = 53 ∨ o = 54 ∨ o = 55 ∨ o = 56 ∨ o = 57 ∨ o = 58 ∨ o = 59 ∨ o = 60 ∨ o = 61 ∨ o = 62 ∨ o = 63 ∨ o = 64 by omega) with rfl | rfl | rfl | rfl | rfl | rfl | rfl | rfl | rfl | rfl | rfl | rfl | rfl | rfl | rfl | rfl
  · exact ⟨_, (lk_R hb.1 0 (by decide)).trans (hb.2 0 (by decide)).2.1, fun _ _ h => h⟩
  · exact ⟨_, (lk_R hb.1 2 (by decide)).trans (hb.2 1 (by decide)).2.1, fun _ _ h => h⟩
  · exact ⟨_, (lk_R hb.1 4 (by decide)).trans (hb.2 2 (by decide)).2.1, fun _ _ h => h⟩
  · exact ⟨_, (lk_R hb.1 6 (by decide)).trans (hb.2 3 (by decide)).2.1, fun _ _ h => h⟩
  · exact ⟨_, (lk_R hb.1 8 (by decide)).trans (hb.2 4 (by decide)).2.1, fun _ _ h => h⟩
  · exact ⟨_, (lk_R hb.1 10 (by decide)).trans (hb.2 5 (by decide)).2.1, fun _ _ h => h⟩
  · exact ⟨_, (lk_R hb.1 12 (by decide)).trans (hb.2 6 (by decide)).2.1, fun _ _ h => h⟩
  · exact ⟨_, (lk_R hb.1 14 (by decide)).trans (hb.2 7 (by decide)).2.1, fun _ _ h => h⟩
  · exact ⟨_, (lk_R hb.1 1 (by decide)).trans (hb.2 0 (by decide)).2.2, fun _ _ h => h⟩
  · exact ⟨_, (lk_R hb.1 3 (by decide)).trans (hb.2 1 (by decide)).2.2, fun _ _ h => h⟩
  · exact ⟨_, (lk_R hb.1 5 (by decide)).trans (hb.2 2 (by decide)).2.2, fun _ _ h => h⟩
  · exact ⟨_, (lk_R hb.1 7 (by decide)).trans (hb.2 3 (by decide)).2.2, fun _ _ h => h⟩
  · exact ⟨_, (lk_R hb.1 9 (by decide)).trans (hb.2 4 (by decide)).2.2, fun _ _ h => h⟩
  · exact ⟨_, (lk_R hb.1 11 (by decide)).trans (hb.2 5 (by decide)).2.2, fun _ _ h => h⟩
  · exact ⟨_, (lk_R hb.1 13 (by decide)).trans (hb.2 6 (by decide)).2.2, fun _ _ h => h⟩
  · exact ⟨_, (lk_R hb.1 15 (by decide)).trans (hb.2 7 (by decide)).2.2, fun _ _ h => h⟩
set_option maxRecDepth 20000 in
set_option maxHeartbeats 4000000 in
theorem wld_c {D : va_G} {C : Nat → ClassId} {Aw : Nat → Prop} {Ln : Nat} {xs : Nat → Int32} {α : Nat → Nat} {R T : va_W} {f g : Nat → Option Nat} (hb : bdsI C R f (fun j => α (49 + j)) (fun j => α (57 + j)) 8) (hp : plsI T g (fun j => α (65 + j)) 40) (o : Nat) (h1 : 65 ≤ o) (h2 : o ≤ 104) : ∃ x, ((A10 α :: (((α 3, .inl (C 4, 40, .inr (.inr (.inr (.inr g))))) :: (((α 2, .inl (C 3, 8, .inr (.inr (.inr (.inr f))))) :: R) ++ T)) ++ E10 C α)) ++ M11 C α)[piX o]? = some (α o, x) ∧ ∀ (D' : va_G) (H : Heap), va_at D' vwCl (α o, x) H → va_at D' vwCl (α o, cel (α, D, C, Aw, Ln, xs) s0 o) H := by
  rcases (show o = 65 ∨ o = 66 ∨ o = 67 ∨ o = 68 ∨ o = 69 ∨ o = 70 ∨ o = 71 ∨ o = 72 ∨ o = 73 ∨ o = 74 ∨ o = 75 ∨ o = 76 ∨ o = 77 ∨ o = 78 ∨ o = 79 ∨ o = 80 ∨ o = 81 ∨ o = 82 ∨ o = 83 ∨ o = 84 ∨ o = 85 ∨ o = 86 ∨ o = 87 ∨ o = 88 ∨ o = 89 ∨ o = 90 ∨ o = 91 ∨ o = 92 ∨ o = 93 ∨ o = 94 ∨ o = 95 ∨ o = 96 ∨ o = 97 ∨ o = 98 ∨ o = 99 ∨ o = 100 ∨ o = 101 ∨ o = 102 ∨ o = 103 ∨ o = 104 by omega) with rfl | rfl | rfl | rfl | rfl | rfl | rfl | rfl | rfl | rfl | rfl | rfl | rfl | rfl | rfl | rfl | rfl | rfl | rfl | rfl | rfl | rfl | rfl | rfl | rfl | rfl | rfl | rfl | rfl | rfl | rfl | rfl | rfl | rfl | rfl | rfl | rfl | rfl | rfl | rfl
  · exact ⟨_, (lk_T hb.1 hp.1 0 (by decide)).trans (hp.2 0 (by decide)).2, fun _ _ h => h⟩
  · exact ⟨_, (lk_T hb.1 hp.1 1 (by decide)).trans (hp.2 1 (by decide)).2, fun _ _ h => h⟩
  · exact ⟨_, (lk_T hb.1 hp.1 2 (by decide)).trans (hp.2 2 (by decide)).2, fun _ _ h => h⟩
  · exact ⟨_, (lk_T hb.1 hp.1 3 (by decide)).trans (hp.2 3 (by decide)).2, fun _ _ h => h⟩
  · exact ⟨_, (lk_T hb.1 hp.1 4 (by decide)).trans (hp.2 4 (by decide)).2, fun _ _ h => h⟩
  · exact ⟨_, (lk_T hb.1 hp.1 5 (by decide)).trans (hp.2 5 (by decide)).2, fun _ _ h => h⟩
  · exact ⟨_, (lk_T hb.1 hp.1 6 (by decide)).trans (hp.2 6 (by decide)).2, fun _ _ h => h⟩
  · exact ⟨_, (lk_T hb.1 hp.1 7 (by decide)).trans (hp.2 7 (by decide)).2, fun _ _ h => h⟩
  · exact ⟨_, (lk_T hb.1 hp.1 8 (by decide)).trans (hp.2 8 (by decide)).2, fun _ _ h => h⟩
  · exact ⟨_, (lk_T hb.1 hp.1 9 (by decide)).trans (hp.2 9 (by decide)).2, fun _ _ h => h⟩
  · exact ⟨_, (lk_T hb.1 hp.1 10 (by decide)).trans (hp.2 10 (by decide)).2, fun _ _ h => h⟩
  · exact ⟨_, (lk_T hb.1 hp.1 11 (by decide)).trans (hp.2 11 (by decide)).2, fun _ _ h => h⟩
  · exact ⟨_, (lk_T hb.1 hp.1 12 (by decide)).trans (hp.2 12 (by decide)).2, fun _ _ h => h⟩
  · exact ⟨_, (lk_T hb.1 hp.1 13 (by decide)).trans (hp.2 13 (by decide)).2, fun _ _ h => h⟩
  · exact ⟨_, (lk_T hb.1 hp.1 14 (by decide)).trans (hp.2 14 (by decide)).2, fun _ _ h => h⟩
  · exact ⟨_, (lk_T hb.1 hp.1 15 (by decide)).trans (hp.2 15 (by decide)).2, fun _ _ h => h⟩
  · exact ⟨_, (lk_T hb.1 hp.1 16 (by decide)).trans (hp.2 16 (by decide)).2, fun _ _ h => h⟩
  · exact ⟨_, (lk_T hb.1 hp.1 17 (by decide)).trans (hp.2 17 (by decide)).2, fun _ _ h => h⟩
  · exact ⟨_, (lk_T hb.1 hp.1 18 (by decide)).trans (hp.2 18 (by decide)).2, fun _ _ h => h⟩
  · exact ⟨_, (lk_T hb.1 hp.1 19 (by decide)).trans (hp.2 19 (by decide)).2, fun _ _ h => h⟩
  · exact ⟨_, (lk_T hb.1 hp.1 20 (by decide)).trans (hp.2 20 (by decide)).2, fun _ _ h => h⟩
  · exact ⟨_, (lk_T hb.1 hp.1 21 (by decide)).trans (hp.2 21 (by decide)).2, fun _ _ h => h⟩
  · exact ⟨_, (lk_T hb.1 hp.1 22 (by decide)).trans (hp.2 22 (by decide)).2, fun _ _ h => h⟩
  · exact ⟨_, (lk_T hb.1 hp.1 23 (by decide)).trans (hp.2 23 (by decide)).2, fun _ _ h => h⟩
  · exact ⟨_, (lk_T hb.1 hp.1 24 (by decide)).trans (hp.2 24 (by decide)).2, fun _ _ h => h⟩
  · exact ⟨_, (lk_T hb.1 hp.1 25 (by decide)).trans (hp.2 25 (by decide)).2, fun _ _ h => h⟩
  · exact ⟨_, (lk_T hb.1 hp.1 26 (by decide)).trans (hp.2 26 (by decide)).2, fun _ _ h => h⟩
  · exact ⟨_, (lk_T hb.1 hp.1 27 (by decide)).trans (hp.2 27 (by decide)).2, fun _ _ h => h⟩
  · exact ⟨_, (lk_T hb.1 hp.1 28 (by decide)).trans (hp.2 28 (by decide)).2, fun _ _ h => h⟩
  · exact ⟨_, (lk_T hb.1 hp.1 29 (by decide)).trans (hp.2 29 (by decide)).2, fun _ _ h => h⟩
  · exact ⟨_, (lk_T hb.1 hp.1 30 (by decide)).trans (hp.2 30 (by decide)).2, fun _ _ h => h⟩
  · exact ⟨_, (lk_T hb.1 hp.1 31 (by decide)).trans (hp.2 31 (by decide)).2, fun _ _ h => h⟩
  · exact ⟨_, (lk_T hb.1 hp.1 32 (by decide)).trans (hp.2 32 (by decide)).2, fun _ _ h => h⟩
  · exact ⟨_, (lk_T hb.1 hp.1 33 (by decide)).trans (hp.2 33 (by decide)).2, fun _ _ h => h⟩
  · exact ⟨_, (lk_T hb.1 hp.1 34 (by decide)).trans (hp.2 34 (by decide)).2, fun _ _ h => h⟩
  · exact ⟨_, (lk_T hb.1 hp.1 35 (by decide)).trans (hp.2 35 (by decide)).2, fun _ _ h => h⟩
  · exact ⟨_, (lk_T hb.1 hp.1 36 (by decide)).trans (hp.2 36 (by decide)).2, fun _ _ h => h⟩
  · exact ⟨_, (lk_T hb.1 hp.1 37 (by decide)).trans (hp.2 37 (by decide)).2, fun _ _ h => h⟩
  · exact ⟨_, (lk_T hb.1 hp.1 38 (by decide)).trans (hp.2 38 (by decide)).2, fun _ _ h => h⟩
  · exact ⟨_, (lk_T hb.1 hp.1 39 (by decide)).trans (hp.2 39 (by decide)).2, fun _ _ h => h⟩
theorem wld {D : va_G} {C : Nat → ClassId} {Aw : Nat → Prop} {Ln : Nat} {xs : Nat → Int32} {α : Nat → Nat} {R T : va_W} {f g : Nat → Option Nat} (hb : bdsI C R f (fun j => α (49 + j)) (fun j => α (57 + j)) 8) (hp : plsI T g (fun j => α (65 + j)) 40) : wOK (α, D, C, Aw, Ln, xs) ((A10 α :: (((α 3, .inl (C 4, 40, .inr (.inr (.inr (.inr g))))) :: (((α 2, .inl (C 3, 8, .inr (.inr (.inr (.inr f))))) :: R) ++ T)) ++ E10 C α)) ++ M11 C α) := by
  intro o ho
  rcases Nat.lt_or_ge o 49 with z | z
  · exact wld_a hb hp o (by omega) (by omega)
  · rcases Nat.lt_or_ge o 65 with y | y
    · exact wld_b hb hp o (by omega) (by omega)
    · exact wld_c hb hp o (by omega) (by omega)

