set_option maxRecDepth 20000 in
set_option maxHeartbeats 4000000 in
theorem wld_a {D : va_G} {C : Nat → ClassId} {Aw : Nat → Prop} {Ln : Nat} {xs : Nat → Int32} {α : Nat → Nat} {R T : va_W} {f g : Nat → Option Nat} (hb : bdsI C R f (fun j => α (49 + j)) (fun j => α (57 + j)) 8) (hp : plsI T g (fun j => α (65 + j)) 40) (o : Nat) (h1 : 0 ≤ o) (h2 : o ≤ 48) : ∃ x, ((A10 α :: (((α 3, .inl (C 4, 40, .inr (.inr (.inr (.inr g))))) :: (((α 2, .inl (C 3, 8, .inr (.inr (.inr (.inr f))))) :: R) ++ T)) ++ E10 C α)) ++ M11 C α)[piX o]? = some (α o, x) ∧ ∀ (D' : va_G) (H : Heap), va_at D' vwCl (α o, x) H → va_at D' vwCl (α o, cel (α, D, C, Aw, Ln, xs) s0 o) H := by
  rcases (show o = 0 ∨ o = 1 ∨ o = 2 ∨ o = 3 ∨ o = 4 ∨ o = 5 ∨ o = 6 ∨ o = 7 ∨ o = 8 ∨ o = 9 ∨ o = 10 ∨ o = 11 ∨ o = 12 ∨ o = 13 ∨ o = 14 ∨ o = 15 ∨ o = 16 ∨ o = 17 ∨ o = 18 ∨ o = 19 ∨ o = 20 ∨ o = 21 ∨ o = 22 ∨ o = 23 ∨ o = 24 ∨ o = 25 ∨ o = 26 ∨ o = 27 ∨ o = 28 ∨ o = 29 ∨ o = 30 ∨ o = 31 ∨ o = 32 ∨ o = 33 ∨ o = 34 ∨ o = 35 ∨ o = 36 ∨ o = 37 ∨ o = 38 ∨ o = 39 ∨ o = 40 ∨ o = 41 ∨ o = 42 ∨ o = 43 ∨ o = 44 ∨ o = 45 ∨ o = 46 ∨ o = 47 ∨ o = 48 by omega) with rfl | rfl | rfl | rfl | rfl | rfl | rfl | rfl | rfl | rfl | rfl | rfl | rfl | rfl | rfl | rfl | rfl | rfl | rfl | rfl | rfl | rfl | rfl | rfl | rfl | rfl | rfl | rfl | rfl | rfl | rfl | rfl | rfl | rfl | rfl | rfl | rfl | rfl | rfl | rfl | rfl | rfl | rfl | rfl | rfl | rfl | rfl | rfl | rfl
  · exact ⟨_, rfl, fun _ _ h => h⟩
  · exact ⟨_, (lk_M hb.1 hp.1 rfl 0).trans rfl, fun _ _ h => h⟩
  · exact ⟨_, rfl, fun _ _ h => at_beds (fun j hj => (hb.2 j hj).1) h⟩
  · exact ⟨_, rfl, fun _ _ h => at_plts (fun j hj => (hp.2 j hj).1) h⟩
  · exact ⟨_, (lk_E hb.1 hp.1 rfl 0 (by decide)).trans rfl, fun _ _ h => h⟩
  · exact ⟨_, (lk_E hb.1 hp.1 rfl 1 (by decide)).trans rfl, fun _ _ h => h⟩
  · exact ⟨_, (lk_E hb.1 hp.1 rfl 2 (by decide)).trans rfl, fun _ _ h => h⟩
  · exact ⟨_, (lk_E hb.1 hp.1 rfl 3 (by decide)).trans rfl, fun _ _ h => h⟩
  · exact ⟨_, (lk_E hb.1 hp.1 rfl 4 (by decide)).trans rfl, fun _ _ h => h⟩
  · exact ⟨_, (lk_E hb.1 hp.1 rfl 5 (by decide)).trans rfl, fun _ _ h => h⟩
  · exact ⟨_, (lk_E hb.1 hp.1 rfl 6 (by decide)).trans rfl, fun _ _ h => h⟩
  · exact ⟨_, (lk_E hb.1 hp.1 rfl 7 (by decide)).trans rfl, fun _ _ h => h⟩
  · exact ⟨_, (lk_E hb.1 hp.1 rfl 8 (by decide)).trans rfl, fun _ _ h => h⟩
  · exact ⟨_, (lk_E hb.1 hp.1 rfl 9 (by decide)).trans rfl, fun _ _ h => h⟩
  · exact ⟨_, (lk_E hb.1 hp.1 rfl 10 (by decide)).trans rfl, fun _ _ h => h⟩
  · exact ⟨_, (lk_E hb.1 hp.1 rfl 11 (by decide)).trans rfl, fun _ _ h => h⟩
  · exact ⟨_, (lk_E hb.1 hp.1 rfl 12 (by decide)).trans rfl, fun _ _ h => h⟩
  · exact ⟨_, (lk_E hb.1 hp.1 rfl 13 (by decide)).trans rfl, fun _ _ h => h⟩
  · exact ⟨_, (lk_E hb.1 hp.1 rfl 14 (by decide)).trans rfl, fun _ _ h => h⟩
  · exact ⟨_, (lk_E hb.1 hp.1 rfl 15 (by decide)).trans rfl, fun _ _ h => h⟩
  · exact ⟨_, (lk_E hb.1 hp.1 rfl 16 (by decide)).trans rfl, fun _ _ h => h⟩
  · exact ⟨_, (lk_E hb.1 hp.1 rfl 17 (by decide)).trans rfl, fun _ _ h => h⟩
  · exact ⟨_, (lk_E hb.1 hp.1 rfl 18 (by decide)).trans rfl, fun _ _ h => h⟩
  · exact ⟨_, (lk_E hb.1 hp.1 rfl 19 (by decide)).trans rfl, fun _ _ h => h⟩
  · exact ⟨_, (lk_E hb.1 hp.1 rfl 20 (by decide)).trans rfl, fun _ _ h => h⟩
  · exact ⟨_, (lk_E hb.1 hp.1 rfl 21 (by decide)).trans rfl, fun _ _ h => h⟩
  · exact ⟨_, (lk_E hb.1 hp.1 rfl 22 (by decide)).trans rfl, fun _ _ h => h⟩
  · exact ⟨_, (lk_E hb.1 hp.1 rfl 23 (by decide)).trans rfl, fun _ _ h => h⟩
  · exact ⟨_, (lk_E hb.1 hp.1 rfl 24 (by decide)).trans rfl, fun _ _ h => h⟩
  · exact ⟨_, (lk_E hb.1 hp.1 rfl 25 (by decide)).trans rfl, fun _ _ h => h⟩
  · exact ⟨_, (lk_E hb.1 hp.1 rfl 26 (by decide)).trans rfl, fun _ _ h => h⟩
  · exact ⟨_, (lk_M hb.1 hp.1 rfl 1).trans rfl, fun _ _ h => h⟩
  · exact ⟨_, (lk_M hb.1 hp.1 rfl 2).trans rfl, fun _ _ h => h⟩
  · exact ⟨_, (lk_M hb.1 hp.1 rfl 3).trans rfl, fun _ _ h => h⟩
  · exact ⟨_, (lk_M hb.1 hp.1 rfl 4).trans rfl, fun _ _ h => h⟩
  · exact ⟨_, (lk_M hb.1 hp.1 rfl 5).trans rfl, fun _ _ h => h⟩
  · exact ⟨_, (lk_M hb.1 hp.1 rfl 6).trans rfl, fun _ _ h => h⟩
  · exact ⟨_, (lk_M hb.1 hp.1 rfl 7).trans rfl, fun _ _ h => h⟩
  · exact ⟨_, (lk_M hb.1 hp.1 rfl 8).trans rfl, fun _ _ h => h⟩
  · exact ⟨_, (lk_M hb.1 hp.1 rfl 9).trans rfl, fun _ _ h => h⟩
  · exact ⟨_, (lk_M hb.1 hp.1 rfl 10).trans rfl, fun _ _ h => h⟩
  · exact ⟨_, (lk_M hb.1 hp.1 rfl 11).trans rfl, fun _ _ h => h⟩
  · exact ⟨_, (lk_M hb.1 hp.1 rfl 12).trans rfl, fun _ _ h => h⟩
  · exact ⟨_, (lk_M hb.1 hp.1 rfl 13).trans rfl, fun _ _ h => h⟩
  · exact ⟨_, (lk_M hb.1 hp.1 rfl 14).trans rfl, fun _ _ h => h⟩
  · exact ⟨_, (lk_M hb.1 hp.1 rfl 15).trans rfl, fun _ _ h => h⟩
  · exact ⟨_, (lk_M hb.1 hp.1 rfl 16).trans rfl, fun _ _ h => h⟩
  · exact ⟨_, (lk_M hb.1 hp.1 rfl 17).trans rfl, fun _ _ h => h⟩
  · exact ⟨_, (lk_M hb.1 hp.1 rfl 18).trans rfl, fun _ _ h => h⟩
