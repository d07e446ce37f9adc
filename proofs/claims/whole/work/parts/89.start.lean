/-! the start -/
def a0 : Ab := ((0, fun _ => (0, 0, 0, 0, false)), (fun _ => (0, 0, fun _ => 0)), 0, (0, fun _ => 0), (0, 1, 0), none)
theorem s0_big {o : Nat} (h : 24 ≤ o) : s0.1 o = fun _ => 0 := by
  unfold s0
  dsimp only
  split <;> first | (exfalso; omega) | rfl
theorem rC_0 : rC s0 a0 := by
  refine ⟨⟨rfl, fun i hi => absurd hi (by show ¬ i < 0; omega)⟩, fun b hb => ⟨?_, fun z => absurd rfl z⟩, rfl, ⟨rfl, fun j hj => absurd hj (by show ¬ j < 0; omega), rfl⟩, ⟨rfl, rfl, rfl⟩, rfl, CA_none rfl rfl rfl rfl rfl, fun o h1 h2 => Or.inl ?_⟩
  · rw [s0_big (by omega)]; rfl
  · rcases h1 with rfl | h1
    · rfl
    · rw [s0_big (by omega)]
theorem rM_0 : rM s0 a0 := ⟨⟨rfl, fun i hi => absurd hi (by show ¬ i < 0; omega)⟩, fun b hb => ⟨rfl, fun z => absurd rfl z⟩, rfl, ⟨rfl, fun j hj => absurd hj (by show ¬ j < 0; omega), rfl⟩, ⟨rfl, rfl, rfl⟩, (by show (-1000000 : Int32).toInt < 0; decide), fun i hi => Or.inl rfl⟩
theorem ab_0 : abOk a0 := by
  refine ⟨by show 0 ≤ 40; omega, fun i hi => absurd hi (by show ¬ i < 0; omega), fun b hb => ⟨by show 0 ≤ (0 : Int32).toInt; decide, by show (0 : Int32).toInt ≤ 3; decide, fun z => absurd rfl z⟩, by show 0 ≤ 16; omega, ?_, ?_, ?_, trivial⟩
  · show -1000000 ≤ (0 : Int32).toInt ∧ (0 : Int32).toInt ≤ 1000000; decide
  · show -1000000 ≤ (1 : Int32).toInt ∧ (1 : Int32).toInt ≤ 1000000; decide
  · show -1000000 ≤ (0 : Int32).toInt ∧ (0 : Int32).toInt ≤ 1000000; decide
theorem wOK_RH {G : Gx} {w : va_W} {A : Nat → Prop} {H0 H : Heap} {locs : List Loc} (h : wOK G w) (hA : G.2.2.2.1 = A) (hR : RY G.2.1 A w H0 H locs) : RH G s0 H0 H locs := by
  subst hA
  refine ⟨fun k q hk => ?_, ⟨fun i j p q h1 h2 e => ?_, fun k q hk => ?_⟩, hR.2.2⟩
  · have hl : k < 105 := by have := (List.getElem?_eq_some_iff.mp hk).1; unfold wsG at this; simpa using this
    rw [ws_at hl] at hk
    cases hk
    obtain ⟨x, h1, h2⟩ := h k hl
    exact h2 _ _ (hR.1 _ _ h1)
  · have hi : i < 105 := by have := (List.getElem?_eq_some_iff.mp h1).1; unfold wsG at this; simpa using this
    have hj : j < 105 := by have := (List.getElem?_eq_some_iff.mp h2).1; unfold wsG at this; simpa using this
    rw [ws_at hi] at h1
    rw [ws_at hj] at h2
    cases h1
    cases h2
    obtain ⟨x, k1, _⟩ := h i hi
    obtain ⟨y, k2, _⟩ := h j hj
    exact pi_inj i hi j hj (hR.2.1.1 _ _ _ _ k1 k2 e)
  · have hl : k < 105 := by have := (List.getElem?_eq_some_iff.mp hk).1; unfold wsG at this; simpa using this
    rw [ws_at hl] at hk
    cases hk
    obtain ⟨x, h1, h2⟩ := h k hl
    have h3 := hR.2.1.2 _ _ h1
    exact h3

