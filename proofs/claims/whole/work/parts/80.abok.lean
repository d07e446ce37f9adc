/-! what every call keeps -/
theorem ab_stat {a : Ab} {f : Int32} (h : abOk a) : abOk (stat a f) := h
theorem ab_bed {a : Ab} {k : Nat} {q : Bd} (h : abOk a) (hq : bdOk q) : abOk (bedTo a k q) := ⟨h.1, h.2.1, fun b hb => by
  show bdOk (va_up a.2.1 k q b)
  by_cases e : b = k
  · rw [e, va_up_self]; exact hq
  · rw [va_up_ne _ _ e]; exact h.2.2.1 b hb, h.2.2.2⟩
theorem ab_pl {a : Ab} {n : Nat} {pt : Nat → Pt} {f : Int32} {u : Option (Nat × Bool × Pt)} (h : abOk a) (hn : n ≤ 40) (hp : ∀ i, i < n → ptOk (pt i)) (hu : unOk n pt u) : abOk (plTo a n pt f u) := ⟨hn, hp, h.2.2.1, h.2.2.2.1, h.2.2.2.2.1, h.2.2.2.2.2.1, h.2.2.2.2.2.2.1, hu⟩
theorem ab_ln {a : Ab} {f : Int32} {t : Int × Int × Int} (h : abOk a) (hb : t.1.natAbs ≤ 1000000 ∧ t.2.1.natAbs ≤ 1000000 ∧ t.2.2.natAbs ≤ 1000000) : abOk (lnTo a f t) := by
  refine ⟨h.1, h.2.1, h.2.2.1, h.2.2.2.1, ?_, ?_, ?_, h.2.2.2.2.2.2.2⟩
  · show lnOk (Int32.ofInt t.1)
    unfold lnOk
    rw [Int32.toInt_ofInt_of_le (by omega) (by omega)]; omega
  · show lnOk (Int32.ofInt t.2.1)
    unfold lnOk
    rw [Int32.toInt_ofInt_of_le (by omega) (by omega)]; omega
  · show lnOk (Int32.ofInt t.2.2)
    unfold lnOk
    rw [Int32.toInt_ofInt_of_le (by omega) (by omega)]; omega
theorem ab_tr {a : Ab} {f : Int32} {bs : List Int32} (h : abOk a) (hb : bs.length ≤ 16) : abOk (trTo a f bs) := ⟨h.1, h.2.1, h.2.2.1, hb, h.2.2.2.2.1, h.2.2.2.2.2.1, h.2.2.2.2.2.2.1, h.2.2.2.2.2.2.2⟩
theorem ab_sBed {a : Ab} {b l n : Int32} (h : abOk a) : abOk (sBed a b l n).2 := by
  unfold sBed
  split
  · exact h
  · split
    · exact ab_stat h
    · rename_i h1 h2
      have e : (l + 1).toInt = l.toInt + 1 := by rw [t32_add (y := 1)] <;> (have : (1 : Int32).toInt = 1 := rfl) <;> omega
      refine ab_bed h ⟨?_, ?_, fun _ => ?_⟩
      · show 0 ≤ (l + 1).toInt; omega
      · show (l + 1).toInt ≤ 3; omega
      · show 0 ≤ n.toInt ∧ n.toInt ≤ 100; omega
theorem ab_sSet {a : Ab} {b i : Int32} {v : Int64} (h : abOk a) : abOk (sSet a b i v).2 := by
  unfold sSet
  split
  · exact h
  · split
    · exact ab_stat h
    · split
      · exact ab_stat h
      · rename_i h1 h2 h3
        have hb := h.2.2.1 b.toInt.toNat (by omega)
        exact ab_bed h ⟨hb.1, hb.2.1, fun _ => hb.2.2 h2⟩
theorem ab_sDrop {a : Ab} {b : Int32} (h : abOk a) : abOk (sDrop a b).2 := by
  unfold sDrop
  split
  · exact h
  · split
    · exact ab_stat h
    · exact ab_bed h ⟨by show 0 ≤ (0 : Int32).toInt; decide, by show (0 : Int32).toInt ≤ 3; decide, fun z => absurd rfl z⟩
theorem ab_sCopy {a : Ab} {p i q j n : Int32} (h : abOk a) : abOk (sCopy a p i q j n).2 := by
  unfold sCopy
  split
  · exact h
  · split
    · exact ab_stat h
    · split
      · exact ab_stat h
      · split
        · exact ab_stat h
        · rename_i h1 h2 h3 h4
          have hb := h.2.2.1 q.toInt.toNat (by omega)
          exact ab_bed h ⟨hb.1, hb.2.1, fun z => hb.2.2 z⟩
theorem i64_32 {v : Int64} (h1 : -300 ≤ v.toInt) (h2 : v.toInt ≤ 300) : v.toInt32.toInt = v.toInt := by
  rw [Int64.toInt_toInt32]
  exact Int.bmod_eq_of_le (by omega) (by omega)
theorem ab_sPlant {a : Ab} {b i k : Int32} (h : abOk a) : abOk (sPlant a b i k).2 := by
  unfold sPlant
  split
  · exact h
  · split
    · exact h
    · split
      · exact ab_stat h
      · split
        · exact ab_stat h
        · split
          · exact h
          · rename_i h1 h2 h3 h4 h5
            have hn := h.1
            generalize (a.2.1 b.toInt.toNat).2.2 i.toInt.toNat = X at *
            generalize (a.2.1 b.toInt.toNat).2.2 (i.toInt.toNat + 1) = Y at *
            refine ab_pl h (by omega) (fun j hj => ?_) ⟨by omega, fun _ => rfl, (fun z => by cases z)⟩
            rcases Nat.lt_or_ge j a.1.1 with g | g
            · rw [va_up_ne _ _ (by omega)]; exact h.2.1 j g
            · rw [show j = a.1.1 by omega, va_up_self]
              have e1 := i64_32 (v := X) (by omega) (by omega)
              have e2 := i64_32 (v := Y) (by omega) (by omega)
              unfold ptOk
              dsimp only
              have : (0 : Int32).toInt = 0 := rfl
              omega
theorem ab_giv {a : Ab} {p : Int32} {g : Bool} {f : Nat → Int × Ab} (h : abOk a) (hf : ∀ i, i < a.1.1 → g = true → abOk (f i).2) : abOk (sGiv a p g f).2 := by
  unfold sGiv
  split
  · exact h
  · split
    · exact ab_stat h
    · rename_i h1 h2
      refine hf _ ?_ ?_
      · omega
      · cases hg : g with
        | true => rfl
        | false => exact absurd (Or.inr hg) h1
theorem pt_upd {n i : Nat} {pt : Nat → Pt} {q : Pt} (hp : ∀ j, j < n → ptOk (pt j)) (hq : ptOk q) : ∀ j, j < n → ptOk (va_up pt i q j) := fun j hj => by
  by_cases e : j = i
  · rw [e, va_up_self]; exact hq
  · rw [va_up_ne _ _ e]; exact hp j hj
theorem un_upd {n i : Nat} {pt : Nat → Pt} {q : Pt} (hp : ∀ j, j < n → ptOk (pt j)) (hi : i < n) (hk : q.2.2.1 = (pt i).2.2.1) : unOk n (va_up pt i q) (some (i, false, pt i)) := ⟨hi, (fun z => by cases z), fun _ => ⟨hp i hi, by rw [va_up_self]; exact hk.symm⟩⟩
theorem ab_sMove {a : Ab} {p x y : Int32} (h : abOk a) : abOk (sMove a p x y).2 := by
  unfold sMove
  refine ab_giv h (fun i hi _ => ?_)
  split
  · exact h
  · rename_i h1
    have hp := h.2.1 i hi
    refine ab_pl h h.1 (pt_upd h.2.1 ?_) (un_upd h.2.1 hi rfl)
    have e1 : ((a.1.2 i).1 + x).toInt = (a.1.2 i).1.toInt + x.toInt := t32_add (by omega) (by omega)
    have e2 : ((a.1.2 i).2.1 + y).toInt = (a.1.2 i).2.1.toInt + y.toInt := t32_add (by omega) (by omega)
    unfold ptOk at hp ⊢
    dsimp only
    omega
theorem ab_sAway {a : Ab} {p : Int32} (h : abOk a) : abOk (sAway a p).2 := by
  unfold sAway
  refine ab_giv h (fun i hi _ => ?_)
  have hp := h.2.1 i hi
  exact ab_pl h h.1 (pt_upd h.2.1 hp) (un_upd h.2.1 hi rfl)
theorem ab_sColour {a : Ab} {p c : Int32} (h : abOk a) : abOk (sColour a p c).2 := by
  unfold sColour
  refine ab_giv h (fun i hi hg => ?_)
  split
  · exact ab_stat h
  · have hp := h.2.1 i hi
    have hc : 0 ≤ c.toInt ∧ c.toInt < 3 := of_decide_eq_true hg
    refine ab_pl h h.1 (pt_upd h.2.1 ?_) (un_upd h.2.1 hi rfl)
    unfold ptOk at hp ⊢
    dsimp only
    omega
theorem ab_sTold {a : Ab} {p w : Int32} (h : abOk a) : abOk (sTold a p w).2 := ab_giv h (fun _ _ _ => ab_stat h)
theorem ab_sIs {a : Ab} {p k : Int32} (h : abOk a) : abOk (sIs a p k).2 := ab_giv h (fun _ _ _ => ab_stat h)
theorem ab_sAsk {a : Ab} {p w : Int32} (h : abOk a) : abOk (sAsk a p w).2 := by
  unfold sAsk
  split
  · exact h
  · split
    · exact ab_tr h (by decide)
    · exact ab_tr h (by have := asB_len w.toInt (a.1.2 p.toInt.toNat).2.2.1.toInt (a.1.2 p.toInt.toNat).2.2.2.1.toInt; omega)
theorem ab_sUndo {a : Ab} (h : abOk a) : abOk (sUndo a).2 := by
  have hu := h.2.2.2.2.2.2.2
  have hn := h.1
  unfold sUndo
  split
  · exact h
  · rename_i u nw p e
    rw [e] at hu
    obtain ⟨h1, h2, h3⟩ := hu
    cases nw with
    | true => exact ab_pl h (show a.1.1 - 1 ≤ 40 by omega) (fun i hi => h.2.1 i (by have : i < a.1.1 - 1 := hi; omega)) trivial
    | false => exact ab_pl h (show a.1.1 ≤ 40 from hn) (pt_upd h.2.1 (h3 rfl).1) trivial
theorem ab_sLine {a : Ab} {x y z : Int32} (h : abOk a) : abOk (sLine a x y z).2 := by
  unfold sLine
  split
  · exact h
  · split
    · exact h
    · rename_i h1 h2
      have hg := g3_pos (A := x.toInt) (B := y.toInt) z.toInt (by omega)
      exact ab_ln h ⟨tdiv_abs hg (by omega), tdiv_abs hg (by omega), tdiv_abs hg (by omega)⟩
theorem ab_sThrough {a : Ab} {p q : Int32} (h : abOk a) : abOk (sThrough a p q).2 := by
  unfold sThrough
  split
  · exact h
  · split
    · exact ab_stat h
    · split
      · exact h
      · rename_i h1 h2 h3
        have k1 := h.2.1 p.toInt.toNat (by omega)
        have k2 := h.2.1 q.toInt.toNat (by omega)
        unfold ptOk at k1 k2
        have := lnT_abs (x1 := (a.1.2 p.toInt.toNat).1.toInt) (y1 := (a.1.2 p.toInt.toNat).2.1.toInt) (x2 := (a.1.2 q.toInt.toNat).1.toInt) (y2 := (a.1.2 q.toInt.toNat).2.1.toInt) (by omega) (by omega) (by omega) (by omega) (by omega)
        exact ab_ln h ⟨by omega, by omega, by omega⟩
theorem ab_sFurrow {a : Ab} {k : Int32} (h : abOk a) : abOk (sFurrow a k).2 := by
  unfold sFurrow
  split
  · exact h
  · split
    · exact h
    · split
      · exact h
      · rename_i h1 h2 h3
        exact ab_ln h (kFur_ab h.2.1 (by omega) (by omega))
/-- the class holds the same if its objects are the same -/
theorem rC_cong {σ τ : Sg} {a : Ab} (h : eqC σ τ) (hr : rC σ a) : rC τ a := by
  obtain ⟨r1, r2, r3, r4, r5, r6, r7, r8⟩ := hr
  have lo : ∀ o, 2 ≤ o → o ≤ 30 → τ.1 o = σ.1 o ∧ τ.2 o = σ.2 o := fun o h1 h2 => h o (by
    unfold isM
    have e1 : (o == 1) = false := by simp; omega
    have e2 : Nat.ble 31 o = false := by
      cases hb : Nat.ble 31 o with
      | false => rfl
      | true => have := Nat.le_of_ble_eq_true hb; omega
    simp [e1, e2])
  have hi : ∀ o, 49 ≤ o → τ.1 o = σ.1 o ∧ τ.2 o = σ.2 o := fun o h1 => h o (isM_big h1)
  have z0 := h 0 rfl
  refine ⟨rcP_cong (by rw [z0.1]) (fun i _ => (hi _ (by omega)).1) r1, rcB_cong (fun o h1 _ => hi o h1) r2, by rw [z0.1]; exact r3, rcT_cong (fun o h1 h2 => (lo o (by omega) (by omega)).1) r4, rcL_cong (lo 10 (by omega) (by omega)).1 r5, rcU_cong (lo 4 (by omega) (by omega)).1 (lo 5 (by omega) (by omega)).1 r6, CA_cong (fun o h1 h2 => lo o (by omega) h2) r7, fun o h1 h2 => ?_⟩
  rcases h1 with rfl | h1
  · rw [(lo 5 (by omega) (by omega)).1]; exact r8 5 (Or.inl rfl) h2
  · rw [(hi o (by omega)).1]; exact r8 o (Or.inr h1) h2
