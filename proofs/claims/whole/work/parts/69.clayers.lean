/-! layers in the class -/
def exB (P : List Nat) (φ : Nat → Prop) (k : Nat) : Prop := ∃ j s, j < k ∧ P[j]? = some s ∧ φ s
theorem exB_0 {P : List Nat} {φ : Nat → Prop} : ¬ exB P φ 0 := fun ⟨_, _, h, _⟩ => absurd h (by omega)
theorem exB_succ {P : List Nat} {φ : Nat → Prop} {k s : Nat} (h : P[k]? = some s) : exB P φ (k + 1) ↔ exB P φ k ∨ φ s := by
  constructor
  · rintro ⟨j, t, h1, h2, h3⟩
    rcases Nat.lt_or_ge j k with h9 | h9
    · exact Or.inl ⟨j, t, h9, h2, h3⟩
    · have e : j = k := by omega
      subst e
      rw [h] at h2
      cases h2
      exact Or.inr h3
  · rintro (⟨j, t, h1, h2, h3⟩ | h3)
    · exact ⟨j, t, by omega, h2, h3⟩
    · exact ⟨k, s, by omega, h, h3⟩
theorem exB_all {P : List Nat} {φ : Nat → Prop} {k : Nat} (hk : P.length ≤ k) : exB P φ k ↔ ∃ s ∈ P, φ s := by
  constructor
  · rintro ⟨j, t, h1, h2, h3⟩
    exact ⟨t, List.mem_of_getElem? h2, h3⟩
  · rintro ⟨s, hs, h3⟩
    obtain ⟨j, hj⟩ := List.getElem?_of_mem hs
    exact ⟨j, s, by have := (List.getElem?_eq_some_iff.mp hj).1; omega, hj, h3⟩
theorem exB_in {P : List Nat} {φ : Nat → Prop} {k : Nat} (h : exB P φ k) : ∃ s ∈ P, φ s := by
  obtain ⟨j, t, h1, h2, h3⟩ := h
  exact ⟨t, List.mem_of_getElem? h2, h3⟩
/-- the row of layers in the midst of a round -/
def mix (σ : Sg) (n : Nat) (pt : Nat → Pt) (r i : Nat) : Prop := ∀ j p, (prs n pt)[j]? = some p → (σ.1 25 j).toInt = ((if j < i then LY (prs n pt) pt (r + 1) p else LY (prs n pt) pt r p : Nat) : Int)
theorem mix_in {σ : Sg} {n r i j p : Nat} {pt : Nat → Pt} (h : mix σ n pt r i) (hj : (prs n pt)[j]? = some p) : ((σ.1 25 j).toInt = 0 ∨ (σ.1 25 j).toInt = (r : Int) + 1) ↔ LY (prs n pt) pt r p = 0 := by
  have h1 := h j p hj
  have h2 := LY_le (prs n pt) pt r p
  by_cases hc : j < i
  · rw [if_pos hc] at h1
    rw [← LY_in (r := r)]
    omega
  · rw [if_neg hc] at h1
    omega
/-- all of a figure on one side -/
def oneS (F : List Nat) (pt : Nat → Pt) (p q : Nat) : Prop := (∀ k ∈ F, crs (pt p) (pt q) (pt k) ≤ 0) ∨ ∀ k ∈ F, 0 ≤ crs (pt p) (pt q) (pt k)
def fL (n : Nat) (pt : Nat → Pt) (r p q s : Nat) : Prop := LY (prs n pt) pt r s = 0 ∧ 0 < crs (pt p) (pt q) (pt s)
def fR (n : Nat) (pt : Nat → Pt) (r p q s : Nat) : Prop := LY (prs n pt) pt r s = 0 ∧ crs (pt p) (pt q) (pt s) < 0
def fA (n : Nat) (pt : Nat → Pt) (r p s : Nat) : Prop := LY (prs n pt) pt r s = 0 ∧ apt (pt p) (pt s) = true
def fO (n : Nat) (pt : Nat → Pt) (r p s : Nat) : Prop := LY (prs n pt) pt r s = 0 ∧ apt (pt p) (pt s) = true ∧ oneS (fgr (prs n pt) pt r) pt p s
theorem oneS_iff {n r p q : Nat} {pt : Nat → Pt} : oneS (fgr (prs n pt) pt r) pt p q ↔ ¬ ((∃ s ∈ prs n pt, fL n pt r p q s) ∧ ∃ s ∈ prs n pt, fR n pt r p q s) := by
  unfold oneS
  rw [one_side]
  constructor
  · rintro h ⟨⟨s, h1, h2, h3⟩, ⟨t, g1, g2, g3⟩⟩
    exact h ⟨⟨s, fgr_mem.mpr ⟨h1, h2⟩, h3⟩, ⟨t, fgr_mem.mpr ⟨g1, g2⟩, g3⟩⟩
  · rintro h ⟨⟨s, h1, h3⟩, ⟨t, g1, g3⟩⟩
    exact h ⟨⟨s, (fgr_mem.mp h1).1, (fgr_mem.mp h1).2, h3⟩, ⟨t, (fgr_mem.mp g1).1, (fgr_mem.mp g1).2, g3⟩⟩
theorem onE_ex {n r p : Nat} {pt : Nat → Pt} : onE (fgr (prs n pt) pt r) pt p = true ↔ (¬ ∃ s ∈ prs n pt, fA n pt r p s) ∨ ∃ s ∈ prs n pt, fO n pt r p s := by
  rw [onE_iff]
  constructor
  · rintro (h | ⟨q, h1, h2, h3⟩)
    · refine Or.inl ?_
      rintro ⟨s, g1, g2, g3⟩
      rw [h s (fgr_mem.mpr ⟨g1, g2⟩)] at g3
      cases g3
    · exact Or.inr ⟨q, (fgr_mem.mp h1).1, (fgr_mem.mp h1).2, h2, h3⟩
  · rintro (h | ⟨q, h1, h2, h3, h4⟩)
    · refine Or.inl (fun q hq => ?_)
      cases ha : apt (pt p) (pt q) with
      | false => rfl
      | true => exact absurd ⟨q, (fgr_mem.mp hq).1, (fgr_mem.mp hq).2, ha⟩ h
    · exact Or.inr ⟨q, fgr_mem.mpr ⟨h1, h2⟩, h3, h4⟩

theorem c_X3_isIn {l : Launch} {G : Gx} {d : Nat} {σ : Sg} {Q : Option Value → Sg → Prop} {n r i j p : Nat} {pt : Nat → Pt} {x1 x2 : Int32} (hm : mix σ n pt r i) (hn : n ≤ 40) (hj : (prs n pt)[j]? = some p) (hx : x1.toInt = (j : Int)) (h2 : x2.toInt = (r : Int) + 1) (ht : LY (prs n pt) pt r p = 0 → Q (some (.int 1)) σ) (hf : LY (prs n pt) pt r p ≠ 0 → Q (some (.int 0)) σ) : Z l G M_X3_isIn (d) 0 [some (.ref 24), some (.int x1), some (.int x2)] [] σ Q := by
  have hl := st_lt hn hj
  have hmi := mix_in hm hj
  refine z_sub (L' := [some (.ref 24), some (.int x1), some (.int x2)]) ⟨rfl, rfl, rfl, trivial⟩ ?_
  refine z_aload_n (pc := 0) dX3_isIn_0 rfl ?_
  refine z_getR (pc := 1) (t := 25) dX3_isIn_1 fk_X3_9 rfl (by decide) (by decide) (by decide) rfl ?_
  refine z_iload_n (pc := 4) dX3_isIn_4 rfl ?_
  refine z_ialdN (pc := 5) j dX3_isIn_5 rfl (by decide) hx (by show _ < 40; omega) ?_
  refine zq_if_eq (pc := 6) (tgt := 19) dX3_isIn_6 rfl rfl (fun h6 => ?_) (fun h6 => ?_)
  · skip
    refine z_iconst (pc := 19) (v := 1) dX3_isIn_19 (by decide) ?_
    refine z_goto (pc := 20) (tgt := 24) dX3_isIn_20 rfl ?_
    refine z_zret (pc := 24) dX3_isIn_24 rfl (by decide) ?_
    exact ht (hmi.mp (by omega))
  · skip
    refine z_aload_n (pc := 9) dX3_isIn_9 rfl ?_
    refine z_getR (pc := 10) (t := 25) dX3_isIn_10 fk_X3_9 rfl (by decide) (by decide) (by decide) rfl ?_
    refine z_iload_n (pc := 13) dX3_isIn_13 rfl ?_
    refine z_ialdN (pc := 14) j dX3_isIn_14 rfl (by decide) hx (by show _ < 40; omega) ?_
    refine z_iload_n (pc := 15) dX3_isIn_15 rfl ?_
    refine zq_icmp_ne (pc := 16) (tgt := 23) dX3_isIn_16 rfl rfl rfl (fun h16 => ?_) (fun h16 => ?_)
    · skip
      refine z_iconst (pc := 23) (v := 0) dX3_isIn_23 (by decide) ?_
      refine z_zret (pc := 24) dX3_isIn_24 rfl (by decide) ?_
      exact hf (fun z => by have := hmi.mpr z; omega)
    · skip
      refine z_iconst (pc := 19) (v := 1) dX3_isIn_19 (by decide) ?_
      refine z_goto (pc := 20) (tgt := 24) dX3_isIn_20 rfl ?_
      refine z_zret (pc := 24) dX3_isIn_24 rfl (by decide) ?_
      exact ht (hmi.mp (by omega))

theorem c_oneS_loop {l : Launch} {G : Gx} {d : Nat} {σ : Sg} {Q : Option Value → Sg → Prop} {n r i a b p q : Nat} {pt : Nat → Pt} {x2 x3 x4 : Int32} (hS : okStand σ n pt) (hP : ∀ i, i < n → ptOk (pt i)) (hn : n ≤ 40) (hm : mix σ n pt r i) (ha : (prs n pt)[a]? = some p) (hb : (prs n pt)[b]? = some q) (h2 : x2.toInt = (a : Int)) (h3 : x3.toInt = (b : Int)) (h4 : x4.toInt = (r : Int) + 1) (ht : oneS (fgr (prs n pt) pt r) pt p q → Q (some (.int 1)) σ) (hf : ¬ oneS (fgr (prs n pt) pt r) pt p q → Q (some (.int 0)) σ) : ∀ (f k : Nat) (x5 x6 x7 : Int32) (y8 : Option Value), x7.toInt = (k : Int) → k ≤ (prs n pt).length → (prs n pt).length - k < f → (x5.toInt ≠ 0 ↔ exB (prs n pt) (fL n pt r p q) k) → (x6.toInt ≠ 0 ↔ exB (prs n pt) (fR n pt r p q) k) → ¬ (x5.toInt ≠ 0 ∧ x6.toInt ≠ 0) → Z l G M_X3_isOneSided (d + 1) 9 [some (.ref 24), some (.ref 11), some (.int x2), some (.int x3), some (.int x4), some (.int x5), some (.int x6), some (.int x7), y8] [] σ Q := by
  intro f
  induction f with
  | zero => intro k x5 x6 x7 y8 hk hkl hfu e5 e6 e56; omega
  | succ f ih =>
  intro k x5 x6 x7 y8 hk hkl hfu e5 e6 e56
  refine z_sub (L' := [some _, some _, some _, some _, some _, some _, some _, some _, none]) ⟨rfl, rfl, rfl, rfl, rfl, rfl, rfl, rfl, trivial⟩ ?_
  have hpl := prs_len n pt
  have hSn := hS.1
  refine z_iload (pc := 9) dX3_isOneSided_9 rfl ?_
  refine z_aload_n (pc := 11) dX3_isOneSided_11 rfl ?_
  refine z_getI (pc := 12) dX3_isOneSided_12 fk_X3_19 rfl (by decide) (by decide) (by decide) ?_
  refine zq_icmp_ge (pc := 15) (tgt := 91) dX3_isOneSided_15 rfl rfl rfl (fun h15 => ?_) (fun h15 => ?_)
  · skip
    refine z_iconst (pc := 91) (v := 1) dX3_isOneSided_91 (by decide) ?_
    refine z_zret (pc := 92) dX3_isOneSided_92 rfl (by decide) ?_
    refine ht (oneS_iff.mpr (fun z => e56 ⟨e5.mpr ((exB_all (by omega)).mpr z.1), e6.mpr ((exB_all (by omega)).mpr z.2)⟩))
  · skip
    obtain ⟨s, hs⟩ := prs_get (pt := pt) (n := n) (j := k) (by omega)
    have sL := exB_succ (φ := fL n pt r p q) hs
    have sR := exB_succ (φ := fR n pt r p q) hs
    refine z_aload_n (pc := 18) dX3_isOneSided_18 rfl ?_
    refine z_iload (pc := 19) dX3_isOneSided_19 rfl ?_
    refine z_iload (pc := 21) dX3_isOneSided_21 rfl ?_
    refine z_iv2 (pc := 23) dX3_isOneSided_23 kv_X3_34 rfl (by decide) (by decide) rfl rfl ?_
    refine c_X3_isIn hm hn hs hk h4 (fun qi => ?_) (fun qi => ?_)
    · skip
      refine z_if_eq (pc := 26) (tgt := 85) dX3_isOneSided_26 rfl (fun hc => absurd hc (by decide)) (fun _ => ?_)
      refine z_aload_n (pc := 29) dX3_isOneSided_29 rfl ?_
      refine z_iload_n (pc := 30) dX3_isOneSided_30 rfl ?_
      refine z_iload_n (pc := 31) dX3_isOneSided_31 rfl ?_
      refine z_iload (pc := 32) dX3_isOneSided_32 rfl ?_
      refine z_iv3 (pc := 34) dX3_isOneSided_34 kv_X3_45 rfl (by decide) (by decide) rfl rfl ?_
      refine c_X7_turn hS hP hn ha hb h2 h3 hs hk (fun v ev => ?_)
      refine z_istore (pc := 37) dX3_isOneSided_37 rfl rfl (by dsimp only [setI, setL, List.set]) ?_
      refine z_iload (pc := 39) dX3_isOneSided_39 rfl ?_
      refine zq_if_ne (pc := 41) (tgt := 49) dX3_isOneSided_41 rfl rfl (fun h41 => ?_) (fun h41 => ?_)
      · skip
        refine z_iconst (pc := 49) (v := 1) dX3_isOneSided_49 (by decide) ?_
        refine z_goto (pc := 50) (tgt := 54) dX3_isOneSided_50 rfl ?_
        refine z_istore (pc := 54) dX3_isOneSided_54 rfl rfl (by dsimp only [setI, setL, List.set]) ?_
        refine z_iload (pc := 56) dX3_isOneSided_56 rfl ?_
        refine zq_if_ne (pc := 58) (tgt := 66) dX3_isOneSided_58 rfl rfl (fun h58 => ?_) (fun h58 => ?_)
        · skip
          refine z_iconst (pc := 66) (v := 1) dX3_isOneSided_66 (by decide) ?_
          refine z_goto (pc := 67) (tgt := 71) dX3_isOneSided_67 rfl ?_
          refine z_istore (pc := 71) dX3_isOneSided_71 rfl rfl (by dsimp only [setI, setL, List.set]) ?_
          refine z_iload (pc := 73) dX3_isOneSided_73 rfl ?_
          refine z_if_eq (pc := 75) (tgt := 85) dX3_isOneSided_75 rfl (fun hc => absurd hc (by decide)) (fun _ => ?_)
          refine z_iload (pc := 78) dX3_isOneSided_78 rfl ?_
          refine z_if_eq (pc := 80) (tgt := 85) dX3_isOneSided_80 rfl (fun hc => absurd hc (by decide)) (fun _ => ?_)
          refine z_iconst (pc := 83) (v := 0) dX3_isOneSided_83 (by decide) ?_
          refine z_zret (pc := 84) dX3_isOneSided_84 rfl (by decide) ?_
          exact hf (fun z => (oneS_iff.mp z) ⟨exB_in (e5.mp h41), exB_in (e6.mp h58)⟩)
        · skip
          refine z_iload (pc := 61) dX3_isOneSided_61 rfl ?_
          refine zq_if_ge (pc := 63) (tgt := 70) dX3_isOneSided_63 rfl rfl (fun h63 => ?_) (fun h63 => ?_)
          · skip
            refine z_iconst (pc := 70) (v := 0) dX3_isOneSided_70 (by decide) ?_
            refine z_istore (pc := 71) dX3_isOneSided_71 rfl rfl (by dsimp only [setI, setL, List.set]) ?_
            refine z_iload (pc := 73) dX3_isOneSided_73 rfl ?_
            refine z_if_eq (pc := 75) (tgt := 85) dX3_isOneSided_75 rfl (fun hc => absurd hc (by decide)) (fun _ => ?_)
            refine z_iload (pc := 78) dX3_isOneSided_78 rfl ?_
            refine z_if_eq (pc := 80) (tgt := 85) dX3_isOneSided_80 rfl (fun _ => ?_) (fun hc => absurd hc (by decide))
            refine z_iincT (pc := 85) dX3_isOneSided_85 rfl rfl (by decide) (by decide) (by omega) (by omega) rfl rfl (fun v => by dsimp only [setI, setL, List.set]) (fun v85 e85 => ?_)
            refine z_goto (pc := 88) (tgt := 9) dX3_isOneSided_88 rfl ?_
            have fL5 : (1 : Int32).toInt ≠ 0 ↔ exB (prs n pt) (fL n pt r p q) (k + 1) := ⟨fun _ => sL.mpr (Or.inl (e5.mp h41)), fun _ => (by decide)⟩
            have fR6 : (0 : Int32).toInt ≠ 0 ↔ exB (prs n pt) (fR n pt r p q) (k + 1) := ⟨fun z => absurd rfl z, fun z => by
              rcases sR.mp z with z | z
              · exact absurd (e6.mpr z) (by omega)
              · have := z.2; omega⟩
            exact ih (k + 1) 1 0 v85 _ (by omega) (by omega) (by omega) fL5 fR6 (by decide)
          · skip
            refine z_iconst (pc := 66) (v := 1) dX3_isOneSided_66 (by decide) ?_
            refine z_goto (pc := 67) (tgt := 71) dX3_isOneSided_67 rfl ?_
            refine z_istore (pc := 71) dX3_isOneSided_71 rfl rfl (by dsimp only [setI, setL, List.set]) ?_
            refine z_iload (pc := 73) dX3_isOneSided_73 rfl ?_
            refine z_if_eq (pc := 75) (tgt := 85) dX3_isOneSided_75 rfl (fun hc => absurd hc (by decide)) (fun _ => ?_)
            refine z_iload (pc := 78) dX3_isOneSided_78 rfl ?_
            refine z_if_eq (pc := 80) (tgt := 85) dX3_isOneSided_80 rfl (fun hc => absurd hc (by decide)) (fun _ => ?_)
            refine z_iconst (pc := 83) (v := 0) dX3_isOneSided_83 (by decide) ?_
            refine z_zret (pc := 84) dX3_isOneSided_84 rfl (by decide) ?_
            exact hf (fun z => (oneS_iff.mp z) ⟨exB_in (e5.mp h41), exB_in (sR.mpr (Or.inr ⟨qi, by omega⟩))⟩)
      · skip
        refine z_iload (pc := 44) dX3_isOneSided_44 rfl ?_
        refine zq_if_le (pc := 46) (tgt := 53) dX3_isOneSided_46 rfl rfl (fun h46 => ?_) (fun h46 => ?_)
        · skip
          refine z_iconst (pc := 53) (v := 0) dX3_isOneSided_53 (by decide) ?_
          refine z_istore (pc := 54) dX3_isOneSided_54 rfl rfl (by dsimp only [setI, setL, List.set]) ?_
          refine z_iload (pc := 56) dX3_isOneSided_56 rfl ?_
          refine zq_if_ne (pc := 58) (tgt := 66) dX3_isOneSided_58 rfl rfl (fun h58 => ?_) (fun h58 => ?_)
          · skip
            refine z_iconst (pc := 66) (v := 1) dX3_isOneSided_66 (by decide) ?_
            refine z_goto (pc := 67) (tgt := 71) dX3_isOneSided_67 rfl ?_
            refine z_istore (pc := 71) dX3_isOneSided_71 rfl rfl (by dsimp only [setI, setL, List.set]) ?_
            refine z_iload (pc := 73) dX3_isOneSided_73 rfl ?_
            refine z_if_eq (pc := 75) (tgt := 85) dX3_isOneSided_75 rfl (fun _ => ?_) (fun hc => absurd hc (by decide))
            refine z_iincT (pc := 85) dX3_isOneSided_85 rfl rfl (by decide) (by decide) (by omega) (by omega) rfl rfl (fun v => by dsimp only [setI, setL, List.set]) (fun v85 e85 => ?_)
            refine z_goto (pc := 88) (tgt := 9) dX3_isOneSided_88 rfl ?_
            have fL5 : (0 : Int32).toInt ≠ 0 ↔ exB (prs n pt) (fL n pt r p q) (k + 1) := ⟨fun z => absurd rfl z, fun z => by
              rcases sL.mp z with z | z
              · exact absurd (e5.mpr z) (by omega)
              · have := z.2; omega⟩
            have fR6 : (1 : Int32).toInt ≠ 0 ↔ exB (prs n pt) (fR n pt r p q) (k + 1) := ⟨fun _ => sR.mpr (Or.inl (e6.mp h58)), fun _ => (by decide)⟩
            exact ih (k + 1) 0 1 v85 _ (by omega) (by omega) (by omega) fL5 fR6 (by decide)
          · skip
            refine z_iload (pc := 61) dX3_isOneSided_61 rfl ?_
            refine zq_if_ge (pc := 63) (tgt := 70) dX3_isOneSided_63 rfl rfl (fun h63 => ?_) (fun h63 => ?_)
            · skip
              refine z_iconst (pc := 70) (v := 0) dX3_isOneSided_70 (by decide) ?_
              refine z_istore (pc := 71) dX3_isOneSided_71 rfl rfl (by dsimp only [setI, setL, List.set]) ?_
              refine z_iload (pc := 73) dX3_isOneSided_73 rfl ?_
              refine z_if_eq (pc := 75) (tgt := 85) dX3_isOneSided_75 rfl (fun _ => ?_) (fun hc => absurd hc (by decide))
              refine z_iincT (pc := 85) dX3_isOneSided_85 rfl rfl (by decide) (by decide) (by omega) (by omega) rfl rfl (fun v => by dsimp only [setI, setL, List.set]) (fun v85 e85 => ?_)
              refine z_goto (pc := 88) (tgt := 9) dX3_isOneSided_88 rfl ?_
              have fL5 : (0 : Int32).toInt ≠ 0 ↔ exB (prs n pt) (fL n pt r p q) (k + 1) := ⟨fun z => absurd rfl z, fun z => by
                rcases sL.mp z with z | z
                · exact absurd (e5.mpr z) (by omega)
                · have := z.2; omega⟩
              have fR6 : (0 : Int32).toInt ≠ 0 ↔ exB (prs n pt) (fR n pt r p q) (k + 1) := ⟨fun z => absurd rfl z, fun z => by
                rcases sR.mp z with z | z
                · exact absurd (e6.mpr z) (by omega)
                · have := z.2; omega⟩
              exact ih (k + 1) 0 0 v85 _ (by omega) (by omega) (by omega) fL5 fR6 (by decide)
            · skip
              refine z_iconst (pc := 66) (v := 1) dX3_isOneSided_66 (by decide) ?_
              refine z_goto (pc := 67) (tgt := 71) dX3_isOneSided_67 rfl ?_
              refine z_istore (pc := 71) dX3_isOneSided_71 rfl rfl (by dsimp only [setI, setL, List.set]) ?_
              refine z_iload (pc := 73) dX3_isOneSided_73 rfl ?_
              refine z_if_eq (pc := 75) (tgt := 85) dX3_isOneSided_75 rfl (fun _ => ?_) (fun hc => absurd hc (by decide))
              refine z_iincT (pc := 85) dX3_isOneSided_85 rfl rfl (by decide) (by decide) (by omega) (by omega) rfl rfl (fun v => by dsimp only [setI, setL, List.set]) (fun v85 e85 => ?_)
              refine z_goto (pc := 88) (tgt := 9) dX3_isOneSided_88 rfl ?_
              have fL5 : (0 : Int32).toInt ≠ 0 ↔ exB (prs n pt) (fL n pt r p q) (k + 1) := ⟨fun z => absurd rfl z, fun z => by
                rcases sL.mp z with z | z
                · exact absurd (e5.mpr z) (by omega)
                · have := z.2; omega⟩
              have fR6 : (1 : Int32).toInt ≠ 0 ↔ exB (prs n pt) (fR n pt r p q) (k + 1) := ⟨fun _ => sR.mpr (Or.inr ⟨qi, by omega⟩), fun _ => (by decide)⟩
              exact ih (k + 1) 0 1 v85 _ (by omega) (by omega) (by omega) fL5 fR6 (by decide)
        · skip
          refine z_iconst (pc := 49) (v := 1) dX3_isOneSided_49 (by decide) ?_
          refine z_goto (pc := 50) (tgt := 54) dX3_isOneSided_50 rfl ?_
          refine z_istore (pc := 54) dX3_isOneSided_54 rfl rfl (by dsimp only [setI, setL, List.set]) ?_
          refine z_iload (pc := 56) dX3_isOneSided_56 rfl ?_
          refine zq_if_ne (pc := 58) (tgt := 66) dX3_isOneSided_58 rfl rfl (fun h58 => ?_) (fun h58 => ?_)
          · skip
            refine z_iconst (pc := 66) (v := 1) dX3_isOneSided_66 (by decide) ?_
            refine z_goto (pc := 67) (tgt := 71) dX3_isOneSided_67 rfl ?_
            refine z_istore (pc := 71) dX3_isOneSided_71 rfl rfl (by dsimp only [setI, setL, List.set]) ?_
            refine z_iload (pc := 73) dX3_isOneSided_73 rfl ?_
            refine z_if_eq (pc := 75) (tgt := 85) dX3_isOneSided_75 rfl (fun hc => absurd hc (by decide)) (fun _ => ?_)
            refine z_iload (pc := 78) dX3_isOneSided_78 rfl ?_
            refine z_if_eq (pc := 80) (tgt := 85) dX3_isOneSided_80 rfl (fun hc => absurd hc (by decide)) (fun _ => ?_)
            refine z_iconst (pc := 83) (v := 0) dX3_isOneSided_83 (by decide) ?_
            refine z_zret (pc := 84) dX3_isOneSided_84 rfl (by decide) ?_
            exact hf (fun z => (oneS_iff.mp z) ⟨exB_in (sL.mpr (Or.inr ⟨qi, by omega⟩)), exB_in (e6.mp h58)⟩)
          · skip
            refine z_iload (pc := 61) dX3_isOneSided_61 rfl ?_
            refine zq_if_ge (pc := 63) (tgt := 70) dX3_isOneSided_63 rfl rfl (fun h63 => ?_) (fun h63 => ?_)
            · skip
              refine z_iconst (pc := 70) (v := 0) dX3_isOneSided_70 (by decide) ?_
              refine z_istore (pc := 71) dX3_isOneSided_71 rfl rfl (by dsimp only [setI, setL, List.set]) ?_
              refine z_iload (pc := 73) dX3_isOneSided_73 rfl ?_
              refine z_if_eq (pc := 75) (tgt := 85) dX3_isOneSided_75 rfl (fun hc => absurd hc (by decide)) (fun _ => ?_)
              refine z_iload (pc := 78) dX3_isOneSided_78 rfl ?_
              refine z_if_eq (pc := 80) (tgt := 85) dX3_isOneSided_80 rfl (fun _ => ?_) (fun hc => absurd hc (by decide))
              refine z_iincT (pc := 85) dX3_isOneSided_85 rfl rfl (by decide) (by decide) (by omega) (by omega) rfl rfl (fun v => by dsimp only [setI, setL, List.set]) (fun v85 e85 => ?_)
              refine z_goto (pc := 88) (tgt := 9) dX3_isOneSided_88 rfl ?_
              have fL5 : (1 : Int32).toInt ≠ 0 ↔ exB (prs n pt) (fL n pt r p q) (k + 1) := ⟨fun _ => sL.mpr (Or.inr ⟨qi, by omega⟩), fun _ => (by decide)⟩
              have fR6 : (0 : Int32).toInt ≠ 0 ↔ exB (prs n pt) (fR n pt r p q) (k + 1) := ⟨fun z => absurd rfl z, fun z => by
                rcases sR.mp z with z | z
                · exact absurd (e6.mpr z) (by omega)
                · have := z.2; omega⟩
              exact ih (k + 1) 1 0 v85 _ (by omega) (by omega) (by omega) fL5 fR6 (by decide)
            · skip
              refine z_iconst (pc := 66) (v := 1) dX3_isOneSided_66 (by decide) ?_
              refine z_goto (pc := 67) (tgt := 71) dX3_isOneSided_67 rfl ?_
              refine z_istore (pc := 71) dX3_isOneSided_71 rfl rfl (by dsimp only [setI, setL, List.set]) ?_
              refine z_iload (pc := 73) dX3_isOneSided_73 rfl ?_
              refine z_if_eq (pc := 75) (tgt := 85) dX3_isOneSided_75 rfl (fun hc => absurd hc (by decide)) (fun _ => ?_)
              refine z_iload (pc := 78) dX3_isOneSided_78 rfl ?_
              refine z_if_eq (pc := 80) (tgt := 85) dX3_isOneSided_80 rfl (fun hc => absurd hc (by decide)) (fun _ => ?_)
              refine z_iconst (pc := 83) (v := 0) dX3_isOneSided_83 (by decide) ?_
              refine z_zret (pc := 84) dX3_isOneSided_84 rfl (by decide) ?_
              exact hf (fun z => (oneS_iff.mp z) ⟨exB_in (sL.mpr (Or.inr ⟨qi, by omega⟩)), exB_in (sR.mpr (Or.inr ⟨qi, by omega⟩))⟩)
    · skip
      refine z_if_eq (pc := 26) (tgt := 85) dX3_isOneSided_26 rfl (fun _ => ?_) (fun hc => absurd hc (by decide))
      refine z_iincT (pc := 85) dX3_isOneSided_85 rfl rfl (by decide) (by decide) (by omega) (by omega) rfl rfl (fun v => by dsimp only [setI, setL, List.set]) (fun v85 e85 => ?_)
      refine z_goto (pc := 88) (tgt := 9) dX3_isOneSided_88 rfl ?_
      exact ih (k + 1) x5 x6 v85 _ (by omega) (by omega) (by omega) ⟨fun z => sL.mpr (Or.inl (e5.mp z)), fun z => (sL.mp z).elim e5.mpr (fun y => absurd y.1 qi)⟩ ⟨fun z => sR.mpr (Or.inl (e6.mp z)), fun z => (sR.mp z).elim e6.mpr (fun y => absurd y.1 qi)⟩ e56

theorem c_X3_isOneSided {l : Launch} {G : Gx} {d : Nat} {σ : Sg} {Q : Option Value → Sg → Prop} {n r i a b p q : Nat} {pt : Nat → Pt} {x2 x3 x4 : Int32} (hS : okStand σ n pt) (hP : ∀ i, i < n → ptOk (pt i)) (hn : n ≤ 40) (hm : mix σ n pt r i) (ha : (prs n pt)[a]? = some p) (hb : (prs n pt)[b]? = some q) (h2 : x2.toInt = (a : Int)) (h3 : x3.toInt = (b : Int)) (h4 : x4.toInt = (r : Int) + 1) (ht : oneS (fgr (prs n pt) pt r) pt p q → Q (some (.int 1)) σ) (hf : ¬ oneS (fgr (prs n pt) pt r) pt p q → Q (some (.int 0)) σ)  : Z l G M_X3_isOneSided (d + 1) 0 [some (.ref 24), some (.ref 11), some (.int x2), some (.int x3), some (.int x4)] [] σ Q := by
  refine z_sub (L' := [some (.ref 24), some (.ref 11), some (.int x2), some (.int x3), some (.int x4), none, none, none, none]) ⟨rfl, rfl, rfl, rfl, rfl, trivial⟩ ?_
  refine z_iconst (pc := 0) (v := 0) dX3_isOneSided_0 (by decide) ?_
  refine z_istore (pc := 1) dX3_isOneSided_1 rfl rfl (by dsimp only [setI, setL, List.set]) ?_
  refine z_iconst (pc := 3) (v := 0) dX3_isOneSided_3 (by decide) ?_
  refine z_istore (pc := 4) dX3_isOneSided_4 rfl rfl (by dsimp only [setI, setL, List.set]) ?_
  refine z_iconst (pc := 6) (v := 0) dX3_isOneSided_6 (by decide) ?_
  refine z_istore (pc := 7) dX3_isOneSided_7 rfl rfl (by dsimp only [setI, setL, List.set]) ?_
  exact c_oneS_loop hS hP hn hm ha hb h2 h3 h4 ht hf ((prs n pt).length + 1) 0 0 0 0 _ (by decide) (by omega) (by omega) ⟨fun z => absurd rfl z, fun z => absurd z exB_0⟩ ⟨fun z => absurd rfl z, fun z => absurd z exB_0⟩ (by decide)

theorem c_edge_loop {l : Launch} {G : Gx} {d : Nat} {σ : Sg} {Q : Option Value → Sg → Prop} {n r i a p : Nat} {pt : Nat → Pt} {x2 x3 : Int32} (hS : okStand σ n pt) (hP : ∀ i, i < n → ptOk (pt i)) (hn : n ≤ 40) (hm : mix σ n pt r i) (ha : (prs n pt)[a]? = some p) (h2 : x2.toInt = (a : Int)) (h3 : x3.toInt = (r : Int) + 1) (ht : onE (fgr (prs n pt) pt r) pt p = true → Q (some (.int 1)) σ) (hf : onE (fgr (prs n pt) pt r) pt p = false → Q (some (.int 0)) σ) : ∀ (f k : Nat) (x4 x5 : Int32), x5.toInt = (k : Int) → k ≤ (prs n pt).length → (prs n pt).length - k < f → (x4 = 0 ∨ x4 = 1) → (x4 = 0 ↔ exB (prs n pt) (fA n pt r p) k) → ¬ exB (prs n pt) (fO n pt r p) k → Z l G M_X3_isOnEdge (d + 2) 6 [some (.ref 24), some (.ref 11), some (.int x2), some (.int x3), some (.int x4), some (.int x5)] [] σ Q := by
  intro f
  induction f with
  | zero => intro k x4 x5 hk hkl hfu e01 eA eO; omega
  | succ f ih =>
  intro k x4 x5 hk hkl hfu e01 eA eO
  have hpl := prs_len n pt
  have hSn := hS.1
  refine z_iload (pc := 6) dX3_isOnEdge_6 rfl ?_
  refine z_aload_n (pc := 8) dX3_isOnEdge_8 rfl ?_
  refine z_getI (pc := 9) dX3_isOnEdge_9 fk_X3_19 rfl (by decide) (by decide) (by decide) ?_
  refine zq_icmp_ge (pc := 12) (tgt := 58) dX3_isOnEdge_12 rfl rfl rfl (fun h12 => ?_) (fun h12 => ?_)
  · skip
    refine z_iload (pc := 58) dX3_isOnEdge_58 rfl ?_
    refine z_zret (pc := 60) dX3_isOnEdge_60 rfl (by assumption) ?_
    rcases e01 with rfl | rfl
    · refine hf ?_
      cases hb : onE (fgr (prs n pt) pt r) pt p with
      | false => rfl
      | true =>
        rcases onE_ex.mp hb with z | z
        · exact absurd (exB_in (eA.mp rfl)) z
        · exact absurd ((exB_all (by omega)).mpr z) eO
    · exact ht (onE_ex.mpr (Or.inl (fun z => absurd (eA.mpr ((exB_all (by omega)).mpr z)) (by decide))))
  · skip
    obtain ⟨s, hs⟩ := prs_get (pt := pt) (n := n) (j := k) (by omega)
    have sA := exB_succ (φ := fA n pt r p) hs
    have sO := exB_succ (φ := fO n pt r p) hs
    refine z_aload_n (pc := 15) dX3_isOnEdge_15 rfl ?_
    refine z_iload (pc := 16) dX3_isOnEdge_16 rfl ?_
    refine z_iload_n (pc := 18) dX3_isOnEdge_18 rfl ?_
    refine z_iv2 (pc := 19) dX3_isOnEdge_19 kv_X3_34 rfl (by decide) (by decide) rfl rfl ?_
    refine c_X3_isIn hm hn hs hk h3 (fun qi => ?_) (fun qi => ?_)
    · skip
      refine z_if_eq (pc := 22) (tgt := 52) dX3_isOnEdge_22 rfl (fun hc => absurd hc (by decide)) (fun _ => ?_)
      refine z_aload_n (pc := 25) dX3_isOnEdge_25 rfl ?_
      refine z_iload_n (pc := 26) dX3_isOnEdge_26 rfl ?_
      refine z_iload (pc := 27) dX3_isOnEdge_27 rfl ?_
      refine z_iv2 (pc := 29) dX3_isOnEdge_29 kv_X3_38 rfl (by decide) (by decide) rfl rfl ?_
      refine c_X7_isTogether hS hn ha hs h2 hk (fun qt => ?_) (fun qt => ?_)
      · skip
        refine z_if_ne (pc := 32) (tgt := 52) dX3_isOnEdge_32 rfl (fun _ => ?_) (fun hc => absurd hc (by decide))
        refine z_iincT (pc := 52) dX3_isOnEdge_52 rfl rfl (by decide) (by decide) (by omega) (by omega) rfl rfl (fun v => by dsimp only [setI, setL, List.set]) (fun v52 e52 => ?_)
        refine z_goto (pc := 55) (tgt := 6) dX3_isOnEdge_55 rfl ?_
        have qn : ¬ apt (pt p) (pt s) = true := by rw [qt]; decide
        exact ih (k + 1) x4 v52 (by omega) (by omega) (by omega) e01 ⟨fun z => sA.mpr (Or.inl (eA.mp z)), fun z => (sA.mp z).elim eA.mpr (fun y => absurd y.2 qn)⟩ (fun z => (sO.mp z).elim eO (fun y => qn y.2.1))
      · skip
        refine z_if_ne (pc := 32) (tgt := 52) dX3_isOnEdge_32 rfl (fun hc => absurd hc (by decide)) (fun _ => ?_)
        refine z_iconst (pc := 35) (v := 0) dX3_isOnEdge_35 (by decide) ?_
        refine z_istore (pc := 36) dX3_isOnEdge_36 rfl rfl (by dsimp only [setI, setL, List.set]) ?_
        refine z_aload_n (pc := 38) dX3_isOnEdge_38 rfl ?_
        refine z_aload_n (pc := 39) dX3_isOnEdge_39 rfl ?_
        refine z_iload_n (pc := 40) dX3_isOnEdge_40 rfl ?_
        refine z_iload (pc := 41) dX3_isOnEdge_41 rfl ?_
        refine z_iload_n (pc := 43) dX3_isOnEdge_43 rfl ?_
        refine z_iv4 (pc := 44) dX3_isOnEdge_44 kv_X3_41 rfl (by decide) (by decide) rfl rfl ?_
        refine c_X3_isOneSided hS hP hn hm ha hs h2 hk h3 (fun qo => ?_) (fun qo => ?_)
        · skip
          refine z_if_eq (pc := 47) (tgt := 52) dX3_isOnEdge_47 rfl (fun hc => absurd hc (by decide)) (fun _ => ?_)
          refine z_iconst (pc := 50) (v := 1) dX3_isOnEdge_50 (by decide) ?_
          refine z_zret (pc := 51) dX3_isOnEdge_51 rfl (by decide) ?_
          exact ht (onE_ex.mpr (Or.inr ⟨s, List.mem_of_getElem? hs, qi, qt, qo⟩))
        · skip
          refine z_if_eq (pc := 47) (tgt := 52) dX3_isOnEdge_47 rfl (fun _ => ?_) (fun hc => absurd hc (by decide))
          refine z_iincT (pc := 52) dX3_isOnEdge_52 rfl rfl (by decide) (by decide) (by omega) (by omega) rfl rfl (fun v => by dsimp only [setI, setL, List.set]) (fun v52 e52 => ?_)
          refine z_goto (pc := 55) (tgt := 6) dX3_isOnEdge_55 rfl ?_
          exact ih (k + 1) 0 v52 (by omega) (by omega) (by omega) (Or.inl rfl) ⟨fun _ => sA.mpr (Or.inr ⟨qi, qt⟩), fun _ => rfl⟩ (fun z => (sO.mp z).elim eO (fun y => qo y.2.2))
    · skip
      refine z_if_eq (pc := 22) (tgt := 52) dX3_isOnEdge_22 rfl (fun _ => ?_) (fun hc => absurd hc (by decide))
      refine z_iincT (pc := 52) dX3_isOnEdge_52 rfl rfl (by decide) (by decide) (by omega) (by omega) rfl rfl (fun v => by dsimp only [setI, setL, List.set]) (fun v52 e52 => ?_)
      refine z_goto (pc := 55) (tgt := 6) dX3_isOnEdge_55 rfl ?_
      exact ih (k + 1) x4 v52 (by omega) (by omega) (by omega) e01 ⟨fun z => sA.mpr (Or.inl (eA.mp z)), fun z => (sA.mp z).elim eA.mpr (fun y => absurd y.1 qi)⟩ (fun z => (sO.mp z).elim eO (fun y => qi y.1))

theorem c_X3_isOnEdge {l : Launch} {G : Gx} {d : Nat} {σ : Sg} {Q : Option Value → Sg → Prop} {n r i a p : Nat} {pt : Nat → Pt} {x2 x3 : Int32} (hS : okStand σ n pt) (hP : ∀ i, i < n → ptOk (pt i)) (hn : n ≤ 40) (hm : mix σ n pt r i) (ha : (prs n pt)[a]? = some p) (h2 : x2.toInt = (a : Int)) (h3 : x3.toInt = (r : Int) + 1) (ht : onE (fgr (prs n pt) pt r) pt p = true → Q (some (.int 1)) σ) (hf : onE (fgr (prs n pt) pt r) pt p = false → Q (some (.int 0)) σ)  : Z l G M_X3_isOnEdge (d + 2) 0 [some (.ref 24), some (.ref 11), some (.int x2), some (.int x3)] [] σ Q := by
  refine z_sub (L' := [some (.ref 24), some (.ref 11), some (.int x2), some (.int x3), none, none]) ⟨rfl, rfl, rfl, rfl, trivial⟩ ?_
  refine z_iconst (pc := 0) (v := 1) dX3_isOnEdge_0 (by decide) ?_
  refine z_istore (pc := 1) dX3_isOnEdge_1 rfl rfl (by dsimp only [setI, setL, List.set]) ?_
  refine z_iconst (pc := 3) (v := 0) dX3_isOnEdge_3 (by decide) ?_
  refine z_istore (pc := 4) dX3_isOnEdge_4 rfl rfl (by dsimp only [setI, setL, List.set]) ?_
  exact c_edge_loop hS hP hn hm ha h2 h3 ht hf ((prs n pt).length + 1) 0 1 0 (by decide) (by omega) (by omega) (Or.inr rfl) ⟨fun z => absurd z (by decide), fun z => absurd z exB_0⟩ exB_0

theorem c_peelOne_loop {l : Launch} {G : Gx} {d : Nat} {σ : Sg} {Q : Option Value → Sg → Prop} {n r : Nat} {pt : Nat → Pt} {x2 : Int32} (hS : okStand σ n pt) (hP : ∀ i, i < n → ptOk (pt i)) (hn : n ≤ 40) (h2 : x2.toInt = (r : Int) + 1) (h : ∀ (x : Int32) (τ : Sg), x.toInt = ((fgr (prs n pt) pt r).length : Int) - (fgr (prs n pt) pt (r + 1)).length → mix τ n pt (r + 1) 0 → (∀ j, (prs n pt).length ≤ j → τ.1 25 j = σ.1 25 j) → eqX 25 25 σ τ → Q (some (.int x)) τ) : ∀ (f i : Nat) (x3 x4 : Int32) (τ : Sg), x4.toInt = (i : Int) → i ≤ (prs n pt).length → (prs n pt).length - i < f → x3.toInt = ((((prs n pt).take i).filter (fun q => LY (prs n pt) pt r q == 0)).length : Int) - (((prs n pt).take i).filter (fun q => LY (prs n pt) pt (r + 1) q == 0)).length → mix τ n pt r i → (∀ j, (prs n pt).length ≤ j → τ.1 25 j = σ.1 25 j) → eqX 25 25 σ τ → Z l G M_X3_peelOne (d + 3) 5 [some (.ref 24), some (.ref 11), some (.int x2), some (.int x3), some (.int x4)] [] τ Q := by
  intro f
  induction f with
  | zero => intro i x3 x4 τ hi hil hfu h3 hm ho hE; omega
  | succ f ih =>
  intro i x3 x4 τ hi hil hfu h3 hm ho hE
  have hpl := prs_len n pt
  have hSt : okStand τ n pt := okStand_cong (c := True) (fun o h1 h3 => hE o (by omega)) (fun _ => hS) trivial
  have hSn := hSt.1
  have c1 := List.length_filter_le (fun q => LY (prs n pt) pt r q == 0) ((prs n pt).take i)
  have c2 := List.length_filter_le (fun q => LY (prs n pt) pt (r + 1) q == 0) ((prs n pt).take i)
  rw [List.length_take] at c1 c2
  refine z_iload (pc := 5) dX3_peelOne_5 rfl ?_
  refine z_aload_n (pc := 7) dX3_peelOne_7 rfl ?_
  refine z_getI (pc := 8) dX3_peelOne_8 fk_X3_19 rfl (by decide) (by decide) (by decide) ?_
  refine zq_icmp_ge (pc := 11) (tgt := 52) dX3_peelOne_11 rfl rfl rfl (fun h11 => ?_) (fun h11 => ?_)
  · skip
    refine z_iload_n (pc := 52) dX3_peelOne_52 rfl ?_
    refine z_iret (pc := 53) dX3_peelOne_53 rfl ?_
    have ei : i = (prs n pt).length := by omega
    subst ei
    rw [List.take_length] at h3
    refine h _ _ h3 (fun j q hq => ?_) ho hE
    have := hm j q hq
    rw [if_pos (List.getElem?_eq_some_iff.mp hq).1] at this
    rw [if_neg (by omega)]
    exact this
  · skip
    obtain ⟨p, hp⟩ := prs_get (pt := pt) (n := n) (j := i) (by omega)
    have hmi := hm i p hp
    rw [if_neg (by omega)] at hmi
    have s1 := cnt_step (f := fun q => LY (prs n pt) pt r q == 0) hp
    have s2 := cnt_step (f := fun q => LY (prs n pt) pt (r + 1) q == 0) hp
    refine z_aload_n (pc := 14) dX3_peelOne_14 rfl ?_
    refine z_getR (pc := 15) (t := 25) dX3_peelOne_15 fk_X3_9 rfl (by decide) (by decide) (by decide) rfl ?_
    refine z_iload (pc := 18) dX3_peelOne_18 rfl ?_
    refine z_ialdN (pc := 20) i dX3_peelOne_20 rfl (by decide) hi (by show _ < 40; omega) ?_
    refine zq_if_ne (pc := 21) (tgt := 46) dX3_peelOne_21 rfl rfl (fun h21 => ?_) (fun h21 => ?_)
    · skip
      refine z_iincT (pc := 46) dX3_peelOne_46 rfl rfl (by decide) (by decide) (by omega) (by omega) rfl rfl (fun v => by dsimp only [setI, setL, List.set]) (fun v46 e46 => ?_)
      refine z_goto (pc := 49) (tgt := 5) dX3_peelOne_49 rfl ?_
      have hne : LY (prs n pt) pt r p ≠ 0 := by omega
      have hkeep := LY_keep hne
      have hm' : mix τ n pt r (i + 1) := fun j q hq => by
        have := hm j q hq
        rcases Nat.lt_or_ge j i with h9 | h9
        · rw [if_pos h9] at this; rw [if_pos (by omega)]; exact this
        · rcases Nat.eq_or_lt_of_le h9 with e9 | e9
          · subst e9
            rw [hp] at hq
            cases hq
            rw [if_neg (by omega)] at this
            rw [if_pos (by omega), this, hkeep]
          · rw [if_neg (by omega)] at this ⊢; exact this
      have b1 : (LY (prs n pt) pt r p == 0) = false := by simp [hne]
      have b2 : (LY (prs n pt) pt (r + 1) p == 0) = false := by rw [hkeep]; exact b1
      simp only [b1, b2, Bool.false_eq_true, if_false] at s1 s2
      exact ih (i + 1) x3 v46 τ (by omega) (by omega) (by omega) (by rw [s1, s2]; exact h3) hm' ho hE
    · skip
      refine z_aload_n (pc := 24) dX3_peelOne_24 rfl ?_
      refine z_aload_n (pc := 25) dX3_peelOne_25 rfl ?_
      refine z_iload (pc := 26) dX3_peelOne_26 rfl ?_
      refine z_iload_n (pc := 28) dX3_peelOne_28 rfl ?_
      refine z_iv3 (pc := 29) dX3_peelOne_29 kv_X3_30 rfl (by decide) (by decide) rfl rfl ?_
      refine c_X3_isOnEdge hSt hP hn hm hp hi h2 (fun qe => ?_) (fun qe => ?_)
      · skip
        refine z_if_eq (pc := 32) (tgt := 46) dX3_peelOne_32 rfl (fun hc => absurd hc (by decide)) (fun _ => ?_)
        refine z_aload_n (pc := 35) dX3_peelOne_35 rfl ?_
        refine z_getR (pc := 36) (t := 25) dX3_peelOne_36 fk_X3_9 rfl (by decide) (by decide) (by decide) rfl ?_
        refine z_iload (pc := 39) dX3_peelOne_39 rfl ?_
        refine z_iload_n (pc := 41) dX3_peelOne_41 rfl ?_
        refine z_iastN (pc := 42) i dX3_peelOne_42 rfl (by decide) hi (by show _ < 40; omega) ?_
        refine z_iincT (pc := 43) dX3_peelOne_43 rfl rfl (by decide) (by decide) (by omega) (by omega) rfl rfl (fun v => by dsimp only [setI, setL, List.set]) (fun v43 e43 => ?_)
        refine z_iincT (pc := 46) dX3_peelOne_46 rfl rfl (by decide) (by decide) (by omega) (by omega) rfl rfl (fun v => by dsimp only [setI, setL, List.set]) (fun v46 e46 => ?_)
        refine z_goto (pc := 49) (tgt := 5) dX3_peelOne_49 rfl ?_
        have hz : LY (prs n pt) pt r p = 0 := by omega
        have hnew : LY (prs n pt) pt (r + 1) p = r + 1 := by rw [LY_new hz, if_pos qe]
        have hm' : mix (uI τ 25 i x2) n pt r (i + 1) := fun j q hq => by
          have := hm j q hq
          rcases Nat.lt_or_ge j i with h9 | h9
          · rw [if_pos h9] at this; rw [if_pos (by omega), uI_nk (by omega)]; exact this
          · rcases Nat.eq_or_lt_of_le h9 with e9 | e9
            · subst e9
              rw [hp] at hq
              cases hq
              rw [if_pos (by omega), uI_eq, hnew]
              omega
            · rw [if_neg (by omega)] at this ⊢; rw [uI_nk (by omega)]; exact this
        have b1 : (LY (prs n pt) pt r p == 0) = true := by simp [hz]
        have b2 : (LY (prs n pt) pt (r + 1) p == 0) = false := by simp [hnew]
        simp only [b1, b2, if_true, Bool.false_eq_true, if_false] at s1 s2
        exact ih (i + 1) v43 v46 _ (by omega) (by omega) (by omega) (by rw [s1, s2]; omega) hm' (fun j hj => by rw [uI_nk (by omega)]; exact ho j hj) (eqX_uI hE (by omega) (by omega))
      · skip
        refine z_if_eq (pc := 32) (tgt := 46) dX3_peelOne_32 rfl (fun _ => ?_) (fun hc => absurd hc (by decide))
        refine z_iincT (pc := 46) dX3_peelOne_46 rfl rfl (by decide) (by decide) (by omega) (by omega) rfl rfl (fun v => by dsimp only [setI, setL, List.set]) (fun v46 e46 => ?_)
        refine z_goto (pc := 49) (tgt := 5) dX3_peelOne_49 rfl ?_
        have hz : LY (prs n pt) pt r p = 0 := by omega
        have hnew : LY (prs n pt) pt (r + 1) p = 0 := by rw [LY_new hz, if_neg (by rw [qe]; decide)]
        have hm' : mix τ n pt r (i + 1) := fun j q hq => by
          have := hm j q hq
          rcases Nat.lt_or_ge j i with h9 | h9
          · rw [if_pos h9] at this; rw [if_pos (by omega)]; exact this
          · rcases Nat.eq_or_lt_of_le h9 with e9 | e9
            · subst e9
              rw [hp] at hq
              cases hq
              rw [if_neg (by omega)] at this
              rw [if_pos (by omega), this, hz, hnew]
            · rw [if_neg (by omega)] at this ⊢; exact this
        have b1 : (LY (prs n pt) pt r p == 0) = true := by simp [hz]
        have b2 : (LY (prs n pt) pt (r + 1) p == 0) = true := by simp [hnew]
        simp only [b1, b2, if_true] at s1 s2
        exact ih (i + 1) x3 v46 τ (by omega) (by omega) (by omega) (by rw [s1, s2]; omega) hm' ho hE

theorem c_X3_peelOne {l : Launch} {G : Gx} {d : Nat} {σ : Sg} {Q : Option Value → Sg → Prop} {n r : Nat} {pt : Nat → Pt} {x2 : Int32} (hS : okStand σ n pt) (hP : ∀ i, i < n → ptOk (pt i)) (hn : n ≤ 40) (h2 : x2.toInt = (r : Int) + 1) (hm : mix σ n pt r 0) (h : ∀ (x : Int32) (τ : Sg), x.toInt = ((fgr (prs n pt) pt r).length : Int) - (fgr (prs n pt) pt (r + 1)).length → mix τ n pt (r + 1) 0 → (∀ j, (prs n pt).length ≤ j → τ.1 25 j = σ.1 25 j) → eqX 25 25 σ τ → Q (some (.int x)) τ)  : Z l G M_X3_peelOne (d + 3) 0 [some (.ref 24), some (.ref 11), some (.int x2)] [] σ Q := by
  refine z_sub (L' := [some (.ref 24), some (.ref 11), some (.int x2), none, none]) ⟨rfl, rfl, rfl, trivial⟩ ?_
  refine z_iconst (pc := 0) (v := 0) dX3_peelOne_0 (by decide) ?_
  refine z_istore_n (pc := 1) dX3_peelOne_1 rfl rfl (by dsimp only [setI, setL, List.set]) ?_
  refine z_iconst (pc := 2) (v := 0) dX3_peelOne_2 (by decide) ?_
  refine z_istore (pc := 3) dX3_peelOne_3 rfl rfl (by dsimp only [setI, setL, List.set]) ?_
  exact c_peelOne_loop hS hP hn h2 h ((prs n pt).length + 1) 0 0 0 σ (by decide) (by omega) (by omega) rfl hm (fun _ _ => rfl) eqX_rf

theorem c_peel_loop {l : Launch} {G : Gx} {d : Nat} {σ : Sg} {Q : Option Value → Sg → Prop} {n : Nat} {pt : Nat → Pt} (hS : okStand σ n pt) (hP : ∀ i, i < n → ptOk (pt i)) (hn : n ≤ 40) (h : ∀ τ, okLayers τ n pt → τ.1 24 1 = 1 → eqX 24 25 σ τ → Q none τ) : ∀ (f r : Nat) (x2 x3 : Int32) (τ : Sg), x3.toInt = (r : Int) + 1 → r ≤ 40 → 40 - r < f → x2.toInt = ((fgr (prs n pt) pt r).length : Int) → (τ.1 24 2).toInt = (r : Int) → (∀ s, s < r → fgr (prs n pt) pt s ≠ []) → mix τ n pt r 0 → (∀ j, (prs n pt).length ≤ j → j < 40 → τ.1 25 j = 0) → eqX 24 25 σ τ → Z l G M_X3_peel (d + 4) 33 [some (.ref 24), some (.ref 11), some (.int x2), some (.int x3)] [] τ Q := by
  intro f
  induction f with
  | zero => intro r x2 x3 τ hr hr4 hfu h2 hN hs hm ho hE; omega
  | succ f ih =>
  intro r x2 x3 τ hr hr4 hfu h2 hN hs hm ho hE
  have hpl := prs_len n pt
  have hSt : okStand τ n pt := okStand_cong (c := True) (fun o h1 h3 => hE o (by omega)) (fun _ => hS) trivial
  have hbd := fgr_bound (P := prs n pt) (pt := pt) r hs
  refine z_iload_n (pc := 33) dX3_peel_33 rfl ?_
  refine z_bipush (pc := 34) (v := 40) dX3_peel_34 (by decide) ?_
  refine zq_icmp_gt (pc := 36) (cy := 40) (tgt := 63) dX3_peel_36 rfl rfl (by decide) (fun h36 => ?_) (fun h36 => ?_)
  · skip
    refine z_aload_n (pc := 63) dX3_peel_63 rfl ?_
    refine z_iconst (pc := 64) (v := 1) dX3_peel_64 (by decide) ?_
    refine z_putB (pc := 65) dX3_peel_65 fk_X3_26 rfl (by decide) (by decide) (by decide) (by decide) ?_
    refine z_vret (pc := 68) dX3_peel_68 rfl ?_
    have he : fgr (prs n pt) pt r = [] := List.length_eq_zero_iff.mp (by omega)
    refine h _ ⟨r, isNL_of hs he, by rw [uI_nk (by omega)]; exact hN, fun j p hp => ?_, fun j hj hj4 => by rw [uI_row (by omega)]; exact ho j hj hj4⟩ (uI_eq _ _ _ _) (eqX_uI hE (by omega) (by omega))
    have := hm j p hp
    rw [if_neg (by omega)] at this
    rw [uI_row (by omega)]
    exact this
  · skip
    refine z_iload_n (pc := 39) dX3_peel_39 rfl ?_
    refine zq_if_le (pc := 40) (tgt := 63) dX3_peel_40 rfl rfl (fun h40 => ?_) (fun h40 => ?_)
    · skip
      refine z_aload_n (pc := 63) dX3_peel_63 rfl ?_
      refine z_iconst (pc := 64) (v := 1) dX3_peel_64 (by decide) ?_
      refine z_putB (pc := 65) dX3_peel_65 fk_X3_26 rfl (by decide) (by decide) (by decide) (by decide) ?_
      refine z_vret (pc := 68) dX3_peel_68 rfl ?_
      have he : fgr (prs n pt) pt r = [] := List.length_eq_zero_iff.mp (by omega)
      refine h _ ⟨r, isNL_of hs he, by rw [uI_nk (by omega)]; exact hN, fun j p hp => ?_, fun j hj hj4 => by rw [uI_row (by omega)]; exact ho j hj hj4⟩ (uI_eq _ _ _ _) (eqX_uI hE (by omega) (by omega))
      have := hm j p hp
      rw [if_neg (by omega)] at this
      rw [uI_row (by omega)]
      exact this
    · skip
      refine z_iload_n (pc := 43) dX3_peel_43 rfl ?_
      refine z_aload_n (pc := 44) dX3_peel_44 rfl ?_
      refine z_aload_n (pc := 45) dX3_peel_45 rfl ?_
      refine z_iload_n (pc := 46) dX3_peel_46 rfl ?_
      refine z_iv2 (pc := 47) dX3_peel_47 kv_X3_22 rfl (by decide) (by decide) rfl rfl ?_
      have hne : fgr (prs n pt) pt r ≠ [] := fun z => by rw [z] at h2; simp at h2; omega
      have hlt := fgr_lt hne
      refine c_X3_peelOne hSt hP hn hr hm (fun xq υ eq um uo uE => ?_)
      refine z_isubT (pc := 50) dX3_peel_50 rfl rfl (by omega) (by omega) (fun v50 e50 => ?_)
      refine z_istore_n (pc := 51) dX3_peel_51 rfl rfl (by dsimp only [setI, setL, List.set]) ?_
      refine z_aload_n (pc := 52) dX3_peel_52 rfl ?_
      refine z_iload_n (pc := 53) dX3_peel_53 rfl ?_
      refine z_putI (pc := 54) dX3_peel_54 fk_X3_15 rfl (by decide) (by decide) (by decide) ?_
      refine z_iincT (pc := 57) dX3_peel_57 rfl rfl (by decide) (by decide) (by omega) (by omega) rfl rfl (fun v => by dsimp only [setI, setL, List.set]) (fun v57 e57 => ?_)
      refine z_goto (pc := 60) (tgt := 33) dX3_peel_60 rfl ?_
      refine ih (r + 1) v50 v57 (uI υ 24 2 x3) (by omega) (by omega) (by omega) (by omega) (by rw [uI_eq]; omega) (fun s hs' => ?_) (fun j q hq => by rw [uI_row (by omega)]; exact um j q hq) (fun j hj hj4 => by rw [uI_row (by omega), uo j hj]; exact ho j hj hj4) (eqX_uI (eqX_tr hE (eqX_wide uE (by omega) (by omega))) (by omega) (by omega))
      rcases Nat.lt_or_ge s r with h9 | h9
      · exact hs s h9
      · rw [show s = r by omega]; exact hne

theorem fgr_0 (P : List Nat) (pt : Nat → Pt) : fgr P pt 0 = P := by
  unfold fgr
  rw [List.filter_eq_self]
  intro p _
  rfl

theorem c_peel_zero {l : Launch} {G : Gx} {d : Nat} {σ : Sg} {Q : Option Value → Sg → Prop} {n : Nat} {pt : Nat → Pt} {x2 : Int32} (hS : okStand σ n pt) (hP : ∀ i, i < n → ptOk (pt i)) (hn : n ≤ 40) (h2 : x2.toInt = ((prs n pt).length : Int)) (h : ∀ τ, okLayers τ n pt → τ.1 24 1 = 1 → eqX 24 25 σ τ → Q none τ) : ∀ (f k : Nat) (x3 : Int32) (τ : Sg), x3.toInt = (k : Int) → k ≤ 40 → 40 - k < f → τ.1 24 2 = 0 → (∀ j, j < k → τ.1 25 j = 0) → eqX 24 25 σ τ → Z l G M_X3_peel (d + 4) 12 [some (.ref 24), some (.ref 11), some (.int x2), some (.int x3)] [] τ Q := by
  intro f
  induction f with
  | zero => intro k x3 τ hk hk4 hfu hN ho hE; omega
  | succ f ih =>
  intro k x3 τ hk hk4 hfu hN ho hE
  have hpl := prs_len n pt
  refine z_iload_n (pc := 12) dX3_peel_12 rfl ?_
  refine z_bipush (pc := 13) (v := 40) dX3_peel_13 (by decide) ?_
  refine zq_icmp_ge (pc := 15) (cy := 40) (tgt := 31) dX3_peel_15 rfl rfl (by decide) (fun h15 => ?_) (fun h15 => ?_)
  · skip
    refine z_iconst (pc := 31) (v := 1) dX3_peel_31 (by decide) ?_
    refine z_istore_n (pc := 32) dX3_peel_32 rfl rfl (by dsimp only [setI, setL, List.set]) ?_
    exact c_peel_loop hS hP hn h 41 0 x2 1 τ (by decide) (by omega) (by omega) (by rw [fgr_0]; exact h2) (by rw [hN]; rfl) (fun s hs => absurd hs (by omega)) (fun j p hp => by rw [if_neg (by omega), ho j (by have := st_lt hn hp; omega)]; rfl) (fun j _ hj => ho j (by omega)) hE
  · skip
    refine z_aload_n (pc := 18) dX3_peel_18 rfl ?_
    refine z_getR (pc := 19) (t := 25) dX3_peel_19 fk_X3_9 rfl (by decide) (by decide) (by decide) rfl ?_
    refine z_iload_n (pc := 22) dX3_peel_22 rfl ?_
    refine z_iconst (pc := 23) (v := 0) dX3_peel_23 (by decide) ?_
    refine z_iastN (pc := 24) k dX3_peel_24 rfl (by decide) hk (by show _ < 40; omega) ?_
    refine z_iincT (pc := 25) dX3_peel_25 rfl rfl (by decide) (by decide) (by omega) (by omega) rfl rfl (fun v => by dsimp only [setI, setL, List.set]) (fun v25 e25 => ?_)
    refine z_goto (pc := 28) (tgt := 12) dX3_peel_28 rfl ?_
    exact ih (k + 1) v25 _ (by omega) (by omega) (by omega) (by rw [uI_row (by omega)]; exact hN) (fun j hj => by
      rcases Nat.lt_or_ge j k with h9 | h9
      · rw [uI_nk (by omega)]; exact ho j h9
      · rw [show j = k by omega]; exact uI_eq _ _ _ _) (eqX_uI hE (by omega) (by omega))

theorem c_X3_peel {l : Launch} {G : Gx} {d : Nat} {σ : Sg} {Q : Option Value → Sg → Prop} {n : Nat} {pt : Nat → Pt} (hS : okStand σ n pt) (hP : ∀ i, i < n → ptOk (pt i)) (hn : n ≤ 40) (h : ∀ τ, okLayers τ n pt → τ.1 24 1 = 1 → eqX 24 25 σ τ → Q none τ)  : Z l G M_X3_peel (d + 4) 0 [some (.ref 24), some (.ref 11)] [] σ Q := by
  have hSn := hS.1
  refine z_sub (L' := [some (.ref 24), some (.ref 11), none, none]) ⟨rfl, rfl, trivial⟩ ?_
  refine z_aload_n (pc := 0) dX3_peel_0 rfl ?_
  refine z_iconst (pc := 1) (v := 0) dX3_peel_1 (by decide) ?_
  refine z_putI (pc := 2) dX3_peel_2 fk_X3_15 rfl (by decide) (by decide) (by decide) ?_
  refine z_aload_n (pc := 5) dX3_peel_5 rfl ?_
  refine z_getI (pc := 6) dX3_peel_6 fk_X3_19 rfl (by decide) (by decide) (by decide) ?_
  refine z_istore_n (pc := 9) dX3_peel_9 rfl rfl (by dsimp only [setI, setL, List.set]) ?_
  refine z_iconst (pc := 10) (v := 0) dX3_peel_10 (by decide) ?_
  refine z_istore_n (pc := 11) dX3_peel_11 rfl rfl (by dsimp only [setI, setL, List.set]) ?_
  exact c_peel_zero hS hP hn hSn h 41 0 0 _ (by decide) (by omega) (by omega) (uI_eq _ _ _ _) (fun j hj => absurd hj (by omega)) (eqX_uI eqX_rf (by omega) (by omega))
