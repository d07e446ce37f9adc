/-! layers in the model -/
theorem lv_crsU {pt : Nat → Pt} {z : Nat × Nat} (h : apt (pt z.1) (pt z.2) = true) : ∃ g s : Int, 0 < g ∧ (s = 1 ∨ s = -1) ∧ ∀ r, g * lv (lnO pt z) r = s * crs (pt z.1) (pt z.2) r := by
  have hh := apt_iff.mp h
  obtain ⟨s, hs, e1, e2, e3⟩ := lnN_mul ((pt z.1).2.1.toInt - (pt z.2).2.1.toInt) ((pt z.2).1.toInt - (pt z.1).1.toInt) ((pt z.1).1.toInt * (pt z.2).2.1.toInt - (pt z.2).1.toInt * (pt z.1).2.1.toInt) (by omega)
  have hg := g3_pos (A := (pt z.1).2.1.toInt - (pt z.2).2.1.toInt) (B := (pt z.2).1.toInt - (pt z.1).1.toInt) ((pt z.1).1.toInt * (pt z.2).2.1.toInt - (pt z.2).1.toInt * (pt z.1).2.1.toInt) (by omega)
  refine ⟨((g3 ((pt z.1).2.1.toInt - (pt z.2).2.1.toInt) ((pt z.2).1.toInt - (pt z.1).1.toInt) ((pt z.1).1.toInt * (pt z.2).2.1.toInt - (pt z.2).1.toInt * (pt z.1).2.1.toInt) : Nat) : Int), s, by omega, hs, fun r => ?_⟩
  unfold lv lnO lnT crs
  generalize lnN ((pt z.1).2.1.toInt - (pt z.2).2.1.toInt) ((pt z.2).1.toInt - (pt z.1).1.toInt) ((pt z.1).1.toInt * (pt z.2).2.1.toInt - (pt z.2).1.toInt * (pt z.1).2.1.toInt) = t at e1 e2 e3 ⊢
  generalize ((g3 ((pt z.1).2.1.toInt - (pt z.2).2.1.toInt) ((pt z.2).1.toInt - (pt z.1).1.toInt) ((pt z.1).1.toInt * (pt z.2).2.1.toInt - (pt z.2).1.toInt * (pt z.1).2.1.toInt) : Nat) : Int) = g at e1 e2 e3 ⊢
  generalize r.1.toInt = x at *
  generalize r.2.1.toInt = y at *
  have : g * (t.1 * x + t.2.1 * y + t.2.2) = (g * t.1) * x + (g * t.2.1) * y + g * t.2.2 := by grind
  rw [this, e1, e2, e3]
  grind
theorem sgn_mul {g u v : Int} (hg : 0 < g) (h : g * u = v) : (0 < u ↔ 0 < v) ∧ (u < 0 ↔ v < 0) := by
  subst h
  constructor
  · constructor
    · intro h; exact Int.mul_pos hg h
    · intro h
      rcases Int.lt_or_le 0 u with h1 | h1
      · exact h1
      · have := Int.mul_nonneg (Int.le_of_lt hg) (show 0 ≤ -u by omega)
        rw [Int.mul_neg] at this
        omega
  · constructor
    · intro h
      have := Int.mul_pos hg (show 0 < -u by omega)
      rw [Int.mul_neg] at this
      omega
    · intro h
      rcases Int.lt_or_le u 0 with h1 | h1
      · exact h1
      · have := Int.mul_nonneg (Int.le_of_lt hg) h1
        omega
theorem lv_sg {pt : Nat → Pt} {z : Nat × Nat} (h : apt (pt z.1) (pt z.2) = true) : (∀ r, (0 < lv (lnO pt z) r ↔ 0 < crs (pt z.1) (pt z.2) r) ∧ (lv (lnO pt z) r < 0 ↔ crs (pt z.1) (pt z.2) r < 0)) ∨ ∀ r, (0 < lv (lnO pt z) r ↔ crs (pt z.1) (pt z.2) r < 0) ∧ (lv (lnO pt z) r < 0 ↔ 0 < crs (pt z.1) (pt z.2) r) := by
  obtain ⟨g, s, hg, hs, e⟩ := lv_crsU h
  rcases hs with rfl | rfl
  · left
    intro r
    have := sgn_mul hg (e r)
    omega
  · right
    intro r
    have := sgn_mul hg (e r)
    omega
def gL (n : Nat) (pt : Nat → Pt) (r p q s : Nat) : Prop := LY (prs n pt) pt r s = 0 ∧ 0 < lv (lnO pt (p, q)) (pt s)
def gR (n : Nat) (pt : Nat → Pt) (r p q s : Nat) : Prop := LY (prs n pt) pt r s = 0 ∧ lv (lnO pt (p, q)) (pt s) < 0
theorem oneS_m {n r p q : Nat} {pt : Nat → Pt} (ha : apt (pt p) (pt q) = true) : oneS (fgr (prs n pt) pt r) pt p q ↔ ¬ ((∃ s ∈ prs n pt, gL n pt r p q s) ∧ ∃ s ∈ prs n pt, gR n pt r p q s) := by
  rw [oneS_iff]
  rcases lv_sg (z := (p, q)) ha with h | h
  · constructor
    · rintro k ⟨⟨s, h1, h2, h3⟩, ⟨t, g1, g2, g3⟩⟩
      exact k ⟨⟨s, h1, h2, (h (pt s)).1.mp h3⟩, ⟨t, g1, g2, (h (pt t)).2.mp g3⟩⟩
    · rintro k ⟨⟨s, h1, h2, h3⟩, ⟨t, g1, g2, g3⟩⟩
      exact k ⟨⟨s, h1, h2, (h (pt s)).1.mpr h3⟩, ⟨t, g1, g2, (h (pt t)).2.mpr g3⟩⟩
  · constructor
    · rintro k ⟨⟨s, h1, h2, h3⟩, ⟨t, g1, g2, g3⟩⟩
      exact k ⟨⟨t, g1, g2, (h (pt t)).2.mp g3⟩, ⟨s, h1, h2, (h (pt s)).1.mp h3⟩⟩
    · rintro k ⟨⟨s, h1, h2, h3⟩, ⟨t, g1, g2, g3⟩⟩
      exact k ⟨⟨t, g1, g2, (h (pt t)).1.mpr g3⟩, ⟨s, h1, h2, (h (pt s)).2.mpr h3⟩⟩
def exN (n : Nat) (pt : Nat → Pt) (φ : Nat → Prop) (k : Nat) : Prop := ∃ s, s < k ∧ s ∈ prs n pt ∧ φ s
theorem exN_0 {n : Nat} {pt : Nat → Pt} {φ : Nat → Prop} : ¬ exN n pt φ 0 := fun ⟨_, h, _⟩ => absurd h (by omega)
theorem exN_succ {n k : Nat} {pt : Nat → Pt} {φ : Nat → Prop} : exN n pt φ (k + 1) ↔ exN n pt φ k ∨ (k ∈ prs n pt ∧ φ k) := by
  constructor
  · rintro ⟨s, h1, h2, h3⟩
    rcases Nat.lt_or_ge s k with h9 | h9
    · exact Or.inl ⟨s, h9, h2, h3⟩
    · have e : s = k := by omega
      subst e
      exact Or.inr ⟨h2, h3⟩
  · rintro (⟨s, h1, h2, h3⟩ | ⟨h2, h3⟩)
    · exact ⟨s, by omega, h2, h3⟩
    · exact ⟨k, by omega, h2, h3⟩
theorem exN_all {n : Nat} {pt : Nat → Pt} {φ : Nat → Prop} {k : Nat} (hk : n ≤ k) : exN n pt φ k ↔ ∃ s ∈ prs n pt, φ s := by
  constructor
  · rintro ⟨s, h1, h2, h3⟩
    exact ⟨s, h2, h3⟩
  · rintro ⟨s, hs, h3⟩
    exact ⟨s, by have := (prs_mem.mp hs).1; omega, hs, h3⟩
/-- the model's layers after r rounds -/
def mly (σ : Sg) (n : Nat) (pt : Nat → Pt) (r : Nat) : Prop := ∀ p ∈ prs n pt, (σ.1 47 p).toInt = (LY (prs n pt) pt r p : Int)
theorem mly_1 {σ τ : Sg} {n r : Nat} {pt : Nat → Pt} (h : mly σ n pt r) (e : τ.1 47 = σ.1 47) : mly τ n pt r := fun p hp => by rw [e]; exact h p hp

theorem c_medge_k {l : Launch} {G : Gx} {d : Nat} {σ : Sg} {Q : Option Value → Sg → Prop} {n r p q : Nat} {pt : Nat → Pt} {x1 x2 x3 : Int32} (hQ : rmQ σ n pt) (hm : mly σ n pt r) (hL : isLnM σ (lnO pt (p, q))) (hp : p < n) (hq : q < n) (ha : apt (pt p) (pt q) = true) (hnext : ∀ x4 x5 x6 : Int32, (x4.toInt ≠ 0 ↔ ∃ s ∈ prs n pt, gL n pt r p q s) → (x5.toInt ≠ 0 ↔ ∃ s ∈ prs n pt, gR n pt r p q s) → Z l G M_X11_isOnEdge (d + 2) 137 [some (.ref 1), some (.int x1), some (.int x2), some (.int x3), some (.int x4), some (.int x5), some (.int x6)] [] σ Q) : ∀ (f k : Nat) (x4 x5 x6 : Int32), x6.toInt = (k : Int) → k ≤ n → n - k < f → (x4.toInt ≠ 0 ↔ exN n pt (gL n pt r p q) k) → (x5.toInt ≠ 0 ↔ exN n pt (gR n pt r p q) k) → Z l G M_X11_isOnEdge (d + 2) 56 [some (.ref 1), some (.int x1), some (.int x2), some (.int x3), some (.int x4), some (.int x5), some (.int x6)] [] σ Q := by
  intro f
  induction f with
  | zero => intro k x4 x5 x6 hk hkn hfu e4 e5; omega
  | succ f ih =>
  intro k x4 x5 x6 hk hkn hfu e4 e5
  have hg := hQ.2.1.1
  have hn := hQ.1
  have hab := lnO_ab hQ.2.2.1 hp hq ha
  have sL := exN_succ (n := n) (pt := pt) (φ := gL n pt r p q) (k := k)
  have sR := exN_succ (n := n) (pt := pt) (φ := gR n pt r p q) (k := k)
  refine z_iload (pc := 56) dX11_isOnEdge_56 rfl ?_
  refine z_aload_n (pc := 58) dX11_isOnEdge_58 rfl ?_
  refine z_getI (pc := 59) dX11_isOnEdge_59 fk_X11_101 rfl (by decide) (by decide) (by decide) ?_
  refine zq_icmp_ge (pc := 62) (tgt := 137) dX11_isOnEdge_62 rfl rfl rfl (fun h62 => ?_) (fun h62 => ?_)
  · skip
    exact hnext x4 x5 x6 (e4.trans (exN_all (by omega))) (e5.trans (exN_all (by omega)))
  · skip
    refine z_aload_n (pc := 65) dX11_isOnEdge_65 rfl ?_
    refine z_getR (pc := 66) (t := 35) dX11_isOnEdge_66 fk_X11_22 rfl (by decide) (by decide) (by decide) rfl ?_
    refine z_iload (pc := 69) dX11_isOnEdge_69 rfl ?_
    refine z_zaldN (pc := 71) k dX11_isOnEdge_71 rfl (by decide) hk (by show _ < 40; omega) ?_
    refine zq_if_ne (pc := 72) (tgt := 131) dX11_isOnEdge_72 rfl rfl (fun h72 => ?_) (fun h72 => ?_)
    · skip
      refine z_iincT (pc := 131) dX11_isOnEdge_131 rfl rfl (by decide) (by decide) (by omega) (by omega) rfl rfl (fun v => by dsimp only [setI, setL, List.set]) (fun v131 e131 => ?_)
      refine z_goto (pc := 134) (tgt := 56) dX11_isOnEdge_134 rfl ?_
      exact ih (k + 1) x4 x5 v131 (by omega) (by omega) (by omega) ⟨fun z => sL.mpr (Or.inl (e4.mp z)), fun z => (sL.mp z).elim e4.mpr (fun y => absurd (prs_mem.mp y.1).2 (by rw [maway_of (hQ.2.1.2 k (by omega)).2.2.2.2 h72]; decide))⟩ ⟨fun z => sR.mpr (Or.inl (e5.mp z)), fun z => (sR.mp z).elim e5.mpr (fun y => absurd (prs_mem.mp y.1).2 (by rw [maway_of (hQ.2.1.2 k (by omega)).2.2.2.2 h72]; decide))⟩
    · skip
      refine z_aload_n (pc := 75) dX11_isOnEdge_75 rfl ?_
      refine z_getR (pc := 76) (t := 47) dX11_isOnEdge_76 fk_X11_69 rfl (by decide) (by decide) (by decide) rfl ?_
      refine z_iload (pc := 79) dX11_isOnEdge_79 rfl ?_
      refine z_ialdN (pc := 81) k dX11_isOnEdge_81 rfl (by decide) hk (by show _ < 40; omega) ?_
      refine zq_if_ne (pc := 82) (tgt := 131) dX11_isOnEdge_82 rfl rfl (fun h82 => ?_) (fun h82 => ?_)
      · skip
        refine z_iincT (pc := 131) dX11_isOnEdge_131 rfl rfl (by decide) (by decide) (by omega) (by omega) rfl rfl (fun v => by dsimp only [setI, setL, List.set]) (fun v131 e131 => ?_)
        refine z_goto (pc := 134) (tgt := 56) dX11_isOnEdge_134 rfl ?_
        exact ih (k + 1) x4 x5 v131 (by omega) (by omega) (by omega) ⟨fun z => sL.mpr (Or.inl (e4.mp z)), fun z => (sL.mp z).elim e4.mpr (fun y => absurd y.2.1 (by have := hm k y.1; omega))⟩ ⟨fun z => sR.mpr (Or.inl (e5.mp z)), fun z => (sR.mp z).elim e5.mpr (fun y => absurd y.2.1 (by have := hm k y.1; omega))⟩
      · skip
        have hkP : k ∈ prs n pt := prs_mem.mpr ⟨by omega, mthere_of (hQ.2.1.2 k (by omega)).2.2.2.2 h72⟩
        have hz : LY (prs n pt) pt r k = 0 := by have := hm k hkP; omega
        refine z_iload (pc := 85) dX11_isOnEdge_85 rfl ?_
        refine zq_if_ne (pc := 87) (tgt := 101) dX11_isOnEdge_87 rfl rfl (fun h87 => ?_) (fun h87 => ?_)
        · skip
          refine z_iconst (pc := 101) (v := 1) dX11_isOnEdge_101 (by decide) ?_
          refine z_goto (pc := 102) (tgt := 106) dX11_isOnEdge_102 rfl ?_
          refine z_istore (pc := 106) dX11_isOnEdge_106 rfl rfl (by dsimp only [setI, setL, List.set]) ?_
          refine z_iload (pc := 108) dX11_isOnEdge_108 rfl ?_
          refine zq_if_ne (pc := 110) (tgt := 124) dX11_isOnEdge_110 rfl rfl (fun h110 => ?_) (fun h110 => ?_)
          · skip
            refine z_iconst (pc := 124) (v := 1) dX11_isOnEdge_124 (by decide) ?_
            refine z_goto (pc := 125) (tgt := 129) dX11_isOnEdge_125 rfl ?_
            refine z_istore (pc := 129) dX11_isOnEdge_129 rfl rfl (by dsimp only [setI, setL, List.set]) ?_
            refine z_iincT (pc := 131) dX11_isOnEdge_131 rfl rfl (by decide) (by decide) (by omega) (by omega) rfl rfl (fun v => by dsimp only [setI, setL, List.set]) (fun v131 e131 => ?_)
            refine z_goto (pc := 134) (tgt := 56) dX11_isOnEdge_134 rfl ?_
            have fL4 : (1 : Int32).toInt ≠ 0 ↔ exN n pt (gL n pt r p q) (k + 1) := ⟨fun _ => sL.mpr (Or.inl (e4.mp h87)), fun _ => (by decide)⟩
            have fR5 : (1 : Int32).toInt ≠ 0 ↔ exN n pt (gR n pt r p q) (k + 1) := ⟨fun _ => sR.mpr (Or.inl (e5.mp h110)), fun _ => (by decide)⟩
            exact ih (k + 1) 1 1 v131 (by omega) (by omega) (by omega) fL4 fR5
          · skip
            refine z_aload_n (pc := 113) dX11_isOnEdge_113 rfl ?_
            refine z_iload (pc := 114) dX11_isOnEdge_114 rfl ?_
            refine z_iv1 (pc := 116) dX11_isOnEdge_116 kv_X11_210 rfl (by decide) (by decide) rfl rfl ?_
            refine c_mat (i := k) hQ hL (by omega) (by omega) hk (fun ra116 era116 => ?_)
            refine z_lconst (pc := 119) (v := 0) dX11_isOnEdge_119 (by decide) ?_
            refine zq_lc_ge (pc := 120) (cy := 0) (tgt := 128) dX11_isOnEdge_120 dX11_isOnEdge_121 rfl rfl (by decide) (fun h120 => ?_) (fun h120 => ?_)
            · skip
              refine z_iconst (pc := 128) (v := 0) dX11_isOnEdge_128 (by decide) ?_
              refine z_istore (pc := 129) dX11_isOnEdge_129 rfl rfl (by dsimp only [setI, setL, List.set]) ?_
              refine z_iincT (pc := 131) dX11_isOnEdge_131 rfl rfl (by decide) (by decide) (by omega) (by omega) rfl rfl (fun v => by dsimp only [setI, setL, List.set]) (fun v131 e131 => ?_)
              refine z_goto (pc := 134) (tgt := 56) dX11_isOnEdge_134 rfl ?_
              have fL4 : (1 : Int32).toInt ≠ 0 ↔ exN n pt (gL n pt r p q) (k + 1) := ⟨fun _ => sL.mpr (Or.inl (e4.mp h87)), fun _ => (by decide)⟩
              have fR5 : (0 : Int32).toInt ≠ 0 ↔ exN n pt (gR n pt r p q) (k + 1) := ⟨fun z => absurd rfl z, fun z => by
                rcases sR.mp z with z | z
                · exact absurd (e5.mpr z) (by omega)
                · have := z.2.2; omega⟩
              exact ih (k + 1) 1 0 v131 (by omega) (by omega) (by omega) fL4 fR5
            · skip
              refine z_iconst (pc := 124) (v := 1) dX11_isOnEdge_124 (by decide) ?_
              refine z_goto (pc := 125) (tgt := 129) dX11_isOnEdge_125 rfl ?_
              refine z_istore (pc := 129) dX11_isOnEdge_129 rfl rfl (by dsimp only [setI, setL, List.set]) ?_
              refine z_iincT (pc := 131) dX11_isOnEdge_131 rfl rfl (by decide) (by decide) (by omega) (by omega) rfl rfl (fun v => by dsimp only [setI, setL, List.set]) (fun v131 e131 => ?_)
              refine z_goto (pc := 134) (tgt := 56) dX11_isOnEdge_134 rfl ?_
              have fL4 : (1 : Int32).toInt ≠ 0 ↔ exN n pt (gL n pt r p q) (k + 1) := ⟨fun _ => sL.mpr (Or.inl (e4.mp h87)), fun _ => (by decide)⟩
              have fR5 : (1 : Int32).toInt ≠ 0 ↔ exN n pt (gR n pt r p q) (k + 1) := ⟨fun _ => sR.mpr (Or.inr ⟨hkP, hz, by omega⟩), fun _ => (by decide)⟩
              exact ih (k + 1) 1 1 v131 (by omega) (by omega) (by omega) fL4 fR5
        · skip
          refine z_aload_n (pc := 90) dX11_isOnEdge_90 rfl ?_
          refine z_iload (pc := 91) dX11_isOnEdge_91 rfl ?_
          refine z_iv1 (pc := 93) dX11_isOnEdge_93 kv_X11_210 rfl (by decide) (by decide) rfl rfl ?_
          refine c_mat (i := k) hQ hL (by omega) (by omega) hk (fun ra93 era93 => ?_)
          refine z_lconst (pc := 96) (v := 0) dX11_isOnEdge_96 (by decide) ?_
          refine zq_lc_le (pc := 97) (cy := 0) (tgt := 105) dX11_isOnEdge_97 dX11_isOnEdge_98 rfl rfl (by decide) (fun h97 => ?_) (fun h97 => ?_)
          · skip
            refine z_iconst (pc := 105) (v := 0) dX11_isOnEdge_105 (by decide) ?_
            refine z_istore (pc := 106) dX11_isOnEdge_106 rfl rfl (by dsimp only [setI, setL, List.set]) ?_
            refine z_iload (pc := 108) dX11_isOnEdge_108 rfl ?_
            refine zq_if_ne (pc := 110) (tgt := 124) dX11_isOnEdge_110 rfl rfl (fun h110 => ?_) (fun h110 => ?_)
            · skip
              refine z_iconst (pc := 124) (v := 1) dX11_isOnEdge_124 (by decide) ?_
              refine z_goto (pc := 125) (tgt := 129) dX11_isOnEdge_125 rfl ?_
              refine z_istore (pc := 129) dX11_isOnEdge_129 rfl rfl (by dsimp only [setI, setL, List.set]) ?_
              refine z_iincT (pc := 131) dX11_isOnEdge_131 rfl rfl (by decide) (by decide) (by omega) (by omega) rfl rfl (fun v => by dsimp only [setI, setL, List.set]) (fun v131 e131 => ?_)
              refine z_goto (pc := 134) (tgt := 56) dX11_isOnEdge_134 rfl ?_
              have fL4 : (0 : Int32).toInt ≠ 0 ↔ exN n pt (gL n pt r p q) (k + 1) := ⟨fun z => absurd rfl z, fun z => by
                rcases sL.mp z with z | z
                · exact absurd (e4.mpr z) (by omega)
                · have := z.2.2; omega⟩
              have fR5 : (1 : Int32).toInt ≠ 0 ↔ exN n pt (gR n pt r p q) (k + 1) := ⟨fun _ => sR.mpr (Or.inl (e5.mp h110)), fun _ => (by decide)⟩
              exact ih (k + 1) 0 1 v131 (by omega) (by omega) (by omega) fL4 fR5
            · skip
              refine z_aload_n (pc := 113) dX11_isOnEdge_113 rfl ?_
              refine z_iload (pc := 114) dX11_isOnEdge_114 rfl ?_
              refine z_iv1 (pc := 116) dX11_isOnEdge_116 kv_X11_210 rfl (by decide) (by decide) rfl rfl ?_
              refine c_mat (i := k) hQ hL (by omega) (by omega) hk (fun ra116 era116 => ?_)
              refine z_lconst (pc := 119) (v := 0) dX11_isOnEdge_119 (by decide) ?_
              refine zq_lc_ge (pc := 120) (cy := 0) (tgt := 128) dX11_isOnEdge_120 dX11_isOnEdge_121 rfl rfl (by decide) (fun h120 => ?_) (fun h120 => ?_)
              · skip
                refine z_iconst (pc := 128) (v := 0) dX11_isOnEdge_128 (by decide) ?_
                refine z_istore (pc := 129) dX11_isOnEdge_129 rfl rfl (by dsimp only [setI, setL, List.set]) ?_
                refine z_iincT (pc := 131) dX11_isOnEdge_131 rfl rfl (by decide) (by decide) (by omega) (by omega) rfl rfl (fun v => by dsimp only [setI, setL, List.set]) (fun v131 e131 => ?_)
                refine z_goto (pc := 134) (tgt := 56) dX11_isOnEdge_134 rfl ?_
                have fL4 : (0 : Int32).toInt ≠ 0 ↔ exN n pt (gL n pt r p q) (k + 1) := ⟨fun z => absurd rfl z, fun z => by
                  rcases sL.mp z with z | z
                  · exact absurd (e4.mpr z) (by omega)
                  · have := z.2.2; omega⟩
                have fR5 : (0 : Int32).toInt ≠ 0 ↔ exN n pt (gR n pt r p q) (k + 1) := ⟨fun z => absurd rfl z, fun z => by
                  rcases sR.mp z with z | z
                  · exact absurd (e5.mpr z) (by omega)
                  · have := z.2.2; omega⟩
                exact ih (k + 1) 0 0 v131 (by omega) (by omega) (by omega) fL4 fR5
              · skip
                refine z_iconst (pc := 124) (v := 1) dX11_isOnEdge_124 (by decide) ?_
                refine z_goto (pc := 125) (tgt := 129) dX11_isOnEdge_125 rfl ?_
                refine z_istore (pc := 129) dX11_isOnEdge_129 rfl rfl (by dsimp only [setI, setL, List.set]) ?_
                refine z_iincT (pc := 131) dX11_isOnEdge_131 rfl rfl (by decide) (by decide) (by omega) (by omega) rfl rfl (fun v => by dsimp only [setI, setL, List.set]) (fun v131 e131 => ?_)
                refine z_goto (pc := 134) (tgt := 56) dX11_isOnEdge_134 rfl ?_
                have fL4 : (0 : Int32).toInt ≠ 0 ↔ exN n pt (gL n pt r p q) (k + 1) := ⟨fun z => absurd rfl z, fun z => by
                  rcases sL.mp z with z | z
                  · exact absurd (e4.mpr z) (by omega)
                  · have := z.2.2; omega⟩
                have fR5 : (1 : Int32).toInt ≠ 0 ↔ exN n pt (gR n pt r p q) (k + 1) := ⟨fun _ => sR.mpr (Or.inr ⟨hkP, hz, by omega⟩), fun _ => (by decide)⟩
                exact ih (k + 1) 0 1 v131 (by omega) (by omega) (by omega) fL4 fR5
          · skip
            refine z_iconst (pc := 101) (v := 1) dX11_isOnEdge_101 (by decide) ?_
            refine z_goto (pc := 102) (tgt := 106) dX11_isOnEdge_102 rfl ?_
            refine z_istore (pc := 106) dX11_isOnEdge_106 rfl rfl (by dsimp only [setI, setL, List.set]) ?_
            refine z_iload (pc := 108) dX11_isOnEdge_108 rfl ?_
            refine zq_if_ne (pc := 110) (tgt := 124) dX11_isOnEdge_110 rfl rfl (fun h110 => ?_) (fun h110 => ?_)
            · skip
              refine z_iconst (pc := 124) (v := 1) dX11_isOnEdge_124 (by decide) ?_
              refine z_goto (pc := 125) (tgt := 129) dX11_isOnEdge_125 rfl ?_
              refine z_istore (pc := 129) dX11_isOnEdge_129 rfl rfl (by dsimp only [setI, setL, List.set]) ?_
              refine z_iincT (pc := 131) dX11_isOnEdge_131 rfl rfl (by decide) (by decide) (by omega) (by omega) rfl rfl (fun v => by dsimp only [setI, setL, List.set]) (fun v131 e131 => ?_)
              refine z_goto (pc := 134) (tgt := 56) dX11_isOnEdge_134 rfl ?_
              have fL4 : (1 : Int32).toInt ≠ 0 ↔ exN n pt (gL n pt r p q) (k + 1) := ⟨fun _ => sL.mpr (Or.inr ⟨hkP, hz, by omega⟩), fun _ => (by decide)⟩
              have fR5 : (1 : Int32).toInt ≠ 0 ↔ exN n pt (gR n pt r p q) (k + 1) := ⟨fun _ => sR.mpr (Or.inl (e5.mp h110)), fun _ => (by decide)⟩
              exact ih (k + 1) 1 1 v131 (by omega) (by omega) (by omega) fL4 fR5
            · skip
              refine z_aload_n (pc := 113) dX11_isOnEdge_113 rfl ?_
              refine z_iload (pc := 114) dX11_isOnEdge_114 rfl ?_
              refine z_iv1 (pc := 116) dX11_isOnEdge_116 kv_X11_210 rfl (by decide) (by decide) rfl rfl ?_
              refine c_mat (i := k) hQ hL (by omega) (by omega) hk (fun ra116 era116 => ?_)
              refine z_lconst (pc := 119) (v := 0) dX11_isOnEdge_119 (by decide) ?_
              refine zq_lc_ge (pc := 120) (cy := 0) (tgt := 128) dX11_isOnEdge_120 dX11_isOnEdge_121 rfl rfl (by decide) (fun h120 => ?_) (fun h120 => ?_)
              · skip
                refine z_iconst (pc := 128) (v := 0) dX11_isOnEdge_128 (by decide) ?_
                refine z_istore (pc := 129) dX11_isOnEdge_129 rfl rfl (by dsimp only [setI, setL, List.set]) ?_
                refine z_iincT (pc := 131) dX11_isOnEdge_131 rfl rfl (by decide) (by decide) (by omega) (by omega) rfl rfl (fun v => by dsimp only [setI, setL, List.set]) (fun v131 e131 => ?_)
                refine z_goto (pc := 134) (tgt := 56) dX11_isOnEdge_134 rfl ?_
                have fL4 : (1 : Int32).toInt ≠ 0 ↔ exN n pt (gL n pt r p q) (k + 1) := ⟨fun _ => sL.mpr (Or.inr ⟨hkP, hz, by omega⟩), fun _ => (by decide)⟩
                have fR5 : (0 : Int32).toInt ≠ 0 ↔ exN n pt (gR n pt r p q) (k + 1) := ⟨fun z => absurd rfl z, fun z => by
                  rcases sR.mp z with z | z
                  · exact absurd (e5.mpr z) (by omega)
                  · have := z.2.2; omega⟩
                exact ih (k + 1) 1 0 v131 (by omega) (by omega) (by omega) fL4 fR5
              · skip
                refine z_iconst (pc := 124) (v := 1) dX11_isOnEdge_124 (by decide) ?_
                refine z_goto (pc := 125) (tgt := 129) dX11_isOnEdge_125 rfl ?_
                refine z_istore (pc := 129) dX11_isOnEdge_129 rfl rfl (by dsimp only [setI, setL, List.set]) ?_
                refine z_iincT (pc := 131) dX11_isOnEdge_131 rfl rfl (by decide) (by decide) (by omega) (by omega) rfl rfl (fun v => by dsimp only [setI, setL, List.set]) (fun v131 e131 => ?_)
                refine z_goto (pc := 134) (tgt := 56) dX11_isOnEdge_134 rfl ?_
                have fL4 : (1 : Int32).toInt ≠ 0 ↔ exN n pt (gL n pt r p q) (k + 1) := ⟨fun _ => sL.mpr (Or.inr ⟨hkP, hz, by omega⟩), fun _ => (by decide)⟩
                have fR5 : (1 : Int32).toInt ≠ 0 ↔ exN n pt (gR n pt r p q) (k + 1) := ⟨fun _ => sR.mpr (Or.inr ⟨hkP, hz, by omega⟩), fun _ => (by decide)⟩
                exact ih (k + 1) 1 1 v131 (by omega) (by omega) (by omega) fL4 fR5

theorem c_medge_q {l : Launch} {G : Gx} {d : Nat} {σ : Sg} {Q : Option Value → Sg → Prop} {n r p : Nat} {pt : Nat → Pt} {x1 : Int32} (hQ : rmQ σ n pt) (hm : mly σ n pt r) (hp : p < n) (hx : x1.toInt = (p : Int)) (ht : ∀ τ, FrQ σ τ → τ.1 = σ.1 → onE (fgr (prs n pt) pt r) pt p = true → Q (some (.int 1)) τ) (hf : ∀ τ, FrQ σ τ → τ.1 = σ.1 → onE (fgr (prs n pt) pt r) pt p = false → Q (some (.int 0)) τ) : ∀ (f q : Nat) (x2 x3 : Int32) (y4 y5 y6 : Option Value) (τ : Sg), x3.toInt = (q : Int) → q ≤ n → n - q < f → (x2 = 0 ∨ x2 = 1) → (x2 = 0 ↔ exN n pt (fA n pt r p) q) → ¬ exN n pt (fO n pt r p) q → FrQ σ τ → τ.1 = σ.1 → Z l G M_X11_isOnEdge (d + 2) 4 [some (.ref 1), some (.int x1), some (.int x2), some (.int x3), y4, y5, y6] [] τ Q := by
  intro f
  induction f with
  | zero => intro q x2 x3 y4 y5 y6 τ hq hqn hfu e01 eA eO hF hT; omega
  | succ f ih =>
  intro q x2 x3 y4 y5 y6 τ hq hqn hfu e01 eA eO hF hT
  refine z_sub (L' := [some _, some _, some _, some _, none, none, none]) ⟨rfl, rfl, rfl, rfl, trivial⟩ ?_
  have hQt := rmQ_Fr hQ hF
  have hmt : mly τ n pt r := mly_1 hm (by rw [hT])
  have hg := hQt.2.1.1
  have hn := hQ.1
  have sA := exN_succ (n := n) (pt := pt) (φ := fA n pt r p) (k := q)
  have sO := exN_succ (n := n) (pt := pt) (φ := fO n pt r p) (k := q)
  refine z_iload_n (pc := 4) dX11_isOnEdge_4 rfl ?_
  refine z_aload_n (pc := 5) dX11_isOnEdge_5 rfl ?_
  refine z_getI (pc := 6) dX11_isOnEdge_6 fk_X11_101 rfl (by decide) (by decide) (by decide) ?_
  refine zq_icmp_ge (pc := 9) (tgt := 155) dX11_isOnEdge_9 rfl rfl rfl (fun h9 => ?_) (fun h9 => ?_)
  · skip
    refine z_iload_n (pc := 155) dX11_isOnEdge_155 rfl ?_
    refine z_zret (pc := 156) dX11_isOnEdge_156 rfl (by assumption) ?_
    rcases e01 with rfl | rfl
    · refine hf τ hF hT ?_
      cases hb : onE (fgr (prs n pt) pt r) pt p with
      | false => rfl
      | true =>
        rcases onE_ex.mp hb with z | z
        · exact absurd ((exN_all (by omega)).mp (eA.mp rfl)) z
        · exact absurd ((exN_all (by omega)).mpr z) eO
    · exact ht τ hF hT (onE_ex.mpr (Or.inl (fun z => absurd (eA.mpr ((exN_all (by omega)).mpr z)) (by decide))))
  · skip
    refine z_aload_n (pc := 12) dX11_isOnEdge_12 rfl ?_
    refine z_getR (pc := 13) (t := 35) dX11_isOnEdge_13 fk_X11_22 rfl (by decide) (by decide) (by decide) rfl ?_
    refine z_iload_n (pc := 16) dX11_isOnEdge_16 rfl ?_
    refine z_zaldN (pc := 17) q dX11_isOnEdge_17 rfl (by decide) hq (by show _ < 40; omega) ?_
    refine zq_if_ne (pc := 18) (tgt := 149) dX11_isOnEdge_18 rfl rfl (fun h18 => ?_) (fun h18 => ?_)
    · skip
      refine z_iincT (pc := 149) dX11_isOnEdge_149 rfl rfl (by decide) (by decide) (by omega) (by omega) rfl rfl (fun v => by dsimp only [setI, setL, List.set]) (fun v149 e149 => ?_)
      refine z_goto (pc := 152) (tgt := 4) dX11_isOnEdge_152 rfl ?_
      exact ih (q + 1) x2 v149 _ _ _ τ (by omega) (by omega) (by omega) e01 ⟨fun z => sA.mpr (Or.inl (eA.mp z)), fun z => (sA.mp z).elim eA.mpr (fun y => absurd (prs_mem.mp y.1).2 (by rw [maway_of (hQt.2.1.2 q (by omega)).2.2.2.2 h18]; decide))⟩ (fun z => (sO.mp z).elim eO (fun y => absurd (prs_mem.mp y.1).2 (by rw [maway_of (hQt.2.1.2 q (by omega)).2.2.2.2 h18]; decide))) hF hT
    · skip
      refine z_aload_n (pc := 21) dX11_isOnEdge_21 rfl ?_
      refine z_getR (pc := 22) (t := 47) dX11_isOnEdge_22 fk_X11_69 rfl (by decide) (by decide) (by decide) rfl ?_
      refine z_iload_n (pc := 25) dX11_isOnEdge_25 rfl ?_
      refine z_ialdN (pc := 26) q dX11_isOnEdge_26 rfl (by decide) hq (by show _ < 40; omega) ?_
      refine zq_if_ne (pc := 27) (tgt := 149) dX11_isOnEdge_27 rfl rfl (fun h27 => ?_) (fun h27 => ?_)
      · skip
        refine z_iincT (pc := 149) dX11_isOnEdge_149 rfl rfl (by decide) (by decide) (by omega) (by omega) rfl rfl (fun v => by dsimp only [setI, setL, List.set]) (fun v149 e149 => ?_)
        refine z_goto (pc := 152) (tgt := 4) dX11_isOnEdge_152 rfl ?_
        exact ih (q + 1) x2 v149 _ _ _ τ (by omega) (by omega) (by omega) e01 ⟨fun z => sA.mpr (Or.inl (eA.mp z)), fun z => (sA.mp z).elim eA.mpr (fun y => absurd y.2.1 (by have := hmt q y.1; omega))⟩ (fun z => (sO.mp z).elim eO (fun y => absurd y.2.1 (by have := hmt q y.1; omega))) hF hT
      · skip
        have hqP : q ∈ prs n pt := prs_mem.mpr ⟨by omega, mthere_of (hQt.2.1.2 q (by omega)).2.2.2.2 h18⟩
        have hz : LY (prs n pt) pt r q = 0 := by have := hmt q hqP; omega
        refine z_aload_n (pc := 30) dX11_isOnEdge_30 rfl ?_
        refine z_iload_n (pc := 31) dX11_isOnEdge_31 rfl ?_
        refine z_iload_n (pc := 32) dX11_isOnEdge_32 rfl ?_
        refine z_iv2 (pc := 33) dX11_isOnEdge_33 kv_X11_200 rfl (by decide) (by decide) rfl rfl ?_
        refine c_mapart hQt hp (by omega) hx hq (fun qa => ?_) (fun qa => ?_)
        · skip
          refine z_if_eq (pc := 36) (tgt := 149) dX11_isOnEdge_36 rfl (fun hc => absurd hc (by decide)) (fun _ => ?_)
          refine z_iconst (pc := 39) (v := 0) dX11_isOnEdge_39 (by decide) ?_
          refine z_istore_n (pc := 40) dX11_isOnEdge_40 rfl rfl (by dsimp only [setI, setL, List.set]) ?_
          refine z_aload_n (pc := 41) dX11_isOnEdge_41 rfl ?_
          refine z_iload_n (pc := 42) dX11_isOnEdge_42 rfl ?_
          refine z_iload_n (pc := 43) dX11_isOnEdge_43 rfl ?_
          refine z_iv2 (pc := 44) dX11_isOnEdge_44 kv_X11_203 rfl (by decide) (by decide) rfl rfl ?_
          refine c_mlook hQt hp (by omega) hx hq qa (fun υ hL uF t1 t2 t3 => ?_)
          refine z_iconst (pc := 47) (v := 0) dX11_isOnEdge_47 (by decide) ?_
          refine z_istore (pc := 48) dX11_isOnEdge_48 rfl rfl (by dsimp only [setI, setL, List.set]) ?_
          refine z_iconst (pc := 50) (v := 0) dX11_isOnEdge_50 (by decide) ?_
          refine z_istore (pc := 51) dX11_isOnEdge_51 rfl rfl (by dsimp only [setI, setL, List.set]) ?_
          refine z_iconst (pc := 53) (v := 0) dX11_isOnEdge_53 (by decide) ?_
          refine z_istore (pc := 54) dX11_isOnEdge_54 rfl rfl (by dsimp only [setI, setL, List.set]) ?_
          refine c_medge_k (rmQ_Fr hQt uF) (mly_1 hmt (by rw [t1])) hL hp (by omega) qa ?_ (n + 1) 0 0 0 0 (by decide) (by omega) (by omega) ⟨fun z => absurd rfl z, fun z => absurd z exN_0⟩ ⟨fun z => absurd rfl z, fun z => absurd z exN_0⟩
          intro z4 z5 z6 f4 f5
          refine z_iload (pc := 137) dX11_isOnEdge_137 rfl ?_
          refine zq_if_eq (pc := 139) (tgt := 147) dX11_isOnEdge_139 rfl rfl (fun h139 => ?_) (fun h139 => ?_)
          · skip
            refine z_iconst (pc := 147) (v := 1) dX11_isOnEdge_147 (by decide) ?_
            refine z_zret (pc := 148) dX11_isOnEdge_148 rfl (by decide) ?_
            exact ht υ (FrQ_tr hF uF) (t1.trans hT) (onE_ex.mpr (Or.inr ⟨q, hqP, hz, qa, (oneS_m qa).mpr (fun w => by have h1 := f4.mpr w.1; have h2 := f5.mpr w.2; omega)⟩))
          · skip
            refine z_iload (pc := 142) dX11_isOnEdge_142 rfl ?_
            refine zq_if_ne (pc := 144) (tgt := 149) dX11_isOnEdge_144 rfl rfl (fun h144 => ?_) (fun h144 => ?_)
            · skip
              refine z_iincT (pc := 149) dX11_isOnEdge_149 rfl rfl (by decide) (by decide) (by omega) (by omega) rfl rfl (fun v => by dsimp only [setI, setL, List.set]) (fun v149 e149 => ?_)
              refine z_goto (pc := 152) (tgt := 4) dX11_isOnEdge_152 rfl ?_
              exact ih (q + 1) 0 v149 _ _ _ υ (by omega) (by omega) (by omega) (Or.inl rfl) ⟨fun _ => sA.mpr (Or.inr ⟨hqP, hz, qa⟩), fun _ => rfl⟩ (fun z => (sO.mp z).elim eO (fun y => (oneS_m qa).mp y.2.2.2 ⟨f4.mp h139, f5.mp h144⟩)) (FrQ_tr hF uF) (t1.trans hT)
            · skip
              refine z_iconst (pc := 147) (v := 1) dX11_isOnEdge_147 (by decide) ?_
              refine z_zret (pc := 148) dX11_isOnEdge_148 rfl (by decide) ?_
              exact ht υ (FrQ_tr hF uF) (t1.trans hT) (onE_ex.mpr (Or.inr ⟨q, hqP, hz, qa, (oneS_m qa).mpr (fun w => by have h1 := f4.mpr w.1; have h2 := f5.mpr w.2; omega)⟩))
        · skip
          refine z_if_eq (pc := 36) (tgt := 149) dX11_isOnEdge_36 rfl (fun _ => ?_) (fun hc => absurd hc (by decide))
          refine z_iincT (pc := 149) dX11_isOnEdge_149 rfl rfl (by decide) (by decide) (by omega) (by omega) rfl rfl (fun v => by dsimp only [setI, setL, List.set]) (fun v149 e149 => ?_)
          refine z_goto (pc := 152) (tgt := 4) dX11_isOnEdge_152 rfl ?_
          exact ih (q + 1) x2 v149 _ _ _ τ (by omega) (by omega) (by omega) e01 ⟨fun z => sA.mpr (Or.inl (eA.mp z)), fun z => (sA.mp z).elim eA.mpr (fun y => absurd (show apt (pt p) (pt q) = true from y.2.2) (by rw [qa]; decide))⟩ (fun z => (sO.mp z).elim eO (fun y => absurd (show apt (pt p) (pt q) = true from y.2.2.1) (by rw [qa]; decide))) hF hT

theorem c_X11_isOnEdge {l : Launch} {G : Gx} {d : Nat} {σ : Sg} {Q : Option Value → Sg → Prop} {n r p : Nat} {pt : Nat → Pt} {x1 : Int32} (hQ : rmQ σ n pt) (hm : mly σ n pt r) (hp : p < n) (hx : x1.toInt = (p : Int)) (ht : ∀ τ, FrQ σ τ → τ.1 = σ.1 → onE (fgr (prs n pt) pt r) pt p = true → Q (some (.int 1)) τ) (hf : ∀ τ, FrQ σ τ → τ.1 = σ.1 → onE (fgr (prs n pt) pt r) pt p = false → Q (some (.int 0)) τ)  : Z l G M_X11_isOnEdge (d + 2) 0 [some (.ref 1), some (.int x1)] [] σ Q := by
  refine z_sub (L' := [some (.ref 1), some (.int x1), none, none, none, none, none]) ⟨rfl, rfl, trivial⟩ ?_
  refine z_iconst (pc := 0) (v := 1) dX11_isOnEdge_0 (by decide) ?_
  refine z_istore_n (pc := 1) dX11_isOnEdge_1 rfl rfl (by dsimp only [setI, setL, List.set]) ?_
  refine z_iconst (pc := 2) (v := 0) dX11_isOnEdge_2 (by decide) ?_
  refine z_istore_n (pc := 3) dX11_isOnEdge_3 rfl rfl (by dsimp only [setI, setL, List.set]) ?_
  exact c_medge_q hQ hm hp hx ht hf (n + 1) 0 1 0 _ _ _ σ (by decide) (by omega) (by omega) (Or.inr rfl) ⟨fun z => absurd z (by decide), fun z => absurd z exN_0⟩ exN_0 FrQ_rf rfl

/-- a plant that is peeled in this round -/
def mkd (n : Nat) (pt : Nat → Pt) (r p : Nat) : Prop := p ∈ prs n pt ∧ LY (prs n pt) pt r p = 0 ∧ onE (fgr (prs n pt) pt r) pt p = true
def edg (σ : Sg) (n : Nat) (pt : Nat → Pt) (r k : Nat) : Prop := ∀ p, p < k → (σ.1 48 p = 1 ∧ mkd n pt r p) ∨ (σ.1 48 p = 0 ∧ ¬ mkd n pt r p)
/-- how many of the first k are in no layer after r rounds -/
def lft (n : Nat) (pt : Nat → Pt) (r k : Nat) : Nat := ((prs k pt).filter (fun q => LY (prs n pt) pt r q == 0)).length
theorem lft_n (n : Nat) (pt : Nat → Pt) (r : Nat) : lft n pt r n = (fgr (prs n pt) pt r).length := rfl
theorem lft_succ (n : Nat) (pt : Nat → Pt) (r k : Nat) : lft n pt r (k + 1) = lft n pt r k + (if (pt k).2.2.2.2 = false ∧ LY (prs n pt) pt r k = 0 then 1 else 0) := by
  unfold lft
  rw [prs_succ, List.filter_append, List.length_append]
  congr 1
  cases ha : (pt k).2.2.2.2 with
  | true => simp
  | false =>
    by_cases h : LY (prs n pt) pt r k = 0
    · simp [h]
    · simp [h]
theorem lft_le (n : Nat) (pt : Nat → Pt) (r k : Nat) : lft n pt r k ≤ k := by
  have h1 := List.length_filter_le (fun q => LY (prs n pt) pt r q == 0) (prs k pt)
  have h2 := prs_len k pt
  unfold lft
  omega
theorem LY_same {n r p : Nat} {pt : Nat → Pt} (hp : p ∈ prs n pt) (h : ¬ mkd n pt r p) : LY (prs n pt) pt (r + 1) p = LY (prs n pt) pt r p := by
  by_cases h0 : LY (prs n pt) pt r p = 0
  · rw [LY_new h0, if_neg (fun z => h ⟨hp, h0, z⟩), h0]
  · exact LY_keep h0

theorem c_mfl_3 {l : Launch} {G : Gx} {d : Nat} {σ : Sg} {Q : Option Value → Sg → Prop} {n r : Nat} {pt : Nat → Pt} {x2 : Int32} (hQ : rmQ σ n pt) (h2 : x2.toInt = (r : Int) + 1) (hm : mly σ n pt r) (hE : edg σ n pt r n) (hnext : ∀ (x1 x3 : Int32) (τ : Sg), x1.toInt = ((fgr (prs n pt) pt (r + 1)).length : Int) → mly τ n pt (r + 1) → FrQ σ τ → Z l G M_X11_findLayers (d + 3) 148 [some (.ref 1), some (.int x1), some (.int x2), some (.int x3)] [] τ Q) : ∀ (f k : Nat) (x1 x3 : Int32) (τ : Sg), x3.toInt = (k : Int) → k ≤ n → n - k < f → x1.toInt = (lft n pt r n : Int) - lft n pt r k + lft n pt (r + 1) k → (∀ p ∈ prs n pt, (τ.1 47 p).toInt = ((if p < k then LY (prs n pt) pt (r + 1) p else LY (prs n pt) pt r p : Nat) : Int)) → eqX 47 47 σ τ → Z l G M_X11_findLayers (d + 3) 92 [some (.ref 1), some (.int x1), some (.int x2), some (.int x3)] [] τ Q := by
  intro f
  induction f with
  | zero => intro k x1 x3 τ hk hkn hfu h1 hM hX; omega
  | succ f ih =>
  intro k x1 x3 τ hk hkn hfu h1 hM hX
  have hF := FrQ_X hX (by omega) (by omega)
  have hQt := rmQ_Fr hQ hF
  have hg := hQt.2.1.1
  have hn := hQ.1
  have l1 := lft_le n pt r n
  have l2 := lft_le n pt r k
  have l3 := lft_le n pt (r + 1) k
  have s1 := lft_succ n pt r k
  have s2 := lft_succ n pt (r + 1) k
  refine z_iload_n (pc := 92) dX11_findLayers_92 rfl ?_
  refine z_aload_n (pc := 93) dX11_findLayers_93 rfl ?_
  refine z_getI (pc := 94) dX11_findLayers_94 fk_X11_101 rfl (by decide) (by decide) (by decide) ?_
  refine zq_icmp_ge (pc := 97) (tgt := 148) dX11_findLayers_97 rfl rfl rfl (fun h97 => ?_) (fun h97 => ?_)
  · skip
    have e : k = n := by omega
    subst e
    refine hnext x1 x3 τ (by rw [lft_n k pt (r + 1)] at h1; omega) (fun p hp => ?_) hF
    have := hM p hp
    rw [if_pos (prs_mem.mp hp).1] at this
    exact this
  · skip
    have e48 : τ.1 48 = σ.1 48 := (hX 48 (by omega)).1
    have hk8 := hE k (by omega)
    rw [← e48] at hk8
    refine z_aload_n (pc := 100) dX11_findLayers_100 rfl ?_
    refine z_getR (pc := 101) (t := 47) dX11_findLayers_101 fk_X11_69 rfl (by decide) (by decide) (by decide) rfl ?_
    refine z_iload_n (pc := 104) dX11_findLayers_104 rfl ?_
    refine z_aload_n (pc := 105) dX11_findLayers_105 rfl ?_
    refine z_getR (pc := 106) (t := 48) dX11_findLayers_106 fk_X11_72 rfl (by decide) (by decide) (by decide) rfl ?_
    refine z_iload_n (pc := 109) dX11_findLayers_109 rfl ?_
    refine z_zaldN (pc := 110) k dX11_findLayers_110 rfl (by decide) hk (by show _ < 40; omega) ?_
    refine zq_if_eq (pc := 111) (tgt := 118) dX11_findLayers_111 rfl rfl (fun h111 => ?_) (fun h111 => ?_)
    · skip
      refine z_aload_n (pc := 118) dX11_findLayers_118 rfl ?_
      refine z_getR (pc := 119) (t := 47) dX11_findLayers_119 fk_X11_69 rfl (by decide) (by decide) (by decide) rfl ?_
      refine z_iload_n (pc := 122) dX11_findLayers_122 rfl ?_
      refine z_ialdN (pc := 123) k dX11_findLayers_123 rfl (by decide) hk (by show _ < 40; omega) ?_
      refine z_iastN (pc := 124) k dX11_findLayers_124 rfl (by decide) hk (by show _ < 40; omega) ?_
      refine z_iload_n (pc := 125) dX11_findLayers_125 rfl ?_
      refine z_aload_n (pc := 126) dX11_findLayers_126 rfl ?_
      refine z_getR (pc := 127) (t := 48) dX11_findLayers_127 fk_X11_72 rfl (by decide) (by decide) (by decide) rfl ?_
      refine z_iload_n (pc := 130) dX11_findLayers_130 rfl ?_
      refine z_zaldN (pc := 131) k dX11_findLayers_131 rfl (by decide) hk (by show _ < 40; omega) ?_
      (try simp (disch := omega) only [uI_row])
      refine zq_if_eq (pc := 132) (tgt := 139) dX11_findLayers_132 rfl rfl (fun h132 => ?_) (fun h132 => ?_)
      · skip
        refine z_iconst (pc := 139) (v := 0) dX11_findLayers_139 (by decide) ?_
        refine z_isubT (pc := 140) (cy := 0) dX11_findLayers_140 rfl (by decide) (by omega) (by omega) (fun v140 e140 => ?_)
        refine z_istore_n (pc := 141) dX11_findLayers_141 rfl rfl (by dsimp only [setI, setL, List.set]) ?_
        refine z_iincT (pc := 142) dX11_findLayers_142 rfl rfl (by decide) (by decide) (by omega) (by omega) rfl rfl (fun v => by dsimp only [setI, setL, List.set]) (fun v142 e142 => ?_)
        refine z_goto (pc := 145) (tgt := 92) dX11_findLayers_145 rfl ?_
        have hmk : ¬ mkd n pt r k := by
          rcases hk8 with z | z
          · rw [z.1] at h111; exact absurd h111 (by decide)
          · exact z.2
        have hsm : (pt k).2.2.2.2 = false → LY (prs n pt) pt (r + 1) k = LY (prs n pt) pt r k := fun z => LY_same (prs_mem.mpr ⟨by omega, z⟩) hmk
        have e12 : (if (pt k).2.2.2.2 = false ∧ LY (prs n pt) pt (r + 1) k = 0 then 1 else 0) = (if (pt k).2.2.2.2 = false ∧ LY (prs n pt) pt r k = 0 then 1 else 0) := by
          cases ha : (pt k).2.2.2.2 with
          | true => simp
          | false => rw [hsm ha]
        rw [e12] at s2
        exact ih (k + 1) v140 v142 _ (by omega) (by omega) (by omega) (by omega) (fun p hp => by
          rcases Nat.lt_trichotomy p k with g | g | g
          · rw [uI_nk (by omega), hM p hp, if_pos g, if_pos (by omega)]
          · subst g; rw [uI_eq, hM p hp, if_neg (by omega), if_pos (by omega), hsm (prs_mem.mp hp).2]
          · rw [uI_nk (by omega), hM p hp, if_neg (by omega), if_neg (by omega)]) (eqX_uI hX (by omega) (by omega))
      · skip
        refine z_iconst (pc := 135) (v := 1) dX11_findLayers_135 (by decide) ?_
        refine z_goto (pc := 136) (tgt := 140) dX11_findLayers_136 rfl ?_
        refine z_isubT (pc := 140) (cy := 1) dX11_findLayers_140 rfl (by decide) (by omega) (by omega) (fun v140 e140 => ?_)
        refine z_istore_n (pc := 141) dX11_findLayers_141 rfl rfl (by dsimp only [setI, setL, List.set]) ?_
        refine z_iincT (pc := 142) dX11_findLayers_142 rfl rfl (by decide) (by decide) (by omega) (by omega) rfl rfl (fun v => by dsimp only [setI, setL, List.set]) (fun v142 e142 => ?_)
        refine z_goto (pc := 145) (tgt := 92) dX11_findLayers_145 rfl ?_
        exfalso; omega
    · skip
      refine z_iload_n (pc := 114) dX11_findLayers_114 rfl ?_
      refine z_goto (pc := 115) (tgt := 124) dX11_findLayers_115 rfl ?_
      refine z_iastN (pc := 124) k dX11_findLayers_124 rfl (by decide) hk (by show _ < 40; omega) ?_
      refine z_iload_n (pc := 125) dX11_findLayers_125 rfl ?_
      refine z_aload_n (pc := 126) dX11_findLayers_126 rfl ?_
      refine z_getR (pc := 127) (t := 48) dX11_findLayers_127 fk_X11_72 rfl (by decide) (by decide) (by decide) rfl ?_
      refine z_iload_n (pc := 130) dX11_findLayers_130 rfl ?_
      refine z_zaldN (pc := 131) k dX11_findLayers_131 rfl (by decide) hk (by show _ < 40; omega) ?_
      (try simp (disch := omega) only [uI_row])
      refine zq_if_eq (pc := 132) (tgt := 139) dX11_findLayers_132 rfl rfl (fun h132 => ?_) (fun h132 => ?_)
      · skip
        refine z_iconst (pc := 139) (v := 0) dX11_findLayers_139 (by decide) ?_
        refine z_isubT (pc := 140) (cy := 0) dX11_findLayers_140 rfl (by decide) (by omega) (by omega) (fun v140 e140 => ?_)
        refine z_istore_n (pc := 141) dX11_findLayers_141 rfl rfl (by dsimp only [setI, setL, List.set]) ?_
        refine z_iincT (pc := 142) dX11_findLayers_142 rfl rfl (by decide) (by decide) (by omega) (by omega) rfl rfl (fun v => by dsimp only [setI, setL, List.set]) (fun v142 e142 => ?_)
        refine z_goto (pc := 145) (tgt := 92) dX11_findLayers_145 rfl ?_
        exfalso; omega
      · skip
        refine z_iconst (pc := 135) (v := 1) dX11_findLayers_135 (by decide) ?_
        refine z_goto (pc := 136) (tgt := 140) dX11_findLayers_136 rfl ?_
        refine z_isubT (pc := 140) (cy := 1) dX11_findLayers_140 rfl (by decide) (by omega) (by omega) (fun v140 e140 => ?_)
        refine z_istore_n (pc := 141) dX11_findLayers_141 rfl rfl (by dsimp only [setI, setL, List.set]) ?_
        refine z_iincT (pc := 142) dX11_findLayers_142 rfl rfl (by decide) (by decide) (by omega) (by omega) rfl rfl (fun v => by dsimp only [setI, setL, List.set]) (fun v142 e142 => ?_)
        refine z_goto (pc := 145) (tgt := 92) dX11_findLayers_145 rfl ?_
        have hmk : mkd n pt r k := by
          rcases hk8 with z | z
          · exact z.2
          · rw [z.1] at h111; exact absurd rfl h111
        have hpa := (prs_mem.mp hmk.1).2
        have hnew : LY (prs n pt) pt (r + 1) k = r + 1 := by rw [LY_new hmk.2.1, if_pos hmk.2.2]
        rw [if_pos ⟨hpa, hmk.2.1⟩] at s1
        rw [if_neg (fun z => by omega)] at s2
        exact ih (k + 1) v140 v142 _ (by omega) (by omega) (by omega) (by omega) (fun p hp => by
          rcases Nat.lt_trichotomy p k with g | g | g
          · rw [uI_nk (by omega), hM p hp, if_pos g, if_pos (by omega)]
          · subst g; rw [uI_eq, if_pos (by omega), hnew]; omega
          · rw [uI_nk (by omega), hM p hp, if_neg (by omega), if_neg (by omega)]) (eqX_uI hX (by omega) (by omega))

theorem c_mfl_2 {l : Launch} {G : Gx} {d : Nat} {σ : Sg} {Q : Option Value → Sg → Prop} {n r : Nat} {pt : Nat → Pt} {x1 x2 : Int32} (hQ : rmQ σ n pt) (hm : mly σ n pt r) (hnext : ∀ (x3 : Int32) (τ : Sg), edg τ n pt r n → mly τ n pt r → FrQ σ τ → Z l G M_X11_findLayers (d + 3) 90 [some (.ref 1), some (.int x1), some (.int x2), some (.int x3)] [] τ Q) : ∀ (f k : Nat) (x3 : Int32) (τ : Sg), x3.toInt = (k : Int) → k ≤ n → n - k < f → edg τ n pt r k → τ.1 47 = σ.1 47 → FrQ σ τ → Z l G M_X11_findLayers (d + 3) 39 [some (.ref 1), some (.int x1), some (.int x2), some (.int x3)] [] τ Q := by
  intro f
  induction f with
  | zero => intro k x3 τ hk hkn hfu hE h47 hF; omega
  | succ f ih =>
  intro k x3 τ hk hkn hfu hE h47 hF
  have hQt := rmQ_Fr hQ hF
  have hmt : mly τ n pt r := mly_1 hm h47
  have hg := hQt.2.1.1
  have hn := hQ.1
  refine z_iload_n (pc := 39) dX11_findLayers_39 rfl ?_
  refine z_aload_n (pc := 40) dX11_findLayers_40 rfl ?_
  refine z_getI (pc := 41) dX11_findLayers_41 fk_X11_101 rfl (by decide) (by decide) (by decide) ?_
  refine zq_icmp_ge (pc := 44) (tgt := 90) dX11_findLayers_44 rfl rfl rfl (fun h44 => ?_) (fun h44 => ?_)
  · skip
    have e : k = n := by omega
    subst e
    exact hnext x3 τ hE hmt hF
  · skip
    refine z_aload_n (pc := 47) dX11_findLayers_47 rfl ?_
    refine z_getR (pc := 48) (t := 48) dX11_findLayers_48 fk_X11_72 rfl (by decide) (by decide) (by decide) rfl ?_
    refine z_iload_n (pc := 51) dX11_findLayers_51 rfl ?_
    refine z_aload_n (pc := 52) dX11_findLayers_52 rfl ?_
    refine z_getR (pc := 53) (t := 35) dX11_findLayers_53 fk_X11_22 rfl (by decide) (by decide) (by decide) rfl ?_
    refine z_iload_n (pc := 56) dX11_findLayers_56 rfl ?_
    refine z_zaldN (pc := 57) k dX11_findLayers_57 rfl (by decide) hk (by show _ < 40; omega) ?_
    refine zq_if_ne (pc := 58) (tgt := 82) dX11_findLayers_58 rfl rfl (fun h58 => ?_) (fun h58 => ?_)
    · skip
      refine z_iconst (pc := 82) (v := 0) dX11_findLayers_82 (by decide) ?_
      refine z_zastN (pc := 83) k dX11_findLayers_83 rfl (by decide) hk (by show _ < 40; omega) (by decide) ?_
      refine z_iincT (pc := 84) dX11_findLayers_84 rfl rfl (by decide) (by decide) (by omega) (by omega) rfl rfl (fun v => by dsimp only [setI, setL, List.set]) (fun v84 e84 => ?_)
      refine z_goto (pc := 87) (tgt := 39) dX11_findLayers_87 rfl ?_
      exact ih (k + 1) v84 _ (by omega) (by omega) (by omega) (fun p hp => by
        rcases Nat.lt_or_ge p k with g | g
        · rw [uI_nk (by omega)]; exact hE p g
        · have e : p = k := by omega
          subst e
          rw [uI_eq]
          exact Or.inr ⟨rfl, fun y => absurd (prs_mem.mp y.1).2 (by rw [maway_of (hQt.2.1.2 p (by omega)).2.2.2.2 h58]; decide)⟩) (by rw [uI_row (by omega)]; exact h47) (FrQ_uI hF (by omega) (by omega))
    · skip
      refine z_aload_n (pc := 61) dX11_findLayers_61 rfl ?_
      refine z_getR (pc := 62) (t := 47) dX11_findLayers_62 fk_X11_69 rfl (by decide) (by decide) (by decide) rfl ?_
      refine z_iload_n (pc := 65) dX11_findLayers_65 rfl ?_
      refine z_ialdN (pc := 66) k dX11_findLayers_66 rfl (by decide) hk (by show _ < 40; omega) ?_
      refine zq_if_ne (pc := 67) (tgt := 82) dX11_findLayers_67 rfl rfl (fun h67 => ?_) (fun h67 => ?_)
      · skip
        refine z_iconst (pc := 82) (v := 0) dX11_findLayers_82 (by decide) ?_
        refine z_zastN (pc := 83) k dX11_findLayers_83 rfl (by decide) hk (by show _ < 40; omega) (by decide) ?_
        refine z_iincT (pc := 84) dX11_findLayers_84 rfl rfl (by decide) (by decide) (by omega) (by omega) rfl rfl (fun v => by dsimp only [setI, setL, List.set]) (fun v84 e84 => ?_)
        refine z_goto (pc := 87) (tgt := 39) dX11_findLayers_87 rfl ?_
        exact ih (k + 1) v84 _ (by omega) (by omega) (by omega) (fun p hp => by
          rcases Nat.lt_or_ge p k with g | g
          · rw [uI_nk (by omega)]; exact hE p g
          · have e : p = k := by omega
            subst e
            rw [uI_eq]
            exact Or.inr ⟨rfl, fun y => absurd y.2.1 (by have := hmt p y.1; omega)⟩) (by rw [uI_row (by omega)]; exact h47) (FrQ_uI hF (by omega) (by omega))
      · skip
        have hkP : k ∈ prs n pt := prs_mem.mpr ⟨by omega, mthere_of (hQt.2.1.2 k (by omega)).2.2.2.2 h58⟩
        have hz : LY (prs n pt) pt r k = 0 := by have := hmt k hkP; omega
        refine z_aload_n (pc := 70) dX11_findLayers_70 rfl ?_
        refine z_iload_n (pc := 71) dX11_findLayers_71 rfl ?_
        refine z_iv1 (pc := 72) dX11_findLayers_72 kv_X11_264 rfl (by decide) (by decide) rfl rfl ?_
        refine c_X11_isOnEdge hQt hmt (by omega) hk (fun υ uF t1 qe => ?_) (fun υ uF t1 qe => ?_)
        · skip
          refine z_if_eq (pc := 75) (tgt := 82) dX11_findLayers_75 rfl (fun hc => absurd hc (by decide)) (fun _ => ?_)
          refine z_iconst (pc := 78) (v := 1) dX11_findLayers_78 (by decide) ?_
          refine z_goto (pc := 79) (tgt := 83) dX11_findLayers_79 rfl ?_
          refine z_zastN (pc := 83) k dX11_findLayers_83 rfl (by decide) hk (by show _ < 40; omega) (by decide) ?_
          refine z_iincT (pc := 84) dX11_findLayers_84 rfl rfl (by decide) (by decide) (by omega) (by omega) rfl rfl (fun v => by dsimp only [setI, setL, List.set]) (fun v84 e84 => ?_)
          refine z_goto (pc := 87) (tgt := 39) dX11_findLayers_87 rfl ?_
          exact ih (k + 1) v84 _ (by omega) (by omega) (by omega) (fun p hp => by
            rcases Nat.lt_or_ge p k with g | g
            · rw [uI_nk (by omega), t1]; exact hE p g
            · have e : p = k := by omega
              subst e
              rw [uI_eq]
              exact Or.inl ⟨rfl, hkP, hz, qe⟩) (by rw [uI_row (by omega), t1]; exact h47) (FrQ_uI (FrQ_tr hF uF) (by omega) (by omega))
        · skip
          refine z_if_eq (pc := 75) (tgt := 82) dX11_findLayers_75 rfl (fun _ => ?_) (fun hc => absurd hc (by decide))
          refine z_iconst (pc := 82) (v := 0) dX11_findLayers_82 (by decide) ?_
          refine z_zastN (pc := 83) k dX11_findLayers_83 rfl (by decide) hk (by show _ < 40; omega) (by decide) ?_
          refine z_iincT (pc := 84) dX11_findLayers_84 rfl rfl (by decide) (by decide) (by omega) (by omega) rfl rfl (fun v => by dsimp only [setI, setL, List.set]) (fun v84 e84 => ?_)
          refine z_goto (pc := 87) (tgt := 39) dX11_findLayers_87 rfl ?_
          exact ih (k + 1) v84 _ (by omega) (by omega) (by omega) (fun p hp => by
            rcases Nat.lt_or_ge p k with g | g
            · rw [uI_nk (by omega), t1]; exact hE p g
            · have e : p = k := by omega
              subst e
              rw [uI_eq]
              exact Or.inr ⟨rfl, fun y => by rw [y.2.2] at qe; cases qe⟩) (by rw [uI_row (by omega), t1]; exact h47) (FrQ_uI (FrQ_tr hF uF) (by omega) (by omega))

theorem c_mfl_w {l : Launch} {G : Gx} {d : Nat} {σ : Sg} {Q : Option Value → Sg → Prop} {n : Nat} {pt : Nat → Pt} (hQ : rmQ σ n pt) (h : ∀ (r : Nat) (x : Int32) (τ : Sg), isNL (prs n pt) pt r → x.toInt = (r : Int) → mly τ n pt r → FrQ σ τ → Q (some (.int x)) τ) : ∀ (f r : Nat) (x1 x2 : Int32) (y3 : Option Value) (τ : Sg), x2.toInt = (r : Int) → 40 - r < f → x1.toInt = ((fgr (prs n pt) pt r).length : Int) → (∀ s, s < r → fgr (prs n pt) pt s ≠ []) → mly τ n pt r → FrQ σ τ → Z l G M_X11_findLayers (d + 3) 30 [some (.ref 1), some (.int x1), some (.int x2), y3] [] τ Q := by
  intro f
  induction f with
  | zero => intro r x1 x2 y3 τ hr hfu h1 hs hm hF; omega
  | succ f ih =>
  intro r x1 x2 y3 τ hr hfu h1 hs hm hF
  refine z_sub (L' := [some _, some _, some _, none]) ⟨rfl, rfl, rfl, trivial⟩ ?_
  have hQt := rmQ_Fr hQ hF
  have hn := hQ.1
  have hpl := prs_len n pt
  have hbd := fgr_bound (P := prs n pt) (pt := pt) r hs
  refine z_iload_n (pc := 30) dX11_findLayers_30 rfl ?_
  refine zq_if_le (pc := 31) (tgt := 151) dX11_findLayers_31 rfl rfl (fun h31 => ?_) (fun h31 => ?_)
  · skip
    refine z_iload_n (pc := 151) dX11_findLayers_151 rfl ?_
    refine z_iret (pc := 152) dX11_findLayers_152 rfl ?_
    exact h r x2 τ (isNL_of hs (List.length_eq_zero_iff.mp (by omega))) hr hm hF
  · skip
    have hne : fgr (prs n pt) pt r ≠ [] := fun z => by rw [z] at h1; simp at h1; omega
    refine z_iincT (pc := 34) dX11_findLayers_34 rfl rfl (by decide) (by decide) (by omega) (by omega) rfl rfl (fun v => by dsimp only [setI, setL, List.set]) (fun v34 e34 => ?_)
    refine z_iconst (pc := 37) (v := 0) dX11_findLayers_37 (by decide) ?_
    refine z_istore_n (pc := 38) dX11_findLayers_38 rfl rfl (by dsimp only [setI, setL, List.set]) ?_
    refine c_mfl_2 hQt hm ?_ (n + 1) 0 0 τ (by decide) (by omega) (by omega) (fun p hp => absurd hp (by omega)) rfl FrQ_rf
    intro z3 υ hE hmu uF
    refine z_iconst (pc := 90) (v := 0) dX11_findLayers_90 (by decide) ?_
    refine z_istore_n (pc := 91) dX11_findLayers_91 rfl rfl (by dsimp only [setI, setL, List.set]) ?_
    refine c_mfl_3 (rmQ_Fr hQt uF) (by omega) hmu hE ?_ (n + 1) 0 x1 0 υ (by decide) (by omega) (by omega) (by rw [lft_n]; show _ = _ - ((0 : Nat) : Int) + ((0 : Nat) : Int); omega) (fun p hp => by rw [if_neg (by omega)]; exact hmu p hp) eqX_rf
    intro z1 z3 ω ez1 hmw wF
    refine z_goto (pc := 148) (tgt := 30) dX11_findLayers_148 rfl ?_
    refine ih (r + 1) z1 v34 _ ω (by omega) (by omega) ez1 (fun s hs' => ?_) hmw (FrQ_tr hF (FrQ_tr uF wF))
    rcases Nat.lt_or_ge s r with h9 | h9
    · exact hs s h9
    · rw [show s = r by omega]; exact hne

theorem c_mfl_z {l : Launch} {G : Gx} {d : Nat} {σ : Sg} {Q : Option Value → Sg → Prop} {n : Nat} {pt : Nat → Pt} {x1 : Int32} (hQ : rmQ σ n pt) (h1 : x1.toInt = ((prs n pt).length : Int)) (h : ∀ (r : Nat) (x : Int32) (τ : Sg), isNL (prs n pt) pt r → x.toInt = (r : Int) → mly τ n pt r → FrQ σ τ → Q (some (.int x)) τ) : ∀ (f k : Nat) (x2 : Int32) (τ : Sg), x2.toInt = (k : Int) → k ≤ n → n - k < f → (∀ p, p < k → τ.1 47 p = 0) → FrQ σ τ → Z l G M_X11_findLayers (d + 3) 7 [some (.ref 1), some (.int x1), some (.int x2), none] [] τ Q := by
  intro f
  induction f with
  | zero => intro k x2 τ hk hkn hfu h0 hF; omega
  | succ f ih =>
  intro k x2 τ hk hkn hfu h0 hF
  have hQt := rmQ_Fr hQ hF
  have hg := hQt.2.1.1
  have hn := hQ.1
  refine z_iload_n (pc := 7) dX11_findLayers_7 rfl ?_
  refine z_aload_n (pc := 8) dX11_findLayers_8 rfl ?_
  refine z_getI (pc := 9) dX11_findLayers_9 fk_X11_101 rfl (by decide) (by decide) (by decide) ?_
  refine zq_icmp_ge (pc := 12) (tgt := 28) dX11_findLayers_12 rfl rfl rfl (fun h12 => ?_) (fun h12 => ?_)
  · skip
    refine z_iconst (pc := 28) (v := 0) dX11_findLayers_28 (by decide) ?_
    refine z_istore_n (pc := 29) dX11_findLayers_29 rfl rfl (by dsimp only [setI, setL, List.set]) ?_
    exact c_mfl_w hQ h 41 0 x1 0 _ τ (by decide) (by omega) (by rw [fgr_0]; exact h1) (fun s hs => absurd hs (by omega)) (fun p hp => by rw [h0 p (by have := (prs_mem.mp hp).1; omega)]; rfl) hF
  · skip
    refine z_aload_n (pc := 15) dX11_findLayers_15 rfl ?_
    refine z_getR (pc := 16) (t := 47) dX11_findLayers_16 fk_X11_69 rfl (by decide) (by decide) (by decide) rfl ?_
    refine z_iload_n (pc := 19) dX11_findLayers_19 rfl ?_
    refine z_iconst (pc := 20) (v := 0) dX11_findLayers_20 (by decide) ?_
    refine z_iastN (pc := 21) k dX11_findLayers_21 rfl (by decide) hk (by show _ < 40; omega) ?_
    refine z_iincT (pc := 22) dX11_findLayers_22 rfl rfl (by decide) (by decide) (by omega) (by omega) rfl rfl (fun v => by dsimp only [setI, setL, List.set]) (fun v22 e22 => ?_)
    refine z_goto (pc := 25) (tgt := 7) dX11_findLayers_25 rfl ?_
    exact ih (k + 1) v22 _ (by omega) (by omega) (by omega) (fun p hp => by
      rcases Nat.lt_or_ge p k with g | g
      · rw [uI_nk (by omega)]; exact h0 p g
      · rw [show p = k by omega]; exact uI_eq _ _ _ _) (FrQ_uI hF (by omega) (by omega))

theorem c_X11_findLayers {l : Launch} {G : Gx} {d : Nat} {σ : Sg} {Q : Option Value → Sg → Prop} {n : Nat} {pt : Nat → Pt} (hQ : rmQ σ n pt) (h : ∀ (r : Nat) (x : Int32) (τ : Sg), isNL (prs n pt) pt r → x.toInt = (r : Int) → mly τ n pt r → FrQ σ τ → Q (some (.int x)) τ)  : Z l G M_X11_findLayers (d + 3) 0 [some (.ref 1)] [] σ Q := by
  refine z_sub (L' := [some (.ref 1), none, none, none]) ⟨rfl, trivial⟩ ?_
  refine z_aload_n (pc := 0) dX11_findLayers_0 rfl ?_
  refine z_iv0 (pc := 1) dX11_findLayers_1 kv_X11_134 rfl (by decide) (by decide) rfl rfl ?_
  refine c_X11_there hQ.1 hQ.2.1.1 (fun i hi => (hQ.2.1.2 i hi).2.2.2.2) (fun rt ert => ?_)
  refine z_istore_n (pc := 4) dX11_findLayers_4 rfl rfl (by dsimp only [setI, setL, List.set]) ?_
  refine z_iconst (pc := 5) (v := 0) dX11_findLayers_5 (by decide) ?_
  refine z_istore_n (pc := 6) dX11_findLayers_6 rfl rfl (by dsimp only [setI, setL, List.set]) ?_
  exact c_mfl_z hQ ert h (n + 1) 0 0 σ (by decide) (by omega) (by omega) (fun p hp => absurd hp (by omega)) FrQ_rf
