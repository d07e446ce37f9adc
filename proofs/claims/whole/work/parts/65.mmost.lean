/-! most and fewest, as the model finds them -/
theorem cON_swap {P : List Nat} {pt : Nat → Pt} {p q : Nat} : cON P pt (p, q) = cON P pt (q, p) := cON_same (fun r => by
  show crs (pt p) (pt q) r = 0 ↔ crs (pt q) (pt p) r = 0
  rw [crs_swap (pt p) (pt q) r]
  omega)
theorem cON_pos {P : List Nat} {pt : Nat → Pt} {p q : Nat} (hp : p ∈ P) : 0 < cON P pt (p, q) := by
  unfold cON
  exact List.length_pos_of_mem (List.mem_filter.mpr ⟨hp, decide_eq_true (crs_self _ _).1⟩)
/-- the best so far, among the pairs of which D speaks -/
def BOn (w : Int) (P : List Nat) (pt : Nat → Pt) (D : Nat → Nat → Prop) (r : Int) : Prop := ((∀ p q, D p q → apt (pt p) (pt q) = false) ∧ r = 0) ∨ ((∃ p q, D p q ∧ apt (pt p) (pt q) = true ∧ r = (cON P pt (p, q) : Int)) ∧ ∀ p q, D p q → apt (pt p) (pt q) = true → (if w = 1 then (cON P pt (p, q) : Int) ≤ r else r ≤ (cON P pt (p, q) : Int)))
theorem BOn_congr {w : Int} {P : List Nat} {pt : Nat → Pt} {D E : Nat → Nat → Prop} {r : Int} (h : ∀ p q, D p q ↔ E p q) (hb : BOn w P pt D r) : BOn w P pt E r := by
  have e : D = E := by funext p q; exact propext (h p q)
  rw [← e]; exact hb
theorem BOn_skip {w : Int} {P : List Nat} {pt : Nat → Pt} {D E : Nat → Nat → Prop} {r : Int} (h : ∀ p q, E p q → D p q ∨ apt (pt p) (pt q) = false) (h2 : ∀ p q, D p q → E p q) (hb : BOn w P pt D r) : BOn w P pt E r := by
  rcases hb with ⟨h3, h4⟩ | ⟨⟨p, q, h3, h4, h5⟩, h6⟩
  · exact Or.inl ⟨fun p q he => (h p q he).elim (h3 p q) id, h4⟩
  · refine Or.inr ⟨⟨p, q, h2 p q h3, h4, h5⟩, fun p' q' he ha => ?_⟩
    rcases h p' q' he with hd | hd
    · exact h6 p' q' hd ha
    · rw [ha] at hd; cases hd
theorem BOn_add {w : Int} {P : List Nat} {pt : Nat → Pt} {D E : Nat → Nat → Prop} {r r' : Int} {a b : Nat} (hE : ∀ p q, E p q ↔ D p q ∨ (p = a ∧ q = b)) (hP : ∀ p q, D p q → p ∈ P) (ha : apt (pt a) (pt b) = true) (hr : (r' = (cON P pt (a, b) : Int) ∧ (r = 0 ∨ (w = 1 ∧ r < r') ∨ (w ≠ 1 ∧ r' < r))) ∨ (r' = r ∧ r ≠ 0 ∧ ((w = 1 ∧ (cON P pt (a, b) : Int) ≤ r) ∨ (w ≠ 1 ∧ r ≤ (cON P pt (a, b) : Int))))) (hb : BOn w P pt D r) : BOn w P pt E r' := by
  rcases hb with ⟨h3, h4⟩ | ⟨⟨p, q, h3, h4, h5⟩, h6⟩
  · have e : r' = (cON P pt (a, b) : Int) := by omega
    refine Or.inr ⟨⟨a, b, (hE a b).mpr (Or.inr ⟨rfl, rfl⟩), ha, e⟩, fun p' q' he hh => ?_⟩
    rcases (hE p' q').mp he with hd | ⟨rfl, rfl⟩
    · rw [h3 p' q' hd] at hh; cases hh
    · split <;> omega
  · have hpos := cON_pos (pt := pt) (q := q) (hP p q h3)
    rcases hr with ⟨e, hc⟩ | ⟨e, h0, hc⟩
    · refine Or.inr ⟨⟨a, b, (hE a b).mpr (Or.inr ⟨rfl, rfl⟩), ha, e⟩, fun p' q' he hh => ?_⟩
      rcases (hE p' q').mp he with hd | ⟨rfl, rfl⟩
      · have := h6 p' q' hd hh
        split at this <;> rename_i hw
        · rw [if_pos hw]; omega
        · rw [if_neg hw]; omega
      · split <;> omega
    · refine Or.inr ⟨⟨p, q, (hE p q).mpr (Or.inl h3), h4, by omega⟩, fun p' q' he hh => ?_⟩
      rcases (hE p' q').mp he with hd | ⟨rfl, rfl⟩
      · have := h6 p' q' hd hh
        rw [e]; exact this
      · split <;> omega
theorem BOn_max {n : Nat} {pt : Nat → Pt} {r : Int} (h : BOn 1 (prs n pt) pt (fun p q => p ∈ prs n pt ∧ q ∈ prs n pt ∧ q < p) r) : MaxOn (prs n pt) pt r := by
  rcases h with ⟨h3, h4⟩ | ⟨⟨p, q, h3, h4, h5⟩, h6⟩
  · refine Or.inl ⟨fun p hp q hq => ?_, h4⟩
    rcases Nat.lt_trichotomy p q with g | g | g
    · rw [apt_symm]; exact h3 q p ⟨hq, hp, g⟩
    · subst g; exact apt_no.mpr ⟨rfl, rfl⟩
    · exact h3 p q ⟨hp, hq, g⟩
  · refine Or.inr ⟨⟨p, h3.1, q, h3.2.1, h4, h5⟩, fun p hp q hq ha => ?_⟩
    rcases Nat.lt_trichotomy p q with g | g | g
    · have := h6 q p ⟨hq, hp, g⟩ (by rw [apt_symm]; exact ha)
      rw [if_pos rfl] at this
      rw [cON_swap]; exact this
    · subst g; rw [apt_no.mpr ⟨rfl, rfl⟩] at ha; cases ha
    · have := h6 p q ⟨hp, hq, g⟩ ha
      rw [if_pos rfl] at this
      exact this
theorem BOn_min {n : Nat} {pt : Nat → Pt} {r w : Int} (hw : w ≠ 1) (h : BOn w (prs n pt) pt (fun p q => p ∈ prs n pt ∧ q ∈ prs n pt ∧ q < p) r) : MinOn (prs n pt) pt r := by
  rcases h with ⟨h3, h4⟩ | ⟨⟨p, q, h3, h4, h5⟩, h6⟩
  · refine Or.inl ⟨fun p hp q hq => ?_, h4⟩
    rcases Nat.lt_trichotomy p q with g | g | g
    · rw [apt_symm]; exact h3 q p ⟨hq, hp, g⟩
    · subst g; exact apt_no.mpr ⟨rfl, rfl⟩
    · exact h3 p q ⟨hp, hq, g⟩
  · refine Or.inr ⟨⟨p, h3.1, q, h3.2.1, h4, h5⟩, fun p hp q hq ha => ?_⟩
    rcases Nat.lt_trichotomy p q with g | g | g
    · have := h6 q p ⟨hq, hp, g⟩ (by rw [apt_symm]; exact ha)
      rw [if_neg hw] at this
      rw [cON_swap]; exact this
    · subst g; rw [apt_no.mpr ⟨rfl, rfl⟩] at ha; cases ha
    · have := h6 p q ⟨hp, hq, g⟩ ha
      rw [if_neg hw] at this
      exact this
theorem MaxOn_uniq {P : List Nat} {pt : Nat → Pt} {r s : Int} (h : MaxOn P pt r) (g : MaxOn P pt s) : r = s := by
  rcases h with ⟨h1, h2⟩ | ⟨⟨p, hp, q, hq, h3, h4⟩, h5⟩ <;> rcases g with ⟨g1, g2⟩ | ⟨⟨p', hp', q', hq', g3, g4⟩, g5⟩
  · omega
  · rw [h1 p' hp' q' hq'] at g3; cases g3
  · rw [g1 p hp q hq] at h3; cases h3
  · have := h5 p' hp' q' hq' g3
    have := g5 p hp q hq h3
    omega
theorem MinOn_uniq {P : List Nat} {pt : Nat → Pt} {r s : Int} (h : MinOn P pt r) (g : MinOn P pt s) : r = s := by
  rcases h with ⟨h1, h2⟩ | ⟨⟨p, hp, q, hq, h3, h4⟩, h5⟩ <;> rcases g with ⟨g1, g2⟩ | ⟨⟨p', hp', q', hq', g3, g4⟩, g5⟩
  · omega
  · rw [h1 p' hp' q' hq'] at g3; cases g3
  · rw [g1 p hp q hq] at h3; cases h3
  · have := h5 p' hp' q' hq' g3
    have := g5 p hp q hq h3
    omega
theorem sMost_uniq {a : Ab} {w : Int32} {r s : Int} (h : sMost a w r) (g : sMost a w s) : r = s := by
  unfold sMost at h g
  split at h
  · rename_i hw; rw [if_pos hw] at g; exact MaxOn_uniq h g
  · rename_i hw
    rw [if_neg hw] at g
    split at h
    · rename_i h0; rw [if_pos h0] at g; exact MinOn_uniq h g
    · rename_i h0; rw [if_neg h0] at g; omega
/-- how many of the first k stand on it -/
theorem cON_sm {n : Nat} {pt : Nat → Pt} {p q : Nat} : ((cON (prs n pt) pt (p, q) : Nat) : Int) = smN pt (fun i => if crs (pt p) (pt q) (pt i) = 0 then 1 else 0) n := by
  rw [smN_eq]
  unfold cON lsum
  dsimp only
  induction prs n pt with
  | nil => rfl
  | cons x xs ih =>
    rw [List.filter_cons, List.map_cons, List.sum_cons, ← ih]
    by_cases h : crs (pt p) (pt q) (pt x) = 0
    · rw [if_pos (decide_eq_true h), if_pos h, List.length_cons]; omega
    · rw [if_neg (by rw [decide_eq_true_eq]; exact h), if_neg h]; omega

theorem c_mmost_k {l : Launch} {G : Gx} {d : Nat} {σ : Sg} {Q : Option Value → Sg → Prop} {n p q : Nat} {pt : Nat → Pt} {x1 x2 x3 x4 : Int32} (hQ : rmQ σ n pt) (hp : p < n) (hq : q < n) (ha : apt (pt p) (pt q) = true) (hL : isLnM σ (lnO pt (p, q))) (hnext : ∀ x5 x6 : Int32, x5.toInt = (cON (prs n pt) pt (p, q) : Int) → Z l G M_X11_most (d + 2) 122 [some (.ref 1), some (.int x1), some (.int x2), some (.int x3), some (.int x4), some (.int x5), some (.int x6)] [] σ Q) : ∀ (f k : Nat) (x5 x6 : Int32), x6.toInt = (k : Int) → k ≤ n → n - k < f → x5.toInt = smN pt (fun i => if crs (pt p) (pt q) (pt i) = 0 then 1 else 0) k → Z l G M_X11_most (d + 2) 76 [some (.ref 1), some (.int x1), some (.int x2), some (.int x3), some (.int x4), some (.int x5), some (.int x6)] [] σ Q := by
  intro f
  induction f with
  | zero => intro k x5 x6 hk hkn hfu hs; omega
  | succ f ih =>
  intro k x5 x6 hk hkn hfu hs
  have hg := hQ.2.1.1
  have hn := hQ.1
  have hab := lnO_ab hQ.2.2.1 hp hq ha
  have hsr := smN_rng (pt := pt) (g := (fun i => if crs (pt p) (pt q) (pt i) = 0 then 1 else 0)) (c := 1) (by omega) (fun i => by split <;> omega) k
  refine z_iload (pc := 76) dX11_most_76 rfl ?_
  refine z_aload_n (pc := 78) dX11_most_78 rfl ?_
  refine z_getI (pc := 79) dX11_most_79 fk_X11_101 rfl (by decide) (by decide) (by decide) ?_
  refine zq_icmp_ge (pc := 82) (tgt := 122) dX11_most_82 rfl rfl rfl (fun h82 => ?_) (fun h82 => ?_)
  · skip
    have e : k = n := by omega
    subst e
    exact hnext x5 x6 (by rw [hs, cON_sm])
  · skip
    refine z_iload (pc := 85) dX11_most_85 rfl ?_
    refine z_aload_n (pc := 87) dX11_most_87 rfl ?_
    refine z_getR (pc := 88) (t := 35) dX11_most_88 fk_X11_22 rfl (by decide) (by decide) (by decide) rfl ?_
    refine z_iload (pc := 91) dX11_most_91 rfl ?_
    refine z_zaldN (pc := 93) k dX11_most_93 rfl (by decide) hk (by show _ < 40; omega) ?_
    refine zq_if_ne (pc := 94) (tgt := 112) dX11_most_94 rfl rfl (fun h94 => ?_) (fun h94 => ?_)
    · skip
      refine z_iconst (pc := 112) (v := 0) dX11_most_112 (by decide) ?_
      refine z_iaddT (pc := 113) (cy := 0) dX11_most_113 rfl (by decide) (by omega) (by omega) (fun v113 e113 => ?_)
      refine z_istore (pc := 114) dX11_most_114 rfl rfl (by dsimp only [setI, setL, List.set]) ?_
      refine z_iincT (pc := 116) dX11_most_116 rfl rfl (by decide) (by decide) (by omega) (by omega) rfl rfl (fun v => by dsimp only [setI, setL, List.set]) (fun v116 e116 => ?_)
      refine z_goto (pc := 119) (tgt := 76) dX11_most_119 rfl ?_
      have hst : smN pt (fun i => if crs (pt p) (pt q) (pt i) = 0 then 1 else 0) (k + 1) = smN pt (fun i => if crs (pt p) (pt q) (pt i) = 0 then 1 else 0) k + (if (pt k).2.2.2.2 then 0 else (if crs (pt p) (pt q) (pt k) = 0 then 1 else 0)) := rfl
      rw [if_pos (maway_of (hQ.2.1.2 k (by omega)).2.2.2.2 h94)] at hst
      exact ih (k + 1) v113 v116 (by omega) (by omega) (by omega) (by rw [hst]; omega)
    · skip
      refine z_aload_n (pc := 97) dX11_most_97 rfl ?_
      refine z_iload (pc := 98) dX11_most_98 rfl ?_
      refine z_iv1 (pc := 100) dX11_most_100 kv_X11_210 rfl (by decide) (by decide) rfl rfl ?_
      refine c_mat (i := k) hQ hL (by omega) (by omega) hk (fun ra era => ?_)
      have hl0 := lv_0 (z := (p, q)) ha (pt k)
      rw [← era] at hl0
      refine z_lconst (pc := 103) (v := 0) dX11_most_103 (by decide) ?_
      refine zq_lc_ne (pc := 104) (cy := 0) (tgt := 112) dX11_most_104 dX11_most_105 rfl rfl (by decide) (fun h104 => ?_) (fun h104 => ?_)
      · skip
        refine z_iconst (pc := 112) (v := 0) dX11_most_112 (by decide) ?_
        refine z_iaddT (pc := 113) (cy := 0) dX11_most_113 rfl (by decide) (by omega) (by omega) (fun v113 e113 => ?_)
        refine z_istore (pc := 114) dX11_most_114 rfl rfl (by dsimp only [setI, setL, List.set]) ?_
        refine z_iincT (pc := 116) dX11_most_116 rfl rfl (by decide) (by decide) (by omega) (by omega) rfl rfl (fun v => by dsimp only [setI, setL, List.set]) (fun v116 e116 => ?_)
        refine z_goto (pc := 119) (tgt := 76) dX11_most_119 rfl ?_
        have hst : smN pt (fun i => if crs (pt p) (pt q) (pt i) = 0 then 1 else 0) (k + 1) = smN pt (fun i => if crs (pt p) (pt q) (pt i) = 0 then 1 else 0) k + (if (pt k).2.2.2.2 then 0 else (if crs (pt p) (pt q) (pt k) = 0 then 1 else 0)) := rfl
        rw [if_neg (by rw [mthere_of (hQ.2.1.2 k (by omega)).2.2.2.2 h94]; decide), if_neg (fun z => h104 (hl0.mpr z))] at hst
        exact ih (k + 1) v113 v116 (by omega) (by omega) (by omega) (by rw [hst]; omega)
      · skip
        refine z_iconst (pc := 108) (v := 1) dX11_most_108 (by decide) ?_
        refine z_goto (pc := 109) (tgt := 113) dX11_most_109 rfl ?_
        refine z_iaddT (pc := 113) (cy := 1) dX11_most_113 rfl (by decide) (by omega) (by omega) (fun v113 e113 => ?_)
        refine z_istore (pc := 114) dX11_most_114 rfl rfl (by dsimp only [setI, setL, List.set]) ?_
        refine z_iincT (pc := 116) dX11_most_116 rfl rfl (by decide) (by decide) (by omega) (by omega) rfl rfl (fun v => by dsimp only [setI, setL, List.set]) (fun v116 e116 => ?_)
        refine z_goto (pc := 119) (tgt := 76) dX11_most_119 rfl ?_
        have hst : smN pt (fun i => if crs (pt p) (pt q) (pt i) = 0 then 1 else 0) (k + 1) = smN pt (fun i => if crs (pt p) (pt q) (pt i) = 0 then 1 else 0) k + (if (pt k).2.2.2.2 then 0 else (if crs (pt p) (pt q) (pt k) = 0 then 1 else 0)) := rfl
        rw [if_neg (by rw [mthere_of (hQ.2.1.2 k (by omega)).2.2.2.2 h94]; decide), if_pos (hl0.mp (by omega))] at hst
        exact ih (k + 1) v113 v116 (by omega) (by omega) (by omega) (by rw [hst]; omega)

theorem c_mmost_in {l : Launch} {G : Gx} {d : Nat} {σ : Sg} {Q : Option Value → Sg → Prop} {n p : Nat} {pt : Nat → Pt} {x1 x3 : Int32} (hQ : rmQ σ n pt) (hp : p < n) (hx : x3.toInt = (p : Int)) (hnext : ∀ (τ : Sg) (x2 x4 : Int32), BOn x1.toInt (prs n pt) pt (fun p' q' => p' ∈ prs n pt ∧ q' ∈ prs n pt ∧ q' < p' ∧ p' < p + 1) x2.toInt → FrQ σ τ → Z l G M_X11_most (d + 2) 159 [some (.ref 1), some (.int x1), some (.int x2), some (.int x3), some (.int x4), none, none] [] τ Q) : ∀ (f q : Nat) (τ : Sg) (x2 x4 : Int32) (y5 y6 : Option Value), x4.toInt = (q : Int) → q ≤ p → p - q < f → BOn x1.toInt (prs n pt) pt (fun p' q' => p' ∈ prs n pt ∧ q' ∈ prs n pt ∧ q' < p' ∧ (p' < p ∨ (p' = p ∧ q' < q))) x2.toInt → FrQ σ τ → Z l G M_X11_most (d + 2) 28 [some (.ref 1), some (.int x1), some (.int x2), some (.int x3), some (.int x4), y5, y6] [] τ Q := by
  intro f
  induction f with
  | zero => intro q τ x2 x4 y5 y6 hy hq hfu hb hF; omega
  | succ f ih =>
  intro q τ x2 x4 y5 y6 hy hq hfu hb hF
  refine z_sub (L' := [some _, some _, some _, some _, some _, none, none]) ⟨rfl, rfl, rfl, rfl, rfl, trivial⟩ ?_
  have hQt := rmQ_Fr hQ hF
  have hg := hQt.2.1.1
  have hn := hQ.1
  have hap := (hQt.2.1.2 p hp).2.2.2.2
  refine z_iload (pc := 28) dX11_most_28 rfl ?_
  refine z_iload_n (pc := 30) dX11_most_30 rfl ?_
  refine zq_icmp_ge (pc := 31) (tgt := 159) dX11_most_31 rfl rfl rfl (fun h31 => ?_) (fun h31 => ?_)
  · skip
    refine z_sub (L' := [some _, some _, some _, some _, some _, none, none]) ⟨rfl, rfl, rfl, rfl, rfl, trivial⟩ ?_
    refine hnext τ x2 x4 (BOn_skip (fun p' q' he => ?_) (fun p' q' hd => ⟨hd.1, hd.2.1, hd.2.2.1, by omega⟩) hb) hF
    rcases Nat.lt_or_ge p' p with g | g
    · exact Or.inl ⟨he.1, he.2.1, he.2.2.1, Or.inl g⟩
    · have ep : p' = p := by omega
      subst ep
      first
      | exact Or.inl ⟨he.1, he.2.1, he.2.2.1, Or.inr ⟨rfl, by omega⟩⟩
      | exact absurd (prs_mem.mp he.1).2 (by rw [maway_of hap h40]; decide)
  · skip
    refine z_aload_n (pc := 34) dX11_most_34 rfl ?_
    refine z_getR (pc := 35) (t := 35) dX11_most_35 fk_X11_22 rfl (by decide) (by decide) (by decide) rfl ?_
    refine z_iload_n (pc := 38) dX11_most_38 rfl ?_
    refine z_zaldN (pc := 39) p dX11_most_39 rfl (by decide) hx (by show _ < 40; omega) ?_
    refine zq_if_ne (pc := 40) (tgt := 159) dX11_most_40 rfl rfl (fun h40 => ?_) (fun h40 => ?_)
    · skip
      refine z_sub (L' := [some _, some _, some _, some _, some _, none, none]) ⟨rfl, rfl, rfl, rfl, rfl, trivial⟩ ?_
      refine hnext τ x2 x4 (BOn_skip (fun p' q' he => ?_) (fun p' q' hd => ⟨hd.1, hd.2.1, hd.2.2.1, by omega⟩) hb) hF
      rcases Nat.lt_or_ge p' p with g | g
      · exact Or.inl ⟨he.1, he.2.1, he.2.2.1, Or.inl g⟩
      · have ep : p' = p := by omega
        subst ep
        first
        | exact Or.inl ⟨he.1, he.2.1, he.2.2.1, Or.inr ⟨rfl, by omega⟩⟩
        | exact absurd (prs_mem.mp he.1).2 (by rw [maway_of hap h40]; decide)
    · skip
      refine z_aload_n (pc := 43) dX11_most_43 rfl ?_
      refine z_getR (pc := 44) (t := 35) dX11_most_44 fk_X11_22 rfl (by decide) (by decide) (by decide) rfl ?_
      refine z_iload (pc := 47) dX11_most_47 rfl ?_
      refine z_zaldN (pc := 49) q dX11_most_49 rfl (by decide) hy (by show _ < 40; omega) ?_
      refine zq_if_ne (pc := 50) (tgt := 153) dX11_most_50 rfl rfl (fun h50 => ?_) (fun h50 => ?_)
      · skip
        refine z_iincT (pc := 153) dX11_most_153 rfl rfl (by decide) (by decide) (by omega) (by omega) rfl rfl (fun v => by dsimp only [setI, setL, List.set]) (fun v153 e153 => ?_)
        refine z_goto (pc := 156) (tgt := 28) dX11_most_156 rfl ?_
        refine ih (q + 1) τ x2 v153 _ _ (by omega) (by omega) (by omega) (BOn_skip (fun p' q' he => ?_) (fun p' q' hd => ⟨hd.1, hd.2.1, hd.2.2.1, by omega⟩) hb) hF
        rcases Nat.lt_or_ge p' p with g | g
        · exact Or.inl ⟨he.1, he.2.1, he.2.2.1, Or.inl g⟩
        · have ep : p' = p := by omega
          subst ep
          rcases Nat.lt_or_ge q' q with g2 | g2
          · exact Or.inl ⟨he.1, he.2.1, he.2.2.1, Or.inr ⟨rfl, g2⟩⟩
          · have eq : q' = q := by omega
            subst eq
            exact absurd (prs_mem.mp he.2.1).2 (by rw [maway_of (hQt.2.1.2 q' (by omega)).2.2.2.2 h50]; decide)
      · skip
        refine z_aload_n (pc := 53) dX11_most_53 rfl ?_
        refine z_iload_n (pc := 54) dX11_most_54 rfl ?_
        refine z_iload (pc := 55) dX11_most_55 rfl ?_
        refine z_iv2 (pc := 57) dX11_most_57 kv_X11_200 rfl (by decide) (by decide) rfl rfl ?_
        refine c_mapart hQt hp (by omega) hx hy (fun qa => ?_) (fun qa => ?_)
        · skip
          refine z_if_eq (pc := 60) (tgt := 153) dX11_most_60 rfl (fun hc => absurd hc (by decide)) (fun _ => ?_)
          refine z_aload_n (pc := 63) dX11_most_63 rfl ?_
          refine z_iload_n (pc := 64) dX11_most_64 rfl ?_
          refine z_iload (pc := 65) dX11_most_65 rfl ?_
          refine z_iv2 (pc := 67) dX11_most_67 kv_X11_203 rfl (by decide) (by decide) rfl rfl ?_
          refine c_mlook hQt hp (by omega) hx hy qa (fun υ hL uF t1 t2 t3 => ?_)
          refine z_iconst (pc := 70) (v := 0) dX11_most_70 (by decide) ?_
          refine z_istore (pc := 71) dX11_most_71 rfl rfl (by dsimp only [setI, setL, List.set]) ?_
          refine z_iconst (pc := 73) (v := 0) dX11_most_73 (by decide) ?_
          refine z_istore (pc := 74) dX11_most_74 rfl rfl (by dsimp only [setI, setL, List.set]) ?_
          have hpP : p ∈ prs n pt := prs_mem.mpr ⟨hp, mthere_of hap h40⟩
          have hqP : q ∈ prs n pt := prs_mem.mpr ⟨by omega, mthere_of (hQt.2.1.2 q (by omega)).2.2.2.2 h50⟩
          refine c_mmost_k (rmQ_Fr hQt uF) hp (by omega) qa hL ?_ (n + 1) 0 0 0 (by decide) (by omega) (by omega) rfl
          intro x5 x6 e5
          refine z_iload_n (pc := 122) dX11_most_122 rfl ?_
          refine zq_if_eq (pc := 123) (tgt := 146) dX11_most_123 rfl rfl (fun h123 => ?_) (fun h123 => ?_)
          · skip
            refine z_iload (pc := 146) dX11_most_146 rfl ?_
            refine z_goto (pc := 148) (tgt := 152) dX11_most_148 rfl ?_
            refine z_istore_n (pc := 152) dX11_most_152 rfl rfl (by dsimp only [setI, setL, List.set]) ?_
            refine z_iincT (pc := 153) dX11_most_153 rfl rfl (by decide) (by decide) (by omega) (by omega) rfl rfl (fun v => by dsimp only [setI, setL, List.set]) (fun v153 e153 => ?_)
            refine z_goto (pc := 156) (tgt := 28) dX11_most_156 rfl ?_
            refine ih (q + 1) υ x5 v153 _ _ (by omega) (by omega) (by omega) (BOn_add (a := p) (b := q) (D := (fun p' q' => p' ∈ prs n pt ∧ q' ∈ prs n pt ∧ q' < p' ∧ (p' < p ∨ (p' = p ∧ q' < q)))) (fun p' q' => ?_) (fun p' q' hd => hd.1) qa (Or.inl ⟨by omega, Or.inl (by omega)⟩) hb) (FrQ_tr hF uF)
            constructor
            · intro he
              rcases Nat.lt_or_ge p' p with g | g
              · exact Or.inl ⟨he.1, he.2.1, he.2.2.1, Or.inl g⟩
              · have ep : p' = p := by omega
                subst ep
                rcases Nat.lt_or_ge q' q with g2 | g2
                · exact Or.inl ⟨he.1, he.2.1, he.2.2.1, Or.inr ⟨rfl, g2⟩⟩
                · exact Or.inr ⟨rfl, by omega⟩
            · intro he
              rcases he with he | ⟨rfl, rfl⟩
              · exact ⟨he.1, he.2.1, he.2.2.1, by omega⟩
              · exact ⟨hpP, hqP, by omega, Or.inr ⟨rfl, by omega⟩⟩
          · skip
            refine z_iload_n (pc := 126) dX11_most_126 rfl ?_
            refine z_iconst (pc := 127) (v := 1) dX11_most_127 (by decide) ?_
            refine zq_icmp_ne (pc := 128) (cy := 1) (tgt := 140) dX11_most_128 rfl rfl (by decide) (fun h128 => ?_) (fun h128 => ?_)
            · skip
              refine z_iload (pc := 140) dX11_most_140 rfl ?_
              refine z_iload_n (pc := 142) dX11_most_142 rfl ?_
              refine zq_icmp_ge (pc := 143) (tgt := 151) dX11_most_143 rfl rfl rfl (fun h143 => ?_) (fun h143 => ?_)
              · skip
                refine z_iload_n (pc := 151) dX11_most_151 rfl ?_
                refine z_istore_n (pc := 152) dX11_most_152 rfl rfl (by dsimp only [setI, setL, List.set]) ?_
                refine z_iincT (pc := 153) dX11_most_153 rfl rfl (by decide) (by decide) (by omega) (by omega) rfl rfl (fun v => by dsimp only [setI, setL, List.set]) (fun v153 e153 => ?_)
                refine z_goto (pc := 156) (tgt := 28) dX11_most_156 rfl ?_
                refine ih (q + 1) υ x2 v153 _ _ (by omega) (by omega) (by omega) (BOn_add (a := p) (b := q) (D := (fun p' q' => p' ∈ prs n pt ∧ q' ∈ prs n pt ∧ q' < p' ∧ (p' < p ∨ (p' = p ∧ q' < q)))) (fun p' q' => ?_) (fun p' q' hd => hd.1) qa (Or.inr ⟨rfl, by omega, Or.inr ⟨by omega, by omega⟩⟩) hb) (FrQ_tr hF uF)
                constructor
                · intro he
                  rcases Nat.lt_or_ge p' p with g | g
                  · exact Or.inl ⟨he.1, he.2.1, he.2.2.1, Or.inl g⟩
                  · have ep : p' = p := by omega
                    subst ep
                    rcases Nat.lt_or_ge q' q with g2 | g2
                    · exact Or.inl ⟨he.1, he.2.1, he.2.2.1, Or.inr ⟨rfl, g2⟩⟩
                    · exact Or.inr ⟨rfl, by omega⟩
                · intro he
                  rcases he with he | ⟨rfl, rfl⟩
                  · exact ⟨he.1, he.2.1, he.2.2.1, by omega⟩
                  · exact ⟨hpP, hqP, by omega, Or.inr ⟨rfl, by omega⟩⟩
              · skip
                refine z_iload (pc := 146) dX11_most_146 rfl ?_
                refine z_goto (pc := 148) (tgt := 152) dX11_most_148 rfl ?_
                refine z_istore_n (pc := 152) dX11_most_152 rfl rfl (by dsimp only [setI, setL, List.set]) ?_
                refine z_iincT (pc := 153) dX11_most_153 rfl rfl (by decide) (by decide) (by omega) (by omega) rfl rfl (fun v => by dsimp only [setI, setL, List.set]) (fun v153 e153 => ?_)
                refine z_goto (pc := 156) (tgt := 28) dX11_most_156 rfl ?_
                refine ih (q + 1) υ x5 v153 _ _ (by omega) (by omega) (by omega) (BOn_add (a := p) (b := q) (D := (fun p' q' => p' ∈ prs n pt ∧ q' ∈ prs n pt ∧ q' < p' ∧ (p' < p ∨ (p' = p ∧ q' < q)))) (fun p' q' => ?_) (fun p' q' hd => hd.1) qa (Or.inl ⟨by omega, Or.inr (Or.inr ⟨by omega, by omega⟩)⟩) hb) (FrQ_tr hF uF)
                constructor
                · intro he
                  rcases Nat.lt_or_ge p' p with g | g
                  · exact Or.inl ⟨he.1, he.2.1, he.2.2.1, Or.inl g⟩
                  · have ep : p' = p := by omega
                    subst ep
                    rcases Nat.lt_or_ge q' q with g2 | g2
                    · exact Or.inl ⟨he.1, he.2.1, he.2.2.1, Or.inr ⟨rfl, g2⟩⟩
                    · exact Or.inr ⟨rfl, by omega⟩
                · intro he
                  rcases he with he | ⟨rfl, rfl⟩
                  · exact ⟨he.1, he.2.1, he.2.2.1, by omega⟩
                  · exact ⟨hpP, hqP, by omega, Or.inr ⟨rfl, by omega⟩⟩
            · skip
              refine z_iload (pc := 131) dX11_most_131 rfl ?_
              refine z_iload_n (pc := 133) dX11_most_133 rfl ?_
              refine zq_icmp_le (pc := 134) (tgt := 151) dX11_most_134 rfl rfl rfl (fun h134 => ?_) (fun h134 => ?_)
              · skip
                refine z_iload_n (pc := 151) dX11_most_151 rfl ?_
                refine z_istore_n (pc := 152) dX11_most_152 rfl rfl (by dsimp only [setI, setL, List.set]) ?_
                refine z_iincT (pc := 153) dX11_most_153 rfl rfl (by decide) (by decide) (by omega) (by omega) rfl rfl (fun v => by dsimp only [setI, setL, List.set]) (fun v153 e153 => ?_)
                refine z_goto (pc := 156) (tgt := 28) dX11_most_156 rfl ?_
                refine ih (q + 1) υ x2 v153 _ _ (by omega) (by omega) (by omega) (BOn_add (a := p) (b := q) (D := (fun p' q' => p' ∈ prs n pt ∧ q' ∈ prs n pt ∧ q' < p' ∧ (p' < p ∨ (p' = p ∧ q' < q)))) (fun p' q' => ?_) (fun p' q' hd => hd.1) qa (Or.inr ⟨rfl, by omega, Or.inl ⟨by omega, by omega⟩⟩) hb) (FrQ_tr hF uF)
                constructor
                · intro he
                  rcases Nat.lt_or_ge p' p with g | g
                  · exact Or.inl ⟨he.1, he.2.1, he.2.2.1, Or.inl g⟩
                  · have ep : p' = p := by omega
                    subst ep
                    rcases Nat.lt_or_ge q' q with g2 | g2
                    · exact Or.inl ⟨he.1, he.2.1, he.2.2.1, Or.inr ⟨rfl, g2⟩⟩
                    · exact Or.inr ⟨rfl, by omega⟩
                · intro he
                  rcases he with he | ⟨rfl, rfl⟩
                  · exact ⟨he.1, he.2.1, he.2.2.1, by omega⟩
                  · exact ⟨hpP, hqP, by omega, Or.inr ⟨rfl, by omega⟩⟩
              · skip
                refine z_goto (pc := 137) (tgt := 146) dX11_most_137 rfl ?_
                refine z_iload (pc := 146) dX11_most_146 rfl ?_
                refine z_goto (pc := 148) (tgt := 152) dX11_most_148 rfl ?_
                refine z_istore_n (pc := 152) dX11_most_152 rfl rfl (by dsimp only [setI, setL, List.set]) ?_
                refine z_iincT (pc := 153) dX11_most_153 rfl rfl (by decide) (by decide) (by omega) (by omega) rfl rfl (fun v => by dsimp only [setI, setL, List.set]) (fun v153 e153 => ?_)
                refine z_goto (pc := 156) (tgt := 28) dX11_most_156 rfl ?_
                refine ih (q + 1) υ x5 v153 _ _ (by omega) (by omega) (by omega) (BOn_add (a := p) (b := q) (D := (fun p' q' => p' ∈ prs n pt ∧ q' ∈ prs n pt ∧ q' < p' ∧ (p' < p ∨ (p' = p ∧ q' < q)))) (fun p' q' => ?_) (fun p' q' hd => hd.1) qa (Or.inl ⟨by omega, Or.inr (Or.inl ⟨by omega, by omega⟩)⟩) hb) (FrQ_tr hF uF)
                constructor
                · intro he
                  rcases Nat.lt_or_ge p' p with g | g
                  · exact Or.inl ⟨he.1, he.2.1, he.2.2.1, Or.inl g⟩
                  · have ep : p' = p := by omega
                    subst ep
                    rcases Nat.lt_or_ge q' q with g2 | g2
                    · exact Or.inl ⟨he.1, he.2.1, he.2.2.1, Or.inr ⟨rfl, g2⟩⟩
                    · exact Or.inr ⟨rfl, by omega⟩
                · intro he
                  rcases he with he | ⟨rfl, rfl⟩
                  · exact ⟨he.1, he.2.1, he.2.2.1, by omega⟩
                  · exact ⟨hpP, hqP, by omega, Or.inr ⟨rfl, by omega⟩⟩
        · skip
          refine z_if_eq (pc := 60) (tgt := 153) dX11_most_60 rfl (fun _ => ?_) (fun hc => absurd hc (by decide))
          refine z_iincT (pc := 153) dX11_most_153 rfl rfl (by decide) (by decide) (by omega) (by omega) rfl rfl (fun v => by dsimp only [setI, setL, List.set]) (fun v153 e153 => ?_)
          refine z_goto (pc := 156) (tgt := 28) dX11_most_156 rfl ?_
          refine ih (q + 1) τ x2 v153 _ _ (by omega) (by omega) (by omega) (BOn_skip (fun p' q' he => ?_) (fun p' q' hd => ⟨hd.1, hd.2.1, hd.2.2.1, by omega⟩) hb) hF
          rcases Nat.lt_or_ge p' p with g | g
          · exact Or.inl ⟨he.1, he.2.1, he.2.2.1, Or.inl g⟩
          · have ep : p' = p := by omega
            subst ep
            rcases Nat.lt_or_ge q' q with g2 | g2
            · exact Or.inl ⟨he.1, he.2.1, he.2.2.1, Or.inr ⟨rfl, g2⟩⟩
            · have eq : q' = q := by omega
              subst eq
              exact Or.inr qa

theorem c_mmost_out {l : Launch} {G : Gx} {d : Nat} {σ : Sg} {Q : Option Value → Sg → Prop} {n : Nat} {pt : Nat → Pt} {x1 : Int32} (hQ : rmQ σ n pt) (h : ∀ (r : Int32) (τ : Sg), BOn x1.toInt (prs n pt) pt (fun p q => p ∈ prs n pt ∧ q ∈ prs n pt ∧ q < p) r.toInt → FrQ σ τ → Q (some (.int r)) τ) : ∀ (f p : Nat) (τ : Sg) (x2 x3 : Int32) (y4 : Option Value), x3.toInt = (p : Int) → p ≤ n → n - p < f → BOn x1.toInt (prs n pt) pt (fun p' q' => p' ∈ prs n pt ∧ q' ∈ prs n pt ∧ q' < p' ∧ p' < p) x2.toInt → FrQ σ τ → Z l G M_X11_most (d + 2) 17 [some (.ref 1), some (.int x1), some (.int x2), some (.int x3), y4, none, none] [] τ Q := by
  intro f
  induction f with
  | zero => intro p τ x2 x3 y4 hx hp hfu hb hF; omega
  | succ f ih =>
  intro p τ x2 x3 y4 hx hp hfu hb hF
  refine z_sub (L' := [some _, some _, some _, some _, none, none, none]) ⟨rfl, rfl, rfl, rfl, trivial⟩ ?_
  have hQt := rmQ_Fr hQ hF
  have hg := hQt.2.1.1
  have hn := hQ.1
  refine z_iload_n (pc := 17) dX11_most_17 rfl ?_
  refine z_aload_n (pc := 18) dX11_most_18 rfl ?_
  refine z_getI (pc := 19) dX11_most_19 fk_X11_101 rfl (by decide) (by decide) (by decide) ?_
  refine zq_icmp_ge (pc := 22) (tgt := 165) dX11_most_22 rfl rfl rfl (fun h22 => ?_) (fun h22 => ?_)
  · skip
    refine z_iload_n (pc := 165) dX11_most_165 rfl ?_
    refine z_iret (pc := 166) dX11_most_166 rfl ?_
    exact h _ _ (BOn_congr (fun p' q' => ⟨fun hd => ⟨hd.1, hd.2.1, hd.2.2.1⟩, fun hd => ⟨hd.1, hd.2.1, hd.2.2, by have := (prs_mem.mp hd.1).1; omega⟩⟩) hb) hF
  · skip
    refine z_iconst (pc := 25) (v := 0) dX11_most_25 (by decide) ?_
    refine z_istore (pc := 26) dX11_most_26 rfl rfl (by dsimp only [setI, setL, List.set]) ?_
    refine c_mmost_in hQ (by omega) hx ?_ (n + 1) 0 τ x2 0 _ _ (by decide) (by omega) (by omega) (BOn_congr (fun p' q' => ⟨fun hd => ⟨hd.1, hd.2.1, hd.2.2.1, by omega⟩, fun hd => ⟨hd.1, hd.2.1, hd.2.2.1, by omega⟩⟩) hb) hF
    intro υ y2 y4' ub uF
    refine z_iincT (pc := 159) dX11_most_159 rfl rfl (by decide) (by decide) (by omega) (by omega) rfl rfl (fun v => by dsimp only [setI, setL, List.set]) (fun v159 e159 => ?_)
    refine z_goto (pc := 162) (tgt := 17) dX11_most_162 rfl ?_
    exact ih (p + 1) υ y2 v159 _ (by omega) (by omega) (by omega) ub uF

theorem c_X11_most {l : Launch} {G : Gx} {d : Nat} {σ : Sg} {Q : Option Value → Sg → Prop} {a : Ab} {x1 : Int32} (hr : rM σ a) (hk : abOk a) (h : ∀ (r : Int32) (τ : Sg), sMost a x1 r.toInt → rM τ a → eqC σ τ → Q (some (.int r)) τ) : Z l G M_X11_most (d + 2) 0 [some (.ref 1), some (.int x1)] [] σ Q := by
  refine z_sub (L' := [some (.ref 1), some (.int x1), none, none, none, none, none]) ⟨rfl, rfl, trivial⟩ ?_
  refine z_iload_n (pc := 0) dX11_most_0 rfl ?_
  refine z_i2lT (pc := 1) dX11_most_1 rfl (fun v1 e1 => ?_)
  refine z_lconst (pc := 2) (v := 0) dX11_most_2 (by decide) ?_
  refine z_lconst (pc := 3) (v := 1) dX11_most_3 (by decide) ?_
  refine z_is3 (pc := 4) dX11_most_4 ks_X11_81 rfl rfl ?_
  refine c_X11_in (cl := 0) (cm := 1) (by first | assumption | rfl) (by decide) (by decide) (fun q4 => ?_) (fun q4 => ?_)
  · skip
    refine z_if_ne (pc := 7) (tgt := 13) dX11_most_7 rfl (fun _ => ?_) (fun hc => absurd hc (by decide))
    refine z_iconst (pc := 13) (v := 0) dX11_most_13 (by decide) ?_
    refine z_istore_n (pc := 14) dX11_most_14 rfl rfl (by dsimp only [setI, setL, List.set]) ?_
    refine z_iconst (pc := 15) (v := 0) dX11_most_15 (by decide) ?_
    refine z_istore_n (pc := 16) dX11_most_16 rfl rfl (by dsimp only [setI, setL, List.set]) ?_
    refine c_mmost_out (rmQ_of hr hk) (fun r τ hb hF => h r τ ?_ (rM_FrQ hr hF) (FrQ_C hF)) (a.1.1 + 1) 0 σ 0 0 _ (by decide) (by omega) (by omega) (Or.inl ⟨fun p' q' hd => absurd hd.2.2.2 (by omega), rfl⟩) FrQ_rf
    unfold sMost
    by_cases hw : x1.toInt = 1
    · rw [if_pos hw]; rw [hw] at hb; exact BOn_max hb
    · rw [if_neg hw, if_pos (by omega)]; exact BOn_min hw hb
  · skip
    refine z_if_ne (pc := 7) (tgt := 13) dX11_most_7 rfl (fun hc => absurd hc (by decide)) (fun _ => ?_)
    refine z_ldc (pc := 10) dX11_most_10 kc_X11_91 ?_
    refine z_iret (pc := 12) dX11_most_12 rfl ?_
    exact h _ _ (by unfold sMost; rw [if_neg (by omega), if_neg (by omega)]; rfl) hr eqC_rf
