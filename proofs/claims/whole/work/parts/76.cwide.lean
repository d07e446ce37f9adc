/-! the widest strip in the class -/
def WC (σ : Sg) (pt : Nat → Pt) (T : Int × Int → Nat → Nat → Prop) : Prop := WBt T pt (σ.2 29 2).toInt (σ.2 29 3).toInt ∧ (σ.2 29 2).toInt ≤ 518400000000 ∧ (σ.2 29 3).toInt ≤ 720000
theorem WC_congr {σ : Sg} {pt : Nat → Pt} {T S : Int × Int → Nat → Nat → Prop} (h : ∀ u p r, T u p r ↔ S u p r) (k : WC σ pt T) : WC σ pt S := ⟨WBt_congr h k.1, k.2⟩
theorem WC_cong {σ τ : Sg} {pt : Nat → Pt} {T : Int × Int → Nat → Nat → Prop} (h : τ.2 29 = σ.2 29) (k : WC σ pt T) : WC τ pt T := by
  unfold WC
  rw [h]
  exact k
/-- the row along -/
def aln (σ : Sg) (j : Nat) : Int := (σ.1 30 j).toInt
theorem pj_B {p : Pt} {a b : Int} (h : ptOk p) (ha : -600 ≤ a ∧ a ≤ 600) (hb : -600 ≤ b ∧ b ≤ 600) : -360000 ≤ pj (a, b) p ∧ pj (a, b) p ≤ 360000 := by
  unfold ptOk at h
  have m1 := mulb (a := a) (b := p.1.toInt) (p := 600) (q := 300) (by omega) (by omega) (by omega) (by omega)
  have m2 := mulb (a := b) (b := p.2.1.toInt) (p := 600) (q := 300) (by omega) (by omega) (by omega) (by omega)
  unfold pj
  dsimp only
  omega

theorem c_pio_loop {l : Launch} {G : Gx} {d : Nat} {σ : Sg} {Q : Option Value → Sg → Prop} {m : Nat} {x1 x2 : Int32} (hm : m < 40) (h : ∀ (τ : Sg) (t : Nat), t ≤ m → (∀ j, j < t → aln τ j = aln σ j) → aln τ t = x2.toInt → (∀ j, t < j → j ≤ m → aln τ j = aln σ (j - 1)) → (0 < t → aln σ (t - 1) ≤ x2.toInt) → (∀ j, t ≤ j → j < m → x2.toInt < aln σ j) → eqX 30 30 σ τ → Q none τ) : ∀ (f t : Nat) (x3 : Int32) (τ : Sg), x3.toInt = (t : Int) → t ≤ m → t < f → (∀ j, j < t → τ.1 30 j = σ.1 30 j) → (∀ j, t < j → j ≤ m → τ.1 30 j = σ.1 30 (j - 1)) → (∀ j, t ≤ j → j < m → x2.toInt < aln σ j) → eqX 30 30 σ τ → Z l G M_X8_putInOrder d 2 [some (.ref 29), some (.int x1), some (.int x2), some (.int x3)] [] τ Q := by
  intro f
  induction f with
  | zero => intro t x3 τ ht htm hfu h1 hh3 h5 hE; omega
  | succ f ih =>
  intro t x3 τ ht htm hfu h1 hh3 h5 hE
  refine z_iload_n (pc := 2) dX8_putInOrder_2 rfl ?_
  refine zq_if_le (pc := 3) (tgt := 38) dX8_putInOrder_3 rfl rfl (fun h3 => ?_) (fun h3 => ?_)
  · skip
    refine z_aload_n (pc := 38) dX8_putInOrder_38 rfl ?_
    refine z_getR (pc := 39) (t := 30) dX8_putInOrder_39 fk_X8_9 rfl (by decide) (by decide) (by decide) rfl ?_
    refine z_iload_n (pc := 42) dX8_putInOrder_42 rfl ?_
    refine z_iload_n (pc := 43) dX8_putInOrder_43 rfl ?_
    refine z_iastN (pc := 44) t dX8_putInOrder_44 rfl (by decide) ht (by show _ < 40; omega) ?_
    refine z_vret (pc := 45) dX8_putInOrder_45 rfl ?_
    exact h _ t htm (fun j hj => by unfold aln; rw [uI_nk (by omega), h1 j hj]) (by unfold aln; rw [uI_eq]) (fun j hj hjm => by unfold aln; rw [uI_nk (by omega), hh3 j hj hjm]) (fun z => absurd z (by omega)) h5 (eqX_uI hE (by omega) (by omega))
  · skip
    refine z_aload_n (pc := 6) dX8_putInOrder_6 rfl ?_
    refine z_getR (pc := 7) (t := 30) dX8_putInOrder_7 fk_X8_9 rfl (by decide) (by decide) (by decide) rfl ?_
    refine z_iload_n (pc := 10) dX8_putInOrder_10 rfl ?_
    refine z_iconst (pc := 11) (v := 1) dX8_putInOrder_11 (by decide) ?_
    refine z_isubT (pc := 12) (cy := 1) dX8_putInOrder_12 rfl (by decide) (by omega) (by omega) (fun v12 e12 => ?_)
    refine z_ialdN (pc := 13) (t - 1) dX8_putInOrder_13 rfl (by decide) (by omega) (by show _ < 40; omega) ?_
    refine z_iload_n (pc := 14) dX8_putInOrder_14 rfl ?_
    refine zq_icmp_le (pc := 15) (tgt := 38) dX8_putInOrder_15 rfl rfl rfl (fun h15 => ?_) (fun h15 => ?_)
    · skip
      refine z_aload_n (pc := 38) dX8_putInOrder_38 rfl ?_
      refine z_getR (pc := 39) (t := 30) dX8_putInOrder_39 fk_X8_9 rfl (by decide) (by decide) (by decide) rfl ?_
      refine z_iload_n (pc := 42) dX8_putInOrder_42 rfl ?_
      refine z_iload_n (pc := 43) dX8_putInOrder_43 rfl ?_
      refine z_iastN (pc := 44) t dX8_putInOrder_44 rfl (by decide) ht (by show _ < 40; omega) ?_
      refine z_vret (pc := 45) dX8_putInOrder_45 rfl ?_
      exact h _ t htm (fun j hj => by unfold aln; rw [uI_nk (by omega), h1 j hj]) (by unfold aln; rw [uI_eq]) (fun j hj hjm => by unfold aln; rw [uI_nk (by omega), hh3 j hj hjm]) (fun z => by have e1 := h1 (t - 1) (by omega); unfold aln; rw [← e1]; omega) h5 (eqX_uI hE (by omega) (by omega))
    · skip
      refine z_aload_n (pc := 18) dX8_putInOrder_18 rfl ?_
      refine z_getR (pc := 19) (t := 30) dX8_putInOrder_19 fk_X8_9 rfl (by decide) (by decide) (by decide) rfl ?_
      refine z_iload_n (pc := 22) dX8_putInOrder_22 rfl ?_
      refine z_aload_n (pc := 23) dX8_putInOrder_23 rfl ?_
      refine z_getR (pc := 24) (t := 30) dX8_putInOrder_24 fk_X8_9 rfl (by decide) (by decide) (by decide) rfl ?_
      refine z_iload_n (pc := 27) dX8_putInOrder_27 rfl ?_
      refine z_iconst (pc := 28) (v := 1) dX8_putInOrder_28 (by decide) ?_
      refine z_isubT (pc := 29) (cy := 1) dX8_putInOrder_29 rfl (by decide) (by omega) (by omega) (fun v29 e29 => ?_)
      refine z_ialdN (pc := 30) (t - 1) dX8_putInOrder_30 rfl (by decide) (by omega) (by show _ < 40; omega) ?_
      refine z_iastN (pc := 31) t dX8_putInOrder_31 rfl (by decide) ht (by show _ < 40; omega) ?_
      refine z_iincT (pc := 32) dX8_putInOrder_32 rfl rfl (by decide) (by decide) (by omega) (by omega) rfl rfl (fun v => by dsimp only [setI, setL, List.set]) (fun v32 e32 => ?_)
      refine z_goto (pc := 35) (tgt := 2) dX8_putInOrder_35 rfl ?_
      have e1 := h1 (t - 1) (by omega)
      refine ih (t - 1) v32 _ (by omega) (by omega) (by omega) (fun j hj => by rw [uI_nk (by omega)]; exact h1 j (by omega)) (fun j hj hjm => ?_) (fun j hj hjm => ?_) (eqX_uI hE (by omega) (by omega))
      · rcases Nat.lt_or_ge t j with g | g
        · rw [uI_nk (by omega)]; exact hh3 j g hjm
        · rw [show j = t by omega, uI_eq]; exact e1
      · rcases Nat.lt_or_ge j t with g | g
        · rw [show j = t - 1 by omega]; unfold aln; rw [← e1]; omega
        · exact h5 j g hjm

theorem c_X8_putInOrder {l : Launch} {G : Gx} {d : Nat} {σ : Sg} {Q : Option Value → Sg → Prop} {m : Nat} {x1 x2 : Int32} (hm : m < 40) (hx : x1.toInt = (m : Int)) (h : ∀ (τ : Sg) (t : Nat), t ≤ m → (∀ j, j < t → aln τ j = aln σ j) → aln τ t = x2.toInt → (∀ j, t < j → j ≤ m → aln τ j = aln σ (j - 1)) → (0 < t → aln σ (t - 1) ≤ x2.toInt) → (∀ j, t ≤ j → j < m → x2.toInt < aln σ j) → eqX 30 30 σ τ → Q none τ)  : Z l G M_X8_putInOrder (d) 0 [some (.ref 29), some (.int x1), some (.int x2)] [] σ Q := by
  refine z_sub (L' := [some (.ref 29), some (.int x1), some (.int x2), none]) ⟨rfl, rfl, rfl, trivial⟩ ?_
  refine z_iload_n (pc := 0) dX8_putInOrder_0 rfl ?_
  refine z_istore_n (pc := 1) dX8_putInOrder_1 rfl rfl (by dsimp only [setI, setL, List.set]) ?_
  exact c_pio_loop hm h (m + 1) m x1 σ hx (by omega) (by omega) (fun _ _ => rfl) (fun j h1 h2 => absurd h1 (by omega)) (fun j h1 h2 => absurd h1 (by omega)) eqX_rf

theorem c_cons_t {l : Launch} {G : Gx} {d : Nat} {σ : Sg} {Q : Option Value → Sg → Prop} {n : Nat} {pt : Nat → Pt} {T : Int × Int → Nat → Nat → Prop} {x2 x3 x6 : Int32} {g : Int64} (ha : -600 ≤ x2.toInt ∧ x2.toInt ≤ 600) (hb : -600 ≤ x3.toInt ∧ x3.toInt ≤ 600) (hab : x2.toInt ≠ 0 ∨ x3.toInt ≠ 0) (hW : WC σ pt T) (hT : ∀ u p r, T u p r → 0 < usq u) (hg0 : 0 ≤ g.toInt) (hg7 : g.toInt ≤ 720000) (hN : ∀ p r, isGap (prs n pt) pt (x2.toInt, x3.toInt) p r → 0 ≤ pj (x2.toInt, x3.toInt) (pt r) - pj (x2.toInt, x3.toInt) (pt p) ∧ pj (x2.toInt, x3.toInt) (pt r) - pj (x2.toInt, x3.toInt) (pt p) ≤ g.toInt) (he : g.toInt = 0 ∨ ∃ p r, isGap (prs n pt) pt (x2.toInt, x3.toInt) p r ∧ pj (x2.toInt, x3.toInt) (pt r) - pj (x2.toInt, x3.toInt) (pt p) = g.toInt) (h : ∀ τ, WC τ pt (fun v p r => T v p r ∨ (v = (x2.toInt, x3.toInt) ∧ isGap (prs n pt) pt (x2.toInt, x3.toInt) p r)) → eqX 29 29 σ τ → Q none τ) : Z l G M_X8_consider (d + 1) 89 [some (.ref 29), some (.ref 11), some (.int x2), some (.int x3), some (.long g), none, some (.int x6), none, none, none] [] σ Q := by
  have hu : 0 < usq (x2.toInt, x3.toInt) := usq_pos hab
  have eu : usq (x2.toInt, x3.toInt) = x2.toInt * x2.toInt + x3.toInt * x3.toInt := rfl
  have m1 := mulb (a := g.toInt) (b := g.toInt) (p := 720000) (q := 720000) (by omega) (by omega) (by omega) (by omega)
  have m2 := mulb (a := x2.toInt) (b := x2.toInt) (p := 600) (q := 600) (by omega) (by omega) (by omega) (by omega)
  have m3 := mulb (a := x3.toInt) (b := x3.toInt) (p := 600) (q := 600) (by omega) (by omega) (by omega) (by omega)
  have w1 := hW.1.1
  have w2 := hW.1.2.1
  have w3 := hW.2.1
  have w4 := hW.2.2
  have m4 := mulb (a := g.toInt * g.toInt) (b := (σ.2 29 3).toInt) (p := 518400000000) (q := 720000) (by omega) (by omega) (by omega) (by omega)
  have m5 := mulb (a := (σ.2 29 2).toInt) (b := usq (x2.toInt, x3.toInt)) (p := 518400000000) (q := 720000) (by omega) (by omega) (by omega) (by omega)
  refine z_sub (L' := [some _, some _, some _, some _, some _, none, none, none, none, none]) ⟨rfl, rfl, rfl, rfl, rfl, trivial⟩ ?_
  refine z_lload (pc := 89) dX8_consider_89 rfl ?_
  refine z_lload (pc := 91) dX8_consider_91 rfl ?_
  refine z_lmulT (pc := 93) dX8_consider_93 rfl rfl (by omega) (by omega) (fun v93 e93 => ?_)
  refine z_lstore (pc := 94) dX8_consider_94 rfl rfl (by dsimp only [setI, setL, List.set]) ?_
  refine z_iload_n (pc := 96) dX8_consider_96 rfl ?_
  refine z_i2lT (pc := 97) dX8_consider_97 rfl (fun v97 e97 => ?_)
  refine z_iload_n (pc := 98) dX8_consider_98 rfl ?_
  refine z_i2lT (pc := 99) dX8_consider_99 rfl (fun v99 e99 => ?_)
  refine z_lmulT (pc := 100) dX8_consider_100 rfl rfl (by rw [e97, e99]; omega) (by rw [e97, e99]; omega) (fun v100 e100 => ?_)
  refine z_iload_n (pc := 101) dX8_consider_101 rfl ?_
  refine z_i2lT (pc := 102) dX8_consider_102 rfl (fun v102 e102 => ?_)
  refine z_iload_n (pc := 103) dX8_consider_103 rfl ?_
  refine z_i2lT (pc := 104) dX8_consider_104 rfl (fun v104 e104 => ?_)
  refine z_lmulT (pc := 105) dX8_consider_105 rfl rfl (by rw [e102, e104]; omega) (by rw [e102, e104]; omega) (fun v105 e105 => ?_)
  refine z_laddT (pc := 106) dX8_consider_106 rfl rfl (by rw [e100, e105, e97, e99, e102, e104]; omega) (by rw [e100, e105, e97, e99, e102, e104]; omega) (fun v106 e106 => ?_)
  refine z_lstore (pc := 107) dX8_consider_107 rfl rfl (by dsimp only [setI, setL, List.set]) ?_
  have k6 : v93.toInt = g.toInt * g.toInt := e93
  have k8 : v106.toInt = usq (x2.toInt, x3.toInt) := by rw [eu, e106, e100, e105, e97, e99, e102, e104]
  refine z_lload (pc := 109) dX8_consider_109 rfl ?_
  refine z_aload_n (pc := 111) dX8_consider_111 rfl ?_
  refine z_getJ (pc := 112) dX8_consider_112 fk_X8_19 rfl (by decide) (by decide) (by decide) ?_
  refine z_lmulT (pc := 115) dX8_consider_115 rfl rfl (by rw [k6]; omega) (by rw [k6]; omega) (fun v115 e115 => ?_)
  refine z_aload_n (pc := 116) dX8_consider_116 rfl ?_
  refine z_getJ (pc := 117) dX8_consider_117 fk_X8_15 rfl (by decide) (by decide) (by decide) ?_
  refine z_lload (pc := 120) dX8_consider_120 rfl ?_
  refine z_lmulT (pc := 122) dX8_consider_122 rfl rfl (by rw [k8]; omega) (by rw [k8]; omega) (fun v122 e122 => ?_)
  refine zq_lc_le (pc := 123) (tgt := 139) dX8_consider_123 dX8_consider_124 rfl rfl rfl (fun h123 => ?_) (fun h123 => ?_)
  · skip
    refine z_vret (pc := 139) dX8_consider_139 rfl ?_
    exact h σ ⟨WBt_old hW.1 hN (by rw [e115, e122, k6, k8] at h123; omega), hW.2⟩ eqX_rf
  · skip
    refine z_aload_n (pc := 127) dX8_consider_127 rfl ?_
    refine z_lload (pc := 128) dX8_consider_128 rfl ?_
    refine z_putJ (pc := 130) dX8_consider_130 fk_X8_15 rfl (by decide) (by decide) (by decide) ?_
    refine z_aload_n (pc := 133) dX8_consider_133 rfl ?_
    refine z_lload (pc := 134) dX8_consider_134 rfl ?_
    refine z_putJ (pc := 136) dX8_consider_136 fk_X8_19 rfl (by decide) (by decide) (by decide) ?_
    refine z_vret (pc := 139) dX8_consider_139 rfl ?_
    rw [e115, e122, k6, k8] at h123
    have hnw := WBt_new hW.1 hT hu hN hg0 he (by omega)
    refine h _ ⟨?_, ?_, ?_⟩ (eqX_uJ (eqX_uJ eqX_rf (by omega) (by omega)) (by omega) (by omega))
    · rw [uJ_eq, uJ_nk (by omega), uJ_eq, k6, k8]; exact hnw
    · rw [uJ_nk (by omega), uJ_eq, k6]; omega
    · rw [uJ_eq, k8]; omega

theorem c_cons_2 {l : Launch} {G : Gx} {d : Nat} {σ : Sg} {Q : Option Value → Sg → Prop} {n : Nat} {pt : Nat → Pt} {x2 x3 : Int32} (hS : okStand σ n pt) (hn : n ≤ 40) (hA : ∀ j, j < (prs n pt).length → -360000 ≤ aln σ j ∧ aln σ j ≤ 360000) (hnext : ∀ (g : Int64) (x6 : Int32), 0 ≤ g.toInt → g.toInt ≤ 720000 → (∀ i, i + 1 < (prs n pt).length → aln σ (i + 1) - aln σ i ≤ g.toInt) → (g.toInt = 0 ∨ ∃ i, i + 1 < (prs n pt).length ∧ g.toInt = aln σ (i + 1) - aln σ i) → Z l G M_X8_consider (d + 1) 89 [some (.ref 29), some (.ref 11), some (.int x2), some (.int x3), some (.long g), none, some (.int x6), none, none, none] [] σ Q) : ∀ (f k : Nat) (g : Int64) (x6 : Int32), x6.toInt = (k : Int) + 1 → (k + 1 ≤ (prs n pt).length ∨ k = 0) → (prs n pt).length - k < f → 0 ≤ g.toInt → g.toInt ≤ 720000 → (∀ i, i < k → aln σ (i + 1) - aln σ i ≤ g.toInt) → (g.toInt = 0 ∨ ∃ i, i < k ∧ g.toInt = aln σ (i + 1) - aln σ i) → Z l G M_X8_consider (d + 1) 49 [some (.ref 29), some (.ref 11), some (.int x2), some (.int x3), some (.long g), none, some (.int x6), none, none, none] [] σ Q := by
  intro f
  induction f with
  | zero => intro k g x6 hk hkl hfu h0 h7 hle hex; omega
  | succ f ih =>
  intro k g x6 hk hkl hfu h0 h7 hle hex
  have hSn := hS.1
  have hpl := prs_len n pt
  refine z_iload (pc := 49) dX8_consider_49 rfl ?_
  refine z_aload_n (pc := 51) dX8_consider_51 rfl ?_
  refine z_getI (pc := 52) dX8_consider_52 fk_X8_46 rfl (by decide) (by decide) (by decide) ?_
  refine zq_icmp_ge (pc := 55) (tgt := 89) dX8_consider_55 rfl rfl rfl (fun h55 => ?_) (fun h55 => ?_)
  · skip
    refine hnext g x6 h0 h7 (fun i hi => hle i (by omega)) ?_
    rcases hex with w | ⟨i, i1, i2⟩
    · exact Or.inl w
    · exact Or.inr ⟨i, by omega, i2⟩
  · skip
    have b1 := hA k (by omega)
    have b2 := hA (k + 1) (by omega)
    change -360000 ≤ (σ.1 30 k).toInt ∧ (σ.1 30 k).toInt ≤ 360000 at b1
    change -360000 ≤ (σ.1 30 (k + 1)).toInt ∧ (σ.1 30 (k + 1)).toInt ≤ 360000 at b2
    have d1 : aln σ (k + 1) - aln σ k = (σ.1 30 (k + 1)).toInt - (σ.1 30 k).toInt := rfl
    refine z_lload (pc := 58) dX8_consider_58 rfl ?_
    refine z_aload_n (pc := 60) dX8_consider_60 rfl ?_
    refine z_getR (pc := 61) (t := 30) dX8_consider_61 fk_X8_9 rfl (by decide) (by decide) (by decide) rfl ?_
    refine z_iload (pc := 64) dX8_consider_64 rfl ?_
    refine z_ialdN (pc := 66) (k + 1) dX8_consider_66 rfl (by decide) (by omega) (by show _ < 40; omega) ?_
    refine z_aload_n (pc := 67) dX8_consider_67 rfl ?_
    refine z_getR (pc := 68) (t := 30) dX8_consider_68 fk_X8_9 rfl (by decide) (by decide) (by decide) rfl ?_
    refine z_iload (pc := 71) dX8_consider_71 rfl ?_
    refine z_iconst (pc := 73) (v := 1) dX8_consider_73 (by decide) ?_
    refine z_isubT (pc := 74) (cy := 1) dX8_consider_74 rfl (by decide) (by omega) (by omega) (fun v74 e74 => ?_)
    refine z_ialdN (pc := 75) k dX8_consider_75 rfl (by decide) (by omega) (by show _ < 40; omega) ?_
    refine z_isubT (pc := 76) dX8_consider_76 rfl rfl (by omega) (by omega) (fun v76 e76 => ?_)
    refine z_i2lT (pc := 77) dX8_consider_77 rfl (fun v77 e77 => ?_)
    refine z_mmaxlT (pc := 78) dX8_consider_78 kj_X8_59 rfl rfl rfl (fun v78 e78 => ?_)
    refine z_lstore (pc := 81) dX8_consider_81 rfl rfl (by dsimp only [setI, setL, List.set]) ?_
    refine z_iincT (pc := 83) dX8_consider_83 rfl rfl (by decide) (by decide) (by omega) (by omega) rfl rfl (fun v => by dsimp only [setI, setL, List.set]) (fun v83 e83 => ?_)
    refine z_goto (pc := 86) (tgt := 49) dX8_consider_86 rfl ?_
    refine ih (k + 1) v78 v83 (by clear hex; omega) (by clear hex; omega) (by clear hex; omega) (by clear hex; omega) (by clear hex; omega) (fun i hi => ?_) ?_
    · clear hex
      rcases Nat.lt_or_ge i k with z | z
      · have := hle i z; omega
      · rw [show i = k by omega]; omega
    · rcases Int.lt_or_le g.toInt (aln σ (k + 1) - aln σ k) with z | z
      · clear hex
        exact Or.inr ⟨k, by omega, by omega⟩
      · rcases hex with w | ⟨i, i1, i2⟩
        · exact Or.inl (by omega)
        · exact Or.inr ⟨i, by omega, by omega⟩

theorem c_cons_1 {l : Launch} {G : Gx} {d : Nat} {σ : Sg} {Q : Option Value → Sg → Prop} {n : Nat} {pt : Nat → Pt} {T : Int × Int → Nat → Nat → Prop} {x2 x3 : Int32} (hS : okStand σ n pt) (hn : n ≤ 40) (hP : ∀ i, i < n → ptOk (pt i)) (ha : -600 ≤ x2.toInt ∧ x2.toInt ≤ 600) (hb : -600 ≤ x3.toInt ∧ x3.toInt ≤ 600) (hab : x2.toInt ≠ 0 ∨ x3.toInt ≠ 0) (hW : WC σ pt T) (hT : ∀ u p r, T u p r → 0 < usq u) (h : ∀ τ, WC τ pt (fun v p r => T v p r ∨ (v = (x2.toInt, x3.toInt) ∧ isGap (prs n pt) pt (x2.toInt, x3.toInt) p r)) → eqX 29 30 σ τ → Q none τ) : ∀ (f k : Nat) (x4 : Int32) (τ : Sg), x4.toInt = (k : Int) → k ≤ (prs n pt).length → (prs n pt).length - k < f → srt (aln τ) k → vls (aln τ) k (prs n pt) (fun p => pj (x2.toInt, x3.toInt) (pt p)) → eqX 30 30 σ τ → Z l G M_X8_consider (d + 1) 3 [some (.ref 29), some (.ref 11), some (.int x2), some (.int x3), some (.int x4), none, none, none, none, none] [] τ Q := by
  intro f
  induction f with
  | zero => intro k x4 τ hk hkl hfu hs hv hE; omega
  | succ f ih =>
  intro k x4 τ hk hkl hfu hs hv hE
  have hSt : okStand τ n pt := okStand_cong (c := True) (fun o h1 h3 => hE o (by omega)) (fun _ => hS) trivial
  have hSn := hSt.1
  have hpl := prs_len n pt
  refine z_iload (pc := 3) dX8_consider_3 rfl ?_
  refine z_aload_n (pc := 5) dX8_consider_5 rfl ?_
  refine z_getI (pc := 6) dX8_consider_6 fk_X8_46 rfl (by decide) (by decide) (by decide) ?_
  refine zq_icmp_ge (pc := 9) (tgt := 43) dX8_consider_9 rfl rfl rfl (fun h9 => ?_) (fun h9 => ?_)
  · skip
    refine z_lconst (pc := 43) (v := 0) dX8_consider_43 (by decide) ?_
    refine z_lstore (pc := 44) dX8_consider_44 rfl rfl (by dsimp only [setI, setL, List.set]) ?_
    refine z_iconst (pc := 46) (v := 1) dX8_consider_46 (by decide) ?_
    refine z_istore (pc := 47) dX8_consider_47 rfl rfl (by dsimp only [setI, setL, List.set]) ?_
    have e : k = (prs n pt).length := by omega
    subst e
    have hA : ∀ j, j < (prs n pt).length → -360000 ≤ aln τ j ∧ aln τ j ≤ 360000 := fun j hj => by
      obtain ⟨i, p, i1, i2, i3⟩ := hv.1 j hj
      dsimp only at i3
      rw [i3]
      exact pj_B (hP p (prs_at i2).1) ha hb
    refine c_cons_2 hSt hn hA ?_ ((prs n pt).length + 1) 0 0 1 (by decide) (Or.inr rfl) (by omega) (by decide) (by decide) (fun i hi => absurd hi (by omega)) (Or.inl rfl)
    intro g x6 g0 g7 gle gex
    refine c_cons_t ha hb hab (WC_cong (hE 29 (by omega)).2 hW) hT g0 g7 (fun p r hg => ⟨by have := hg.2.2.1; omega, gap_step hs hv gle hg⟩) ?_ (fun υ hw uE => h υ hw (eqX_tr (eqX_wide hE (by omega) (by omega)) (eqX_wide uE (by omega) (by omega))))
    rcases gex with w | ⟨i, i1, i2⟩
    · exact Or.inl w
    · rcases Int.lt_or_le (aln τ i) (aln τ (i + 1)) with z | z
      · obtain ⟨p, r, hg, e⟩ := step_gap hs hv i1 z
        exact Or.inr ⟨p, r, hg, by omega⟩
      · exact Or.inl (by omega)
  · skip
    obtain ⟨p, hp⟩ := prs_get (pt := pt) (n := n) (j := k) (by omega)
    have hxy := st_xy hSt hp
    have hok := hP p (prs_at hp).1
    have hpb := pj_B hok ha hb
    unfold ptOk at hok
    have m1 := mulb (a := x2.toInt) (b := (τ.1 13 k).toInt) (p := 600) (q := 300) (by omega) (by omega) (by omega) (by omega)
    have m2 := mulb (a := x3.toInt) (b := (τ.1 14 k).toInt) (p := 600) (q := 300) (by omega) (by omega) (by omega) (by omega)
    refine z_aload_n (pc := 12) dX8_consider_12 rfl ?_
    refine z_iload (pc := 13) dX8_consider_13 rfl ?_
    refine z_iload_n (pc := 15) dX8_consider_15 rfl ?_
    refine z_aload_n (pc := 16) dX8_consider_16 rfl ?_
    refine z_getR (pc := 17) (t := 13) dX8_consider_17 fk_X8_49 rfl (by decide) (by decide) (by decide) rfl ?_
    refine z_iload (pc := 20) dX8_consider_20 rfl ?_
    refine z_ialdN (pc := 22) k dX8_consider_22 rfl (by decide) hk (by show _ < 40; omega) ?_
    refine z_imulT (pc := 23) dX8_consider_23 rfl rfl (by omega) (by omega) (fun v23 e23 => ?_)
    refine z_iload_n (pc := 24) dX8_consider_24 rfl ?_
    refine z_aload_n (pc := 25) dX8_consider_25 rfl ?_
    refine z_getR (pc := 26) (t := 14) dX8_consider_26 fk_X8_52 rfl (by decide) (by decide) (by decide) rfl ?_
    refine z_iload (pc := 29) dX8_consider_29 rfl ?_
    refine z_ialdN (pc := 31) k dX8_consider_31 rfl (by decide) hk (by show _ < 40; omega) ?_
    refine z_imulT (pc := 32) dX8_consider_32 rfl rfl (by omega) (by omega) (fun v32 e32 => ?_)
    refine z_iaddT (pc := 33) dX8_consider_33 rfl rfl (by rw [e23, e32]; omega) (by rw [e23, e32]; omega) (fun v33 e33 => ?_)
    refine z_iv2 (pc := 34) dX8_consider_34 kv_X8_55 rfl (by decide) (by decide) rfl rfl ?_
    have ev : v33.toInt = pj (x2.toInt, x3.toInt) (pt p) := by rw [e33, e23, e32, hxy.1, hxy.2]; rfl
    refine c_X8_putInOrder (m := k) (by omega) hk (fun υ t ht u1 u2 u3 u4 u5 uE => ?_)
    refine z_iincT (pc := 37) dX8_consider_37 rfl rfl (by decide) (by decide) (by omega) (by omega) rfl rfl (fun v => by dsimp only [setI, setL, List.set]) (fun v37 e37 => ?_)
    refine z_goto (pc := 40) (tgt := 3) dX8_consider_40 rfl ?_
    exact ih (k + 1) v37 υ (by omega) (by omega) (by omega) (srt_ins hs ht u1 u2 u3 u4 u5) (vls_ins hv ht u1 u2 u3 hp ev) (eqX_tr hE uE)

theorem c_X8_consider {l : Launch} {G : Gx} {d : Nat} {σ : Sg} {Q : Option Value → Sg → Prop} {n : Nat} {pt : Nat → Pt} {T : Int × Int → Nat → Nat → Prop} {x2 x3 : Int32} (hS : okStand σ n pt) (hn : n ≤ 40) (hP : ∀ i, i < n → ptOk (pt i)) (ha : -600 ≤ x2.toInt ∧ x2.toInt ≤ 600) (hb : -600 ≤ x3.toInt ∧ x3.toInt ≤ 600) (hab : x2.toInt ≠ 0 ∨ x3.toInt ≠ 0) (hW : WC σ pt T) (hT : ∀ u p r, T u p r → 0 < usq u) (h : ∀ τ, WC τ pt (fun v p r => T v p r ∨ (v = (x2.toInt, x3.toInt) ∧ isGap (prs n pt) pt (x2.toInt, x3.toInt) p r)) → eqX 29 30 σ τ → Q none τ)  : Z l G M_X8_consider (d + 1) 0 [some (.ref 29), some (.ref 11), some (.int x2), some (.int x3)] [] σ Q := by
  refine z_sub (L' := [some (.ref 29), some (.ref 11), some (.int x2), some (.int x3), none, none, none, none, none, none]) ⟨rfl, rfl, rfl, rfl, trivial⟩ ?_
  refine z_iconst (pc := 0) (v := 0) dX8_consider_0 (by decide) ?_
  refine z_istore (pc := 1) dX8_consider_1 rfl rfl (by dsimp only [setI, setL, List.set]) ?_
  exact c_cons_1 hS hn hP ha hb hab hW hT h ((prs n pt).length + 1) 0 0 σ (by decide) (by omega) (by omega) (fun i j _ hj => absurd hj (by omega)) ⟨fun j hj => absurd hj (by omega), fun i p hi => absurd hi (by omega)⟩ eqX_rf

/-- directions of the first k lines -/
def dK (n : Nat) (pt : Nat → Pt) (k : Nat) (u : Int × Int) : Prop := ∃ k' z, k' < k ∧ (LPR (prs n pt) pt)[k']? = some z ∧ (u = ((lnO pt z).1, (lnO pt z).2.1) ∨ u = ((lnO pt z).2.1, -(lnO pt z).1))
def tK (n : Nat) (pt : Nat → Pt) (k : Nat) (u : Int × Int) (p r : Nat) : Prop := dK n pt k u ∧ isGap (prs n pt) pt u p r
theorem tK_succ {n k : Nat} {pt : Nat → Pt} {z : Nat × Nat} (hz : (LPR (prs n pt) pt)[k]? = some z) (u : Int × Int) (p r : Nat) : ((tK n pt k u p r ∨ (u = ((lnO pt z).1, (lnO pt z).2.1) ∧ isGap (prs n pt) pt ((lnO pt z).1, (lnO pt z).2.1) p r)) ∨ (u = ((lnO pt z).2.1, -(lnO pt z).1) ∧ isGap (prs n pt) pt ((lnO pt z).2.1, -(lnO pt z).1) p r)) ↔ tK n pt (k + 1) u p r := by
  constructor
  · rintro ((⟨⟨k', y, h1, h2, h3⟩, hg⟩ | ⟨rfl, hg⟩) | ⟨rfl, hg⟩)
    · exact ⟨⟨k', y, by omega, h2, h3⟩, hg⟩
    · exact ⟨⟨k, z, by omega, hz, Or.inl rfl⟩, hg⟩
    · exact ⟨⟨k, z, by omega, hz, Or.inr rfl⟩, hg⟩
  · rintro ⟨⟨k', y, h1, h2, h3⟩, hg⟩
    rcases Nat.lt_or_ge k' k with g | g
    · exact Or.inl (Or.inl ⟨⟨k', y, g, h2, h3⟩, hg⟩)
    · have e : k' = k := by omega
      subst e
      rw [hz] at h2
      cases h2
      rcases h3 with rfl | rfl
      · exact Or.inl (Or.inr ⟨rfl, hg⟩)
      · exact Or.inr ⟨rfl, hg⟩
theorem dK_all {n k : Nat} {pt : Nat → Pt} (hk : (LPR (prs n pt) pt).length ≤ k) (u : Int × Int) : dK n pt k u ↔ dirs n pt u := by
  constructor
  · rintro ⟨k', z, h1, h2, h3⟩
    exact ⟨_, ⟨z, List.mem_of_getElem? h2, rfl⟩, h3⟩
  · rintro ⟨t, ⟨z, hz, rfl⟩, h3⟩
    obtain ⟨k', hk'⟩ := List.getElem?_of_mem hz
    exact ⟨k', z, by have := (List.getElem?_eq_some_iff.mp hk').1; omega, hk', h3⟩

theorem c_fw_loop {l : Launch} {G : Gx} {d : Nat} {σ : Sg} {Q : Option Value → Sg → Prop} {n : Nat} {pt : Nat → Pt} (hS : okStand σ n pt) (hn : n ≤ 40) (hP : ∀ i, i < n → ptOk (pt i)) (hL : okLns σ n pt) (h : ∀ τ, okStrips τ n pt → τ.1 29 1 = 1 → eqX 29 30 σ τ → Q none τ) : ∀ (f k : Nat) (x3 : Int32) (τ : Sg), x3.toInt = (k : Int) → k ≤ (LPR (prs n pt) pt).length → (LPR (prs n pt) pt).length - k < f → WC τ pt (tK n pt k) → eqX 29 30 σ τ → Z l G M_X8_findWidest (d + 2) 12 [some (.ref 29), some (.ref 11), some (.ref 18), some (.int x3), none] [] τ Q := by
  intro f
  induction f with
  | zero => intro k x3 τ hk hkl hfu hW hE; omega
  | succ f ih =>
  intro k x3 τ hk hkl hfu hW hE
  have hlp := LPR_len (P := prs n pt) (pt := pt) (by have := prs_len n pt; omega)
  have hSt : okStand τ n pt := okStand_cong (c := True) (fun o h1 h3 => hE o (by omega)) (fun _ => hS) trivial
  have hLt : okLns τ n pt := okLns_cong (by rw [(hE 18 (by omega)).1]) (by rw [(hE 18 (by omega)).1]) (by rw [(hE 18 (by omega)).1]) (fun o h1 h3 => (hE o (by omega)).1) hL
  have h8 := hLt.1
  refine z_iload_n (pc := 12) dX8_findWidest_12 rfl ?_
  refine z_aload_n (pc := 13) dX8_findWidest_13 rfl ?_
  refine z_getI (pc := 14) dX8_findWidest_14 fk_X8_22 rfl (by decide) (by decide) (by decide) ?_
  refine zq_icmp_ge (pc := 17) (tgt := 61) dX8_findWidest_17 rfl rfl rfl (fun h17 => ?_) (fun h17 => ?_)
  · skip
    have hWB : WBest (dirs n pt) (prs n pt) pt (τ.2 29 2).toInt (τ.2 29 3).toInt := WBt_best.mp (WBt_congr (fun u p r => ⟨fun w => ⟨(dK_all (by omega) u).mp w.1, w.2⟩, fun w => ⟨(dK_all (by omega) u).mpr w.1, w.2⟩⟩) hW.1)
    have w1 := hWB.1
    have w2 := hWB.2.1
    have w3 := hW.2.1
    have w4 := hW.2.2
    have p40 : 518400000000 < 2 ^ 40 := by decide
    have hrd := WBest_red hWB
    have hrs := red_spec (τ.2 29 2).toInt (τ.2 29 3).toInt w1
    have hgp := gg_pos (A := (τ.2 29 2).toInt) (B := (τ.2 29 3).toInt) (Or.inr (by omega))
    refine z_aload_n (pc := 61) dX8_findWidest_61 rfl ?_
    refine z_getJ (pc := 62) dX8_findWidest_62 fk_X8_15 rfl (by decide) (by decide) (by decide) ?_
    refine z_aload_n (pc := 65) dX8_findWidest_65 rfl ?_
    refine z_getJ (pc := 66) dX8_findWidest_66 fk_X8_19 rfl (by decide) (by decide) (by decide) ?_
    refine z_is2 (pc := 69) dX8_findWidest_69 ks_X8_38 rfl rfl ?_
    refine c_cd (by omega) (by omega) (fun rg erg => ?_)
    refine z_lstore_n (pc := 72) dX8_findWidest_72 rfl rfl (by dsimp only [setI, setL, List.set]) ?_
    refine z_lload_n (pc := 73) dX8_findWidest_73 rfl ?_
    refine z_lconst (pc := 74) (v := 1) dX8_findWidest_74 (by decide) ?_
    refine zq_lc_le (pc := 75) (cy := 1) (tgt := 99) dX8_findWidest_75 dX8_findWidest_76 rfl rfl (by decide) (fun h75 => ?_) (fun h75 => ?_)
    · skip
      refine z_aload_n (pc := 99) dX8_findWidest_99 rfl ?_
      refine z_iconst (pc := 100) (v := 1) dX8_findWidest_100 (by decide) ?_
      refine z_putB (pc := 101) dX8_findWidest_101 fk_X8_42 rfl (by decide) (by decide) (by decide) (by decide) ?_
      refine z_vret (pc := 104) dX8_findWidest_104 rfl ?_
      have eg : gg (τ.2 29 2).toInt (τ.2 29 3).toInt = 1 := by omega
      exact h _ ⟨by rw [uI_2]; exact hWB, by rw [uI_2]; exact eg⟩ (uI_eq _ _ _ _) (eqX_uI hE (by omega) (by omega))
    · skip
      refine z_aload_n (pc := 79) dX8_findWidest_79 rfl ?_
      refine z_aload_n (pc := 80) dX8_findWidest_80 rfl ?_
      refine z_getJ (pc := 81) dX8_findWidest_81 fk_X8_15 rfl (by decide) (by decide) (by decide) ?_
      refine z_lload_n (pc := 84) dX8_findWidest_84 rfl ?_
      refine z_ldivT (pc := 85) dX8_findWidest_85 rfl rfl (by rw [erg]; omega) (fun v85 e85 => ?_)
      refine z_putJ (pc := 86) dX8_findWidest_86 fk_X8_15 rfl (by decide) (by decide) (by decide) ?_
      refine z_aload_n (pc := 89) dX8_findWidest_89 rfl ?_
      refine z_aload_n (pc := 90) dX8_findWidest_90 rfl ?_
      refine z_getJ (pc := 91) dX8_findWidest_91 fk_X8_19 rfl (by decide) (by decide) (by decide) ?_
      refine z_lload_n (pc := 94) dX8_findWidest_94 rfl ?_
      rw [uJ_nk (by omega)]
      refine z_ldivT (pc := 95) dX8_findWidest_95 rfl rfl (by rw [erg]; omega) (fun v95 e95 => ?_)
      refine z_putJ (pc := 96) dX8_findWidest_96 fk_X8_19 rfl (by decide) (by decide) (by decide) ?_
      refine z_aload_n (pc := 99) dX8_findWidest_99 rfl ?_
      refine z_iconst (pc := 100) (v := 1) dX8_findWidest_100 (by decide) ?_
      refine z_putB (pc := 101) dX8_findWidest_101 fk_X8_42 rfl (by decide) (by decide) (by decide) (by decide) ?_
      refine z_vret (pc := 104) dX8_findWidest_104 rfl ?_
      have q2 : v85.toInt = (τ.2 29 2).toInt.tdiv (gg (τ.2 29 2).toInt (τ.2 29 3).toInt : Int) := by rw [e85, erg]
      have q3 : v95.toInt = (τ.2 29 3).toInt.tdiv (gg (τ.2 29 2).toInt (τ.2 29 3).toInt : Int) := by rw [e95, erg]
      refine h _ ⟨?_, ?_⟩ (uI_eq _ _ _ _) (eqX_uI (eqX_uJ (eqX_uJ hE (by omega) (by omega)) (by omega) (by omega)) (by omega) (by omega))
      · rw [uI_2, uJ_eq, uJ_nk (by omega), uJ_eq, q2, q3]; exact hrd
      · rw [uI_2, uJ_eq, uJ_nk (by omega), uJ_eq, q2, q3]; exact hrs.2.2.2
  · skip
    obtain ⟨z, hz⟩ : ∃ z, (LPR (prs n pt) pt)[k]? = some z := ⟨_, List.getElem?_eq_getElem (by omega)⟩
    obtain ⟨z1, z2, z3⟩ := hLt.2.1 k z hz
    have hzb := isL_B hP ⟨z, List.mem_of_getElem? hz, rfl⟩
    have hzn := (lnO_prim (LPR_mem (List.mem_of_getElem? hz)).2.2).2
    unfold lnB at hzb
    refine z_aload_n (pc := 20) dX8_findWidest_20 rfl ?_
    refine z_aload_n (pc := 21) dX8_findWidest_21 rfl ?_
    refine z_aload_n (pc := 22) dX8_findWidest_22 rfl ?_
    refine z_getR (pc := 23) (t := 19) dX8_findWidest_23 fk_X8_28 rfl (by decide) (by decide) (by decide) rfl ?_
    refine z_iload_n (pc := 26) dX8_findWidest_26 rfl ?_
    refine z_ialdN (pc := 27) k dX8_findWidest_27 rfl (by decide) hk (by show _ < 780; omega) ?_
    refine z_aload_n (pc := 28) dX8_findWidest_28 rfl ?_
    refine z_getR (pc := 29) (t := 20) dX8_findWidest_29 fk_X8_31 rfl (by decide) (by decide) (by decide) rfl ?_
    refine z_iload_n (pc := 32) dX8_findWidest_32 rfl ?_
    refine z_ialdN (pc := 33) k dX8_findWidest_33 rfl (by decide) hk (by show _ < 780; omega) ?_
    refine z_iv3 (pc := 34) dX8_findWidest_34 kv_X8_34 rfl (by decide) (by decide) rfl rfl ?_
    refine c_X8_consider (T := tK n pt k) hSt hn hP (by rw [z1]; omega) (by rw [z2]; omega) (by rw [z1, z2]; exact hzn) hW (fun u p r ht => gap_u ht.2) (fun υ hWu uE => ?_)
    rw [z1, z2] at hWu
    have hSu : okStand υ n pt := okStand_cong (c := True) (fun o h1 h3 => uE o (by omega)) (fun _ => hSt) trivial
    have k1 : (υ.1 19 k).toInt = (lnO pt z).1 := by rw [(uE 19 (by omega)).1]; exact z1
    have k2 : (υ.1 20 k).toInt = (lnO pt z).2.1 := by rw [(uE 20 (by omega)).1]; exact z2
    refine z_aload_n (pc := 37) dX8_findWidest_37 rfl ?_
    refine z_aload_n (pc := 38) dX8_findWidest_38 rfl ?_
    refine z_aload_n (pc := 39) dX8_findWidest_39 rfl ?_
    refine z_getR (pc := 40) (t := 20) dX8_findWidest_40 fk_X8_31 rfl (by decide) (by decide) (by decide) rfl ?_
    refine z_iload_n (pc := 43) dX8_findWidest_43 rfl ?_
    refine z_ialdN (pc := 44) k dX8_findWidest_44 rfl (by decide) hk (by show _ < 780; omega) ?_
    refine z_aload_n (pc := 45) dX8_findWidest_45 rfl ?_
    refine z_getR (pc := 46) (t := 19) dX8_findWidest_46 fk_X8_28 rfl (by decide) (by decide) (by decide) rfl ?_
    refine z_iload_n (pc := 49) dX8_findWidest_49 rfl ?_
    refine z_ialdN (pc := 50) k dX8_findWidest_50 rfl (by decide) hk (by show _ < 780; omega) ?_
    refine z_inegT (pc := 51) dX8_findWidest_51 rfl (by rw [k1]; omega) (by rw [k1]; omega) (fun v51 e51 => ?_)
    refine z_iv3 (pc := 52) dX8_findWidest_52 kv_X8_34 rfl (by decide) (by decide) rfl rfl ?_
    refine c_X8_consider hSu hn hP (by rw [k2]; omega) (by rw [e51, k1]; omega) (by rw [e51, k1, k2]; omega) hWu (fun u p r ht => ht.elim (fun w => gap_u w.2) (fun w => by rw [w.1]; exact gap_u w.2)) (fun ω hWw wE => ?_)
    rw [e51, k1, k2] at hWw
    refine z_iincT (pc := 55) dX8_findWidest_55 rfl rfl (by decide) (by decide) (by omega) (by omega) rfl rfl (fun v => by dsimp only [setI, setL, List.set]) (fun v55 e55 => ?_)
    refine z_goto (pc := 58) (tgt := 12) dX8_findWidest_58 rfl ?_
    exact ih (k + 1) v55 ω (by omega) (by omega) (by omega) (WC_congr (tK_succ hz) hWw) (eqX_tr hE (eqX_tr uE wE))

theorem c_X8_findWidest {l : Launch} {G : Gx} {d : Nat} {σ : Sg} {Q : Option Value → Sg → Prop} {n : Nat} {pt : Nat → Pt} (hS : okStand σ n pt) (hn : n ≤ 40) (hP : ∀ i, i < n → ptOk (pt i)) (hL : okLns σ n pt) (h : ∀ τ, okStrips τ n pt → τ.1 29 1 = 1 → eqX 29 30 σ τ → Q none τ)  : Z l G M_X8_findWidest (d + 2) 0 [some (.ref 29), some (.ref 11), some (.ref 18)] [] σ Q := by
  refine z_sub (L' := [some (.ref 29), some (.ref 11), some (.ref 18), none, none]) ⟨rfl, rfl, rfl, trivial⟩ ?_
  refine z_aload_n (pc := 0) dX8_findWidest_0 rfl ?_
  refine z_lconst (pc := 1) (v := 0) dX8_findWidest_1 (by decide) ?_
  refine z_putJ (pc := 2) dX8_findWidest_2 fk_X8_15 rfl (by decide) (by decide) (by decide) ?_
  refine z_aload_n (pc := 5) dX8_findWidest_5 rfl ?_
  refine z_lconst (pc := 6) (v := 1) dX8_findWidest_6 (by decide) ?_
  refine z_putJ (pc := 7) dX8_findWidest_7 fk_X8_19 rfl (by decide) (by decide) (by decide) ?_
  refine z_iconst (pc := 10) (v := 0) dX8_findWidest_10 (by decide) ?_
  refine z_istore_n (pc := 11) dX8_findWidest_11 rfl rfl (by dsimp only [setI, setL, List.set]) ?_
  have hE : eqX 29 30 σ (uJ (uJ σ 29 2 0) 29 3 1) := eqX_uJ (eqX_uJ eqX_rf (by omega) (by omega)) (by omega) (by omega)
  have hSt : okStand (uJ (uJ σ 29 2 0) 29 3 1) n pt := okStand_cong (c := True) (fun o h1 h3 => hE o (by omega)) (fun _ => hS) trivial
  have hLt : okLns (uJ (uJ σ 29 2 0) 29 3 1) n pt := okLns_cong (by rw [(hE 18 (by omega)).1]) (by rw [(hE 18 (by omega)).1]) (by rw [(hE 18 (by omega)).1]) (fun o h1 h3 => (hE o (by omega)).1) hL
  refine c_fw_loop hSt hn hP hLt (fun υ ho u2 uE => h υ ho u2 (eqX_tr hE uE)) ((LPR (prs n pt) pt).length + 1) 0 0 _ (by decide) (by omega) (by omega) ?_ eqX_rf
  have h0 : ((uJ (uJ σ 29 2 0) 29 3 1).2 29 2).toInt = 0 := by rw [uJ_nk (by omega), uJ_eq]; rfl
  have h1 : ((uJ (uJ σ 29 2 0) 29 3 1).2 29 3).toInt = 1 := by rw [uJ_eq]; rfl
  unfold WC
  rw [h0, h1]
  exact ⟨⟨by omega, by omega, fun u p r ht => by obtain ⟨⟨k', z, h1, _⟩, _⟩ := ht; omega, Or.inl rfl⟩, by omega, by omega⟩

theorem rC_strip {σ τ : Sg} {a : Ab} (h : rC σ a) (hE : eqX 29 30 σ τ) (hD : τ.1 29 1 ≠ 0 → okStrips τ a.1.1 a.1.2) : rC τ a := by
  obtain ⟨r1, r2, r3, r4, r5, r6, r7, r8⟩ := h
  refine ⟨rcP_cong (by rw [(hE 0 (by omega)).1]) (fun i hi => (hE _ (by omega)).1) r1, rcB_cong (fun o h1 h2 => hE o (by omega)) r2, by rw [(hE 0 (by omega)).1]; exact r3, rcT_cong (fun o h1 h2 => (hE o (by omega)).1) r4, rcL_cong (hE 10 (by omega)).1 r5, rcU_cong (hE 4 (by omega)).1 (hE 5 (by omega)).1 r6, ⟨?_, ?_, ?_, ?_, hD⟩, fun o h1 h2 => by rw [(hE o (by omega)).1]; exact r8 o h1 h2⟩
  · rw [(hE 11 (by omega)).1]; exact okStand_cong (fun o h1 h2 => hE o (by omega)) r7.1
  · rw [(hE 18 (by omega)).1]; exact okLines_cong (fun o h1 h2 => hE o (by omega)) r7.2.1
  · rw [(hE 24 (by omega)).1]; exact okLayers_cong (fun o h1 h2 => hE o (by omega)) r7.2.2.1
  · rw [(hE 26 (by omega)).1]; exact okDepths_cong (fun o h1 h2 => hE o (by omega)) r7.2.2.2.1

theorem c_X10_widest {l : Launch} {G : Gx} {d : Nat} {σ : Sg} {Q : Option Value → Sg → Prop} {a : Ab} {x1 : Int32} (hr : rC σ a) (hk : abOk a) (h : ∀ (r : Int64) (τ : Sg), sWidest a x1 r.toInt → rC τ a → eqM σ τ → Q (some (.long r)) τ) : Z l G M_X10_widest (d + 6) 0 [some (.ref 0), some (.int x1)] [] σ Q := by
  refine z_sub (L' := [some (.ref 0), some (.int x1)]) ⟨rfl, rfl, trivial⟩ ?_
  refine z_iload_n (pc := 0) dX10_widest_0 rfl ?_
  refine z_iconst (pc := 1) (v := 2) dX10_widest_1 (by decide) ?_
  refine z_is2 (pc := 2) dX10_widest_2 ks_X10_88 rfl rfl ?_
  refine c_X10_isBelow (b := 2) (fun q2 => ?_) (fun q2 => ?_)
  · skip
    refine z_if_ne (pc := 5) (tgt := 12) dX10_widest_5 rfl (fun _ => ?_) (fun hc => absurd hc (by decide))
    refine z_aload_n (pc := 12) dX10_widest_12 rfl ?_
    refine z_iv0 (pc := 13) dX10_widest_13 kv_X10_253 rfl (by decide) (by decide) rfl rfl ?_
    have hca := hr.2.2.2.2.2.2.1
    refine c_X10_joined hk.1 hr.1 hk.2.1 hca.1 hca.2.1 (fun υ hl hl7 hst hkk uE => ?_)
    have hru : rC υ a := rC_join hr uE hst (fun _ => hl)
    have eMu := eqX_M uE (by omega) (by omega)
    have hnl := LPR_nil hl.1
    have h22 : (2 : Int32).toInt = 2 := rfl
    refine z_getI (pc := 16) dX10_widest_16 fk_X10_293 rfl (by decide) (by decide) (by decide) ?_
    refine zq_if_ne (pc := 19) (tgt := 26) dX10_widest_19 rfl rfl (fun h19 => ?_) (fun h19 => ?_)
    · skip
      refine z_aload_n (pc := 26) dX10_widest_26 rfl ?_
      refine z_getR (pc := 27) (t := 29) dX10_widest_27 fk_X10_80 rfl (by decide) (by decide) (by decide) rfl ?_
      refine z_getI (pc := 30) dX10_widest_30 fk_X10_294 rfl (by decide) (by decide) (by decide) ?_
      refine zq_if_ne (pc := 33) (tgt := 51) dX10_widest_33 rfl rfl (fun h33 => ?_) (fun h33 => ?_)
      · skip
        refine z_iload_n (pc := 51) dX10_widest_51 rfl ?_
        refine zq_if_ne (pc := 52) (tgt := 65) dX10_widest_52 rfl rfl (fun h52 => ?_) (fun h52 => ?_)
        · skip
          refine z_aload_n (pc := 65) dX10_widest_65 rfl ?_
          refine z_getR (pc := 66) (t := 29) dX10_widest_66 fk_X10_80 rfl (by decide) (by decide) (by decide) rfl ?_
          refine z_getJ (pc := 69) dX10_widest_69 fk_X10_302 rfl (by decide) (by decide) (by decide) ?_
          refine z_lret (pc := 72) dX10_widest_72 rfl ?_
          have hD := hru.2.2.2.2.2.2.1.2.2.2.2 (fun z => h33 (by rw [z]; rfl))
          exact h _ _ (by unfold sWidest; rw [if_neg (by omega), if_neg (fun z => by have := hnl.mpr z; omega)]; exact ⟨_, _, hD.1, by rw [if_neg (by omega), hD.2]; exact (Int.tdiv_one _).symm⟩) hru eMu
        · skip
          refine z_aload_n (pc := 55) dX10_widest_55 rfl ?_
          refine z_getR (pc := 56) (t := 29) dX10_widest_56 fk_X10_80 rfl (by decide) (by decide) (by decide) rfl ?_
          refine z_getJ (pc := 59) dX10_widest_59 fk_X10_298 rfl (by decide) (by decide) (by decide) ?_
          refine z_goto (pc := 62) (tgt := 72) dX10_widest_62 rfl ?_
          refine z_lret (pc := 72) dX10_widest_72 rfl ?_
          have hD := hru.2.2.2.2.2.2.1.2.2.2.2 (fun z => h33 (by rw [z]; rfl))
          exact h _ _ (by unfold sWidest; rw [if_neg (by omega), if_neg (fun z => by have := hnl.mpr z; omega)]; exact ⟨_, _, hD.1, by rw [if_pos (by omega), hD.2]; exact (Int.tdiv_one _).symm⟩) hru eMu
      · skip
        refine z_aload_n (pc := 36) dX10_widest_36 rfl ?_
        refine z_getR (pc := 37) (t := 29) dX10_widest_37 fk_X10_80 rfl (by decide) (by decide) (by decide) rfl ?_
        refine z_aload_n (pc := 40) dX10_widest_40 rfl ?_
        refine z_iv0 (pc := 41) dX10_widest_41 kv_X10_165 rfl (by decide) (by decide) rfl rfl ?_
        refine c_X10_gathered hk.1 hru.1 hru.2.2.2.2.2.2.1.1 (fun τ hS hkn hE => ?_)
        have hrt := rC_gath hru hE hS
        have hLt : okLns τ a.1.1 a.1.2 := okLns_cong (by rw [(hE 18 (by omega)).1]) (by rw [(hE 18 (by omega)).1]) (by rw [(hE 18 (by omega)).1]) (fun o h1 h3 => (hE o (by omega)).1) hl.1
        refine z_aload_n (pc := 44) dX10_widest_44 rfl ?_
        refine z_getR (pc := 45) (t := 18) dX10_widest_45 fk_X10_59 rfl (by decide) (by decide) (by decide) rfl ?_
        refine z_iv2 (pc := 48) dX10_widest_48 kv_X10_295 rfl (by decide) (by decide) rfl rfl ?_
        refine c_X8_findWidest hS hk.1 hk.2.1 hLt (fun ω hD w2 wE => ?_)
        have hrw : rC ω a := rC_strip hrt wE (fun _ => hD)
        have eMw : eqM σ ω := eqM_tr eMu (eqM_tr (eqX_M hE (by omega) (by omega)) (eqX_M wE (by omega) (by omega)))
        refine z_iload_n (pc := 51) dX10_widest_51 rfl ?_
        refine zq_if_ne (pc := 52) (tgt := 65) dX10_widest_52 rfl rfl (fun h52 => ?_) (fun h52 => ?_)
        · skip
          refine z_aload_n (pc := 65) dX10_widest_65 rfl ?_
          refine z_getR (pc := 66) (t := 29) dX10_widest_66 fk_X10_80 rfl (by decide) (by decide) (by decide) rfl ?_
          refine z_getJ (pc := 69) dX10_widest_69 fk_X10_302 rfl (by decide) (by decide) (by decide) ?_
          refine z_lret (pc := 72) dX10_widest_72 rfl ?_
          exact h _ _ (by unfold sWidest; rw [if_neg (by omega), if_neg (fun z => by have := hnl.mpr z; omega)]; exact ⟨_, _, hD.1, by rw [if_neg (by omega), hD.2]; exact (Int.tdiv_one _).symm⟩) hrw eMw
        · skip
          refine z_aload_n (pc := 55) dX10_widest_55 rfl ?_
          refine z_getR (pc := 56) (t := 29) dX10_widest_56 fk_X10_80 rfl (by decide) (by decide) (by decide) rfl ?_
          refine z_getJ (pc := 59) dX10_widest_59 fk_X10_298 rfl (by decide) (by decide) (by decide) ?_
          refine z_goto (pc := 62) (tgt := 72) dX10_widest_62 rfl ?_
          refine z_lret (pc := 72) dX10_widest_72 rfl ?_
          exact h _ _ (by unfold sWidest; rw [if_neg (by omega), if_neg (fun z => by have := hnl.mpr z; omega)]; exact ⟨_, _, hD.1, by rw [if_pos (by omega), hD.2]; exact (Int.tdiv_one _).symm⟩) hrw eMw
    · skip
      refine z_ldc2 (pc := 22) dX10_widest_22 kc_X10_269 ?_
      refine z_lret (pc := 25) dX10_widest_25 rfl ?_
      exact h _ _ (by unfold sWidest; rw [if_neg (by omega), if_pos (hnl.mp (by omega))]; rfl) hru eMu
  · skip
    refine z_if_ne (pc := 5) (tgt := 12) dX10_widest_5 rfl (fun hc => absurd hc (by decide)) (fun _ => ?_)
    refine z_ldc2 (pc := 8) dX10_widest_8 kc_X10_104 ?_
    refine z_lret (pc := 11) dX10_widest_11 rfl ?_
    have h22 : (2 : Int32).toInt = 2 := rfl
    exact h _ _ (by unfold sWidest; rw [if_pos (by omega)]; rfl) hr eqM_rf
