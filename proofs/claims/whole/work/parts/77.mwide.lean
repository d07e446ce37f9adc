/-! the widest strip in the model -/
def WM (σ : Sg) (pt : Nat → Pt) (T : Int × Int → Nat → Nat → Prop) : Prop := WBt T pt (σ.2 1 38).toInt (σ.2 1 39).toInt ∧ (σ.2 1 38).toInt ≤ 518400000000 ∧ (σ.2 1 39).toInt ≤ 720000
theorem WM_congr {σ : Sg} {pt : Nat → Pt} {T S : Int × Int → Nat → Nat → Prop} (h : ∀ u p r, T u p r ↔ S u p r) (k : WM σ pt T) : WM σ pt S := ⟨WBt_congr h k.1, k.2⟩
/-- the next one beyond, among the first k -/
def nxt (n : Nat) (pt : Nat → Pt) (u : Int × Int) (p k : Nat) (fd : Int) (nx : Int) : Prop := (fd = 0 ∧ ∀ q, q < k → q ∈ prs n pt → ¬ pj u (pt p) < pj u (pt q)) ∨ (fd = 1 ∧ ∃ r, r ∈ prs n pt ∧ nx = pj u (pt r) ∧ pj u (pt p) < pj u (pt r) ∧ ∀ q, q < k → q ∈ prs n pt → ¬ (pj u (pt p) < pj u (pt q) ∧ pj u (pt q) < pj u (pt r)))
theorem nxt_no {n : Nat} {pt : Nat → Pt} {u : Int × Int} {p k : Nat} {fd nx : Int} (h : nxt n pt u p k fd nx) (hk : k ∈ prs n pt → (¬ pj u (pt p) < pj u (pt k)) ∨ (fd = 1 ∧ nx ≤ pj u (pt k))) : nxt n pt u p (k + 1) fd nx := by
  rcases h with ⟨h1, h2⟩ | ⟨h1, r, h2, h3, h4, h5⟩
  · refine Or.inl ⟨h1, fun q hq hm => ?_⟩
    rcases Nat.lt_or_ge q k with g | g
    · exact h2 q g hm
    · have e : q = k := by omega
      subst e
      rcases hk hm with z | z
      · exact z
      · omega
  · refine Or.inr ⟨h1, r, h2, h3, h4, fun q hq hm => ?_⟩
    rcases Nat.lt_or_ge q k with g | g
    · exact h5 q g hm
    · have e : q = k := by omega
      subst e
      rcases hk hm with z | z
      · omega
      · omega
theorem nxt_yes {n : Nat} {pt : Nat → Pt} {u : Int × Int} {p k : Nat} {fd nx : Int} (h : nxt n pt u p k fd nx) (hm : k ∈ prs n pt) (hl : pj u (pt p) < pj u (pt k)) (hc : fd = 0 ∨ pj u (pt k) < nx) : nxt n pt u p (k + 1) 1 (pj u (pt k)) := by
  refine Or.inr ⟨rfl, k, hm, rfl, hl, fun q hq hqm => ?_⟩
  rcases Nat.lt_or_ge q k with g | g
  · rcases h with ⟨h1, h2⟩ | ⟨h1, r, h2, h3, h4, h5⟩
    · have := h2 q g hqm
      omega
    · have := h5 q g hqm
      omega
  · rw [show q = k by omega]
    omega
def gapF (n : Nat) (pt : Nat → Pt) (u : Int × Int) (p : Nat) (g : Int) : Prop := 0 ≤ g ∧ (∀ p' r, (p' = p ∧ isGap (prs n pt) pt u p' r) → 0 ≤ pj u (pt r) - pj u (pt p') ∧ pj u (pt r) - pj u (pt p') ≤ g) ∧ (g = 0 ∨ ∃ p' r, (p' = p ∧ isGap (prs n pt) pt u p' r) ∧ pj u (pt r) - pj u (pt p') = g)
theorem nxt_end {n : Nat} {pt : Nat → Pt} {u : Int × Int} {p : Nat} {fd nx g : Int} (h : nxt n pt u p n fd nx) (hp : p ∈ prs n pt) (hg : (fd = 0 ∧ g = 0) ∨ (fd ≠ 0 ∧ g = nx - pj u (pt p))) : gapF n pt u p g := by
  rcases h with ⟨h1, h2⟩ | ⟨h1, r, h2, h3, h4, h5⟩
  · have e : g = 0 := by omega
    refine ⟨by omega, fun p' r hr => ?_, Or.inl e⟩
    obtain ⟨rfl, hr⟩ := hr
    exact absurd hr.2.2.1 (h2 r (prs_mem.mp hr.2.1).1 hr.2.1)
  · have e : g = pj u (pt r) - pj u (pt p) := by omega
    refine ⟨by omega, fun p' r' hr => ?_, Or.inr ⟨p, r, ⟨rfl, hp, h2, h4, fun k hk hc => h5 k (prs_mem.mp hk).1 hk hc⟩, e.symm⟩⟩
    obtain ⟨rfl, hr⟩ := hr
    have k1 := hr.2.2.1
    have k2 := hr.2.2.2 r h2
    omega

theorem c_og_q {l : Launch} {G : Gx} {d : Nat} {σ : Sg} {Q : Option Value → Sg → Prop} {n p : Nat} {pt : Nat → Pt} {nx ny fr : Int64} {A B : Int} {x5 : Int32} (hQ : rmQ σ n pt) (eA : nx.toInt = A) (eB : ny.toInt = B) (ha : -600 ≤ A ∧ A ≤ 600) (hb : -600 ≤ B ∧ B ≤ 600) (hfr : fr.toInt = pj (A, B) (pt p)) (hnext : ∀ (x8 x11 : Int32) (x9 : Int64) (y12 : Option Value), nxt n pt (A, B) p n x8.toInt x9.toInt → Z l G M_X11_offerGap d 130 [some (.ref 1), some (.long nx), none, some (.long ny), none, some (.int x5), some (.long fr), none, some (.int x8), some (.long x9), none, some (.int x11), y12, none, none] [] σ Q) : ∀ (f k : Nat) (x8 x11 : Int32) (x9 : Int64) (y12 : Option Value), x11.toInt = (k : Int) → k ≤ n → n - k < f → nxt n pt (A, B) p k x8.toInt x9.toInt → Z l G M_X11_offerGap d 54 [some (.ref 1), some (.long nx), none, some (.long ny), none, some (.int x5), some (.long fr), none, some (.int x8), some (.long x9), none, some (.int x11), y12, none, none] [] σ Q := by
  intro f
  induction f with
  | zero => intro k x8 x11 x9 y12 hk hkn hfu hx; omega
  | succ f ih =>
  intro k x8 x11 x9 y12 hk hkn hfu hx
  refine z_sub (L' := [some _, some _, none, some _, none, some _, some _, none, some _, some _, none, some _, none, none, none]) ⟨rfl, rfl, rfl, rfl, rfl, rfl, rfl, rfl, trivial⟩ ?_
  have hg := hQ.2.1.1
  have hn := hQ.1
  refine z_iload (pc := 54) dX11_offerGap_54 rfl ?_
  refine z_aload_n (pc := 56) dX11_offerGap_56 rfl ?_
  refine z_getI (pc := 57) dX11_offerGap_57 fk_X11_101 rfl (by decide) (by decide) (by decide) ?_
  refine zq_icmp_ge (pc := 60) (tgt := 130) dX11_offerGap_60 rfl rfl rfl (fun h60 => ?_) (fun h60 => ?_)
  · skip
    have e : k = n := by omega
    subst e
    exact hnext x8 x11 x9 _ hx
  · skip
    have hpi := hQ.2.1.2 k (by omega)
    have hok := hQ.2.2.1 k (by omega)
    unfold ptOk at hok
    have ex : (σ.1 31 k).toInt = (pt k).1.toInt := by rw [hpi.1]
    have ey : (σ.1 32 k).toInt = (pt k).2.1.toInt := by rw [hpi.2.1]
    have m1 := mulb (a := nx.toInt) (b := (σ.1 31 k).toInt) (p := 600) (q := 300) (by omega) (by omega) (by omega) (by omega)
    have m2 := mulb (a := ny.toInt) (b := (σ.1 32 k).toInt) (p := 600) (q := 300) (by omega) (by omega) (by omega) (by omega)
    refine z_lload_n (pc := 63) dX11_offerGap_63 rfl ?_
    refine z_aload_n (pc := 64) dX11_offerGap_64 rfl ?_
    refine z_getR (pc := 65) (t := 31) dX11_offerGap_65 fk_X11_7 rfl (by decide) (by decide) (by decide) rfl ?_
    refine z_iload (pc := 68) dX11_offerGap_68 rfl ?_
    refine z_ialdN (pc := 70) k dX11_offerGap_70 rfl (by decide) hk (by show _ < 40; omega) ?_
    refine z_i2lT (pc := 71) dX11_offerGap_71 rfl (fun v71 e71 => ?_)
    refine z_lmulT (pc := 72) dX11_offerGap_72 rfl rfl (by rw [e71]; omega) (by rw [e71]; omega) (fun v72 e72 => ?_)
    refine z_lload_n (pc := 73) dX11_offerGap_73 rfl ?_
    refine z_aload_n (pc := 74) dX11_offerGap_74 rfl ?_
    refine z_getR (pc := 75) (t := 32) dX11_offerGap_75 fk_X11_13 rfl (by decide) (by decide) (by decide) rfl ?_
    refine z_iload (pc := 78) dX11_offerGap_78 rfl ?_
    refine z_ialdN (pc := 80) k dX11_offerGap_80 rfl (by decide) hk (by show _ < 40; omega) ?_
    refine z_i2lT (pc := 81) dX11_offerGap_81 rfl (fun v81 e81 => ?_)
    refine z_lmulT (pc := 82) dX11_offerGap_82 rfl rfl (by rw [e81]; omega) (by rw [e81]; omega) (fun v82 e82 => ?_)
    refine z_laddT (pc := 83) dX11_offerGap_83 rfl rfl (by rw [e72, e82, e71, e81]; omega) (by rw [e72, e82, e71, e81]; omega) (fun v83 e83 => ?_)
    refine z_lstore (pc := 84) dX11_offerGap_84 rfl rfl (by dsimp only [setI, setL, List.set]) ?_
    have ev : v83.toInt = pj (A, B) (pt k) := by rw [e83, e72, e82, e71, e81, ex, ey, eA, eB]; rfl
    refine z_aload_n (pc := 86) dX11_offerGap_86 rfl ?_
    refine z_getR (pc := 87) (t := 35) dX11_offerGap_87 fk_X11_22 rfl (by decide) (by decide) (by decide) rfl ?_
    refine z_iload (pc := 90) dX11_offerGap_90 rfl ?_
    refine z_zaldN (pc := 92) k dX11_offerGap_92 rfl (by decide) hk (by show _ < 40; omega) ?_
    refine zq_if_ne (pc := 93) (tgt := 124) dX11_offerGap_93 rfl rfl (fun h93 => ?_) (fun h93 => ?_)
    · skip
      refine z_iincT (pc := 124) dX11_offerGap_124 rfl rfl (by decide) (by decide) (by omega) (by omega) rfl rfl (fun v => by dsimp only [setI, setL, List.set]) (fun v124 e124 => ?_)
      refine z_goto (pc := 127) (tgt := 54) dX11_offerGap_127 rfl ?_
      exact ih (k + 1) x8 v124 x9 _ (by omega) (by omega) (by omega) (nxt_no hx (fun w => absurd (prs_mem.mp w).2 (by rw [maway_of hpi.2.2.2.2 h93]; decide)))
    · skip
      refine z_lload (pc := 96) dX11_offerGap_96 rfl ?_
      refine z_lload (pc := 98) dX11_offerGap_98 rfl ?_
      refine zq_lc_le (pc := 100) (tgt := 124) dX11_offerGap_100 dX11_offerGap_101 rfl rfl rfl (fun h100 => ?_) (fun h100 => ?_)
      · skip
        refine z_iincT (pc := 124) dX11_offerGap_124 rfl rfl (by decide) (by decide) (by omega) (by omega) rfl rfl (fun v => by dsimp only [setI, setL, List.set]) (fun v124 e124 => ?_)
        refine z_goto (pc := 127) (tgt := 54) dX11_offerGap_127 rfl ?_
        exact ih (k + 1) x8 v124 x9 _ (by omega) (by omega) (by omega) (nxt_no hx (fun w => Or.inl (by omega)))
      · skip
        refine z_iload (pc := 104) dX11_offerGap_104 rfl ?_
        refine zq_if_eq (pc := 106) (tgt := 117) dX11_offerGap_106 rfl rfl (fun h106 => ?_) (fun h106 => ?_)
        · skip
          refine z_iconst (pc := 117) (v := 1) dX11_offerGap_117 (by decide) ?_
          refine z_istore (pc := 118) dX11_offerGap_118 rfl rfl (by dsimp only [setI, setL, List.set]) ?_
          refine z_lload (pc := 120) dX11_offerGap_120 rfl ?_
          refine z_lstore (pc := 122) dX11_offerGap_122 rfl rfl (by dsimp only [setI, setL, List.set]) ?_
          refine z_iincT (pc := 124) dX11_offerGap_124 rfl rfl (by decide) (by decide) (by omega) (by omega) rfl rfl (fun v => by dsimp only [setI, setL, List.set]) (fun v124 e124 => ?_)
          refine z_goto (pc := 127) (tgt := 54) dX11_offerGap_127 rfl ?_
          have hy := nxt_yes hx (prs_mem.mpr ⟨by omega, mthere_of hpi.2.2.2.2 h93⟩) (by omega) (Or.inl (by omega))
          rw [← ev] at hy
          exact ih (k + 1) 1 v124 v83 _ (by omega) (by omega) (by omega) hy
        · skip
          refine z_lload (pc := 109) dX11_offerGap_109 rfl ?_
          refine z_lload (pc := 111) dX11_offerGap_111 rfl ?_
          refine zq_lc_ge (pc := 113) (tgt := 124) dX11_offerGap_113 dX11_offerGap_114 rfl rfl rfl (fun h113 => ?_) (fun h113 => ?_)
          · skip
            refine z_iincT (pc := 124) dX11_offerGap_124 rfl rfl (by decide) (by decide) (by omega) (by omega) rfl rfl (fun v => by dsimp only [setI, setL, List.set]) (fun v124 e124 => ?_)
            refine z_goto (pc := 127) (tgt := 54) dX11_offerGap_127 rfl ?_
            exact ih (k + 1) x8 v124 x9 _ (by omega) (by omega) (by omega) (nxt_no hx (fun w => Or.inr ⟨by rcases hx with z | z <;> omega, by omega⟩))
          · skip
            refine z_iconst (pc := 117) (v := 1) dX11_offerGap_117 (by decide) ?_
            refine z_istore (pc := 118) dX11_offerGap_118 rfl rfl (by dsimp only [setI, setL, List.set]) ?_
            refine z_lload (pc := 120) dX11_offerGap_120 rfl ?_
            refine z_lstore (pc := 122) dX11_offerGap_122 rfl rfl (by dsimp only [setI, setL, List.set]) ?_
            refine z_iincT (pc := 124) dX11_offerGap_124 rfl rfl (by decide) (by decide) (by omega) (by omega) rfl rfl (fun v => by dsimp only [setI, setL, List.set]) (fun v124 e124 => ?_)
            refine z_goto (pc := 127) (tgt := 54) dX11_offerGap_127 rfl ?_
            have hy := nxt_yes hx (prs_mem.mpr ⟨by omega, mthere_of hpi.2.2.2.2 h93⟩) (by omega) (Or.inr (by omega))
            rw [← ev] at hy
            exact ih (k + 1) 1 v124 v83 _ (by omega) (by omega) (by omega) hy

theorem c_og_t {l : Launch} {G : Gx} {d : Nat} {σ : Sg} {Q : Option Value → Sg → Prop} {n p : Nat} {pt : Nat → Pt} {T : Int × Int → Nat → Nat → Prop} {nx ny fr x9 : Int64} {A B : Int} {x5 x8 x11 : Int32} {y12 : Option Value} (eA : nx.toInt = A) (eB : ny.toInt = B) (ha : -600 ≤ A ∧ A ≤ 600) (hb : -600 ≤ B ∧ B ≤ 600) (hab : A ≠ 0 ∨ B ≠ 0) (hP : ∀ i, i < n → ptOk (pt i)) (hp : p ∈ prs n pt) (hfr : fr.toInt = pj (A, B) (pt p)) (hx : nxt n pt (A, B) p n x8.toInt x9.toInt) (hW : WM σ pt T) (hT : ∀ u p r, T u p r → 0 < usq u) (hnext : ∀ τ, WM τ pt (fun v p' r => T v p' r ∨ (v = (A, B) ∧ (p' = p ∧ isGap (prs n pt) pt (A, B) p' r))) → FrQ σ τ → Z l G M_X11_offerGap d 191 [some (.ref 1), some (.long nx), none, some (.long ny), none, some (.int x5), none, none, none, none, none, none, none, none, none] [] τ Q) : Z l G M_X11_offerGap d 130 [some (.ref 1), some (.long nx), none, some (.long ny), none, some (.int x5), some (.long fr), none, some (.int x8), some (.long x9), none, some (.int x11), y12, none, none] [] σ Q := by
  refine z_sub (L' := [some _, some _, none, some _, none, some _, some _, none, some _, some _, none, none, none, none, none]) ⟨rfl, rfl, rfl, rfl, rfl, rfl, rfl, trivial⟩ ?_
  have hu : 0 < usq (A, B) := usq_pos hab
  have eu : usq (A, B) = A * A + B * B := rfl
  have m2 := mulb (a := A) (b := A) (p := 600) (q := 600) (by omega) (by omega) (by omega) (by omega)
  have m3 := mulb (a := B) (b := B) (p := 600) (q := 600) (by omega) (by omega) (by omega) (by omega)
  have w1 := hW.1.1
  have w2 := hW.1.2.1
  have w3 := hW.2.1
  have w4 := hW.2.2
  have m5 := mulb (a := (σ.2 1 38).toInt) (b := usq (A, B)) (p := 518400000000) (q := 720000) (by omega) (by omega) (by omega) (by omega)
  have bp := pj_B (hP p (prs_mem.mp hp).1) ha hb
  have bx : x8.toInt = 0 ∨ (-360000 ≤ x9.toInt ∧ x9.toInt ≤ 360000) := by
    rcases hx with z | ⟨_, r, hr, er, _⟩
    · exact Or.inl z.1
    · right
      rw [er]
      exact pj_B (hP r (prs_mem.mp hr).1) ha hb
  refine z_iload (pc := 130) dX11_offerGap_130 rfl ?_
  refine zq_if_eq (pc := 132) (tgt := 143) dX11_offerGap_132 rfl rfl (fun h132 => ?_) (fun h132 => ?_)
  · skip
    refine z_lconst (pc := 143) (v := 0) dX11_offerGap_143 (by decide) ?_
    have hgv : (x8.toInt = 0 ∧ (0 : Int) = 0) ∨ (x8.toInt ≠ 0 ∧ (0 : Int) = x9.toInt - pj (A, B) (pt p)) := Or.inl ⟨by omega, rfl⟩
    have hG := nxt_end hx hp hgv
    have g0 := hG.1
    have g7 : (0 : Int) ≤ 720000 := by
      rcases hgv with z | z
      · omega
      · omega
    have m1 := mulb (a := (0 : Int)) (b := (0 : Int)) (p := 720000) (q := 720000) (by omega) (by omega) (by omega) (by omega)
    have m4 := mulb (a := (0 : Int) * (0 : Int)) (b := (σ.2 1 39).toInt) (p := 518400000000) (q := 720000) (by omega) (by omega) (by omega) (by omega)
    refine z_lstore (pc := 144) dX11_offerGap_144 rfl rfl (by dsimp only [setI, setL, List.set]) ?_
    refine z_lload_n (pc := 146) dX11_offerGap_146 rfl ?_
    refine z_lload_n (pc := 147) dX11_offerGap_147 rfl ?_
    refine z_lmulT (pc := 148) dX11_offerGap_148 rfl rfl (by rw [eA]; omega) (by rw [eA]; omega) (fun v148 e148 => ?_)
    refine z_lload_n (pc := 149) dX11_offerGap_149 rfl ?_
    refine z_lload_n (pc := 150) dX11_offerGap_150 rfl ?_
    refine z_lmulT (pc := 151) dX11_offerGap_151 rfl rfl (by rw [eB]; omega) (by rw [eB]; omega) (fun v151 e151 => ?_)
    refine z_laddT (pc := 152) dX11_offerGap_152 rfl rfl (by rw [e148, e151, eA, eB]; omega) (by rw [e148, e151, eA, eB]; omega) (fun v152 e152 => ?_)
    refine z_lstore (pc := 153) dX11_offerGap_153 rfl rfl (by dsimp only [setI, setL, List.set]) ?_
    refine z_lload (pc := 155) dX11_offerGap_155 rfl ?_
    refine z_lload (pc := 157) dX11_offerGap_157 rfl ?_
    refine z_lmulT (pc := 159) (cx := 0) (cy := 0) dX11_offerGap_159 (by decide) (by decide) (by first | omega | decide) (by first | omega | decide) (fun v159 e159 => ?_)
    refine z_aload_n (pc := 160) dX11_offerGap_160 rfl ?_
    refine z_getJ (pc := 161) dX11_offerGap_161 fk_X11_267 rfl (by decide) (by decide) (by decide) ?_
    refine z_lmulT (pc := 164) dX11_offerGap_164 rfl rfl (by rw [e159]; omega) (by rw [e159]; omega) (fun v164 e164 => ?_)
    refine z_aload_n (pc := 165) dX11_offerGap_165 rfl ?_
    refine z_getJ (pc := 166) dX11_offerGap_166 fk_X11_270 rfl (by decide) (by decide) (by decide) ?_
    refine z_lload (pc := 169) dX11_offerGap_169 rfl ?_
    refine z_lmulT (pc := 171) dX11_offerGap_171 rfl rfl (by rw [show v152.toInt = usq (A, B) from by rw [eu, e152, e148, e151, eA, eB]]; omega) (by rw [show v152.toInt = usq (A, B) from by rw [eu, e152, e148, e151, eA, eB]]; omega) (fun v171 e171 => ?_)
    refine zq_lc_le (pc := 172) (tgt := 191) dX11_offerGap_172 dX11_offerGap_173 rfl rfl rfl (fun h172 => ?_) (fun h172 => ?_)
    · skip
      refine z_sub (L' := [some _, some _, none, some _, none, some _, none, none, none, none, none, none, none, none, none]) ⟨rfl, rfl, rfl, rfl, trivial⟩ ?_
      have k8 : v152.toInt = usq (A, B) := by rw [eu, e152, e148, e151, eA, eB]
      rw [e164, e171, e159, k8] at h172
      exact hnext σ ⟨WBt_old hW.1 hG.2.1 (by omega), hW.2⟩ FrQ_rf
    · skip
      refine z_aload_n (pc := 176) dX11_offerGap_176 rfl ?_
      refine z_lload (pc := 177) dX11_offerGap_177 rfl ?_
      refine z_lload (pc := 179) dX11_offerGap_179 rfl ?_
      refine z_lmulT (pc := 181) (cx := 0) (cy := 0) dX11_offerGap_181 (by decide) (by decide) (by first | omega | decide) (by first | omega | decide) (fun v181 e181 => ?_)
      refine z_putJ (pc := 182) dX11_offerGap_182 fk_X11_270 rfl (by decide) (by decide) (by decide) ?_
      refine z_aload_n (pc := 185) dX11_offerGap_185 rfl ?_
      refine z_lload (pc := 186) dX11_offerGap_186 rfl ?_
      refine z_putJ (pc := 188) dX11_offerGap_188 fk_X11_267 rfl (by decide) (by decide) (by decide) ?_
      refine z_sub (L' := [some _, some _, none, some _, none, some _, none, none, none, none, none, none, none, none, none]) ⟨rfl, rfl, rfl, rfl, trivial⟩ ?_
      have k8 : v152.toInt = usq (A, B) := by rw [eu, e152, e148, e151, eA, eB]
      rw [e164, e171, e159, k8] at h172
      have hnw := WBt_new hW.1 hT hu hG.2.1 g0 hG.2.2 (by omega)
      refine hnext _ ⟨?_, ?_, ?_⟩ (FrQ_uJ1 (FrQ_uJ1 FrQ_rf (by omega)) (by omega))
      · rw [uJ_eq, uJ_nk (by omega), uJ_eq, k8, e181]; exact hnw
      · rw [uJ_nk (by omega), uJ_eq, e181]; omega
      · rw [uJ_eq, k8]; omega
  · skip
    refine z_lload (pc := 135) dX11_offerGap_135 rfl ?_
    refine z_lload (pc := 137) dX11_offerGap_137 rfl ?_
    refine z_lsubT (pc := 139) dX11_offerGap_139 rfl rfl (by rw [hfr]; omega) (by rw [hfr]; omega) (fun v139 e139 => ?_)
    refine z_goto (pc := 140) (tgt := 144) dX11_offerGap_140 rfl ?_
    have hgv : (x8.toInt = 0 ∧ v139.toInt = 0) ∨ (x8.toInt ≠ 0 ∧ v139.toInt = x9.toInt - pj (A, B) (pt p)) := Or.inr ⟨by omega, by rw [e139, hfr]⟩
    have hG := nxt_end hx hp hgv
    have g0 := hG.1
    have g7 : v139.toInt ≤ 720000 := by
      rcases hgv with z | z
      · omega
      · omega
    have m1 := mulb (a := v139.toInt) (b := v139.toInt) (p := 720000) (q := 720000) (by omega) (by omega) (by omega) (by omega)
    have m4 := mulb (a := v139.toInt * v139.toInt) (b := (σ.2 1 39).toInt) (p := 518400000000) (q := 720000) (by omega) (by omega) (by omega) (by omega)
    refine z_lstore (pc := 144) dX11_offerGap_144 rfl rfl (by dsimp only [setI, setL, List.set]) ?_
    refine z_lload_n (pc := 146) dX11_offerGap_146 rfl ?_
    refine z_lload_n (pc := 147) dX11_offerGap_147 rfl ?_
    refine z_lmulT (pc := 148) dX11_offerGap_148 rfl rfl (by rw [eA]; omega) (by rw [eA]; omega) (fun v148 e148 => ?_)
    refine z_lload_n (pc := 149) dX11_offerGap_149 rfl ?_
    refine z_lload_n (pc := 150) dX11_offerGap_150 rfl ?_
    refine z_lmulT (pc := 151) dX11_offerGap_151 rfl rfl (by rw [eB]; omega) (by rw [eB]; omega) (fun v151 e151 => ?_)
    refine z_laddT (pc := 152) dX11_offerGap_152 rfl rfl (by rw [e148, e151, eA, eB]; omega) (by rw [e148, e151, eA, eB]; omega) (fun v152 e152 => ?_)
    refine z_lstore (pc := 153) dX11_offerGap_153 rfl rfl (by dsimp only [setI, setL, List.set]) ?_
    refine z_lload (pc := 155) dX11_offerGap_155 rfl ?_
    refine z_lload (pc := 157) dX11_offerGap_157 rfl ?_
    refine z_lmulT (pc := 159) dX11_offerGap_159 rfl rfl (by first | omega | decide) (by first | omega | decide) (fun v159 e159 => ?_)
    refine z_aload_n (pc := 160) dX11_offerGap_160 rfl ?_
    refine z_getJ (pc := 161) dX11_offerGap_161 fk_X11_267 rfl (by decide) (by decide) (by decide) ?_
    refine z_lmulT (pc := 164) dX11_offerGap_164 rfl rfl (by rw [e159]; omega) (by rw [e159]; omega) (fun v164 e164 => ?_)
    refine z_aload_n (pc := 165) dX11_offerGap_165 rfl ?_
    refine z_getJ (pc := 166) dX11_offerGap_166 fk_X11_270 rfl (by decide) (by decide) (by decide) ?_
    refine z_lload (pc := 169) dX11_offerGap_169 rfl ?_
    refine z_lmulT (pc := 171) dX11_offerGap_171 rfl rfl (by rw [show v152.toInt = usq (A, B) from by rw [eu, e152, e148, e151, eA, eB]]; omega) (by rw [show v152.toInt = usq (A, B) from by rw [eu, e152, e148, e151, eA, eB]]; omega) (fun v171 e171 => ?_)
    refine zq_lc_le (pc := 172) (tgt := 191) dX11_offerGap_172 dX11_offerGap_173 rfl rfl rfl (fun h172 => ?_) (fun h172 => ?_)
    · skip
      refine z_sub (L' := [some _, some _, none, some _, none, some _, none, none, none, none, none, none, none, none, none]) ⟨rfl, rfl, rfl, rfl, trivial⟩ ?_
      have k8 : v152.toInt = usq (A, B) := by rw [eu, e152, e148, e151, eA, eB]
      rw [e164, e171, e159, k8] at h172
      exact hnext σ ⟨WBt_old hW.1 hG.2.1 (by omega), hW.2⟩ FrQ_rf
    · skip
      refine z_aload_n (pc := 176) dX11_offerGap_176 rfl ?_
      refine z_lload (pc := 177) dX11_offerGap_177 rfl ?_
      refine z_lload (pc := 179) dX11_offerGap_179 rfl ?_
      refine z_lmulT (pc := 181) dX11_offerGap_181 rfl rfl (by first | omega | decide) (by first | omega | decide) (fun v181 e181 => ?_)
      refine z_putJ (pc := 182) dX11_offerGap_182 fk_X11_270 rfl (by decide) (by decide) (by decide) ?_
      refine z_aload_n (pc := 185) dX11_offerGap_185 rfl ?_
      refine z_lload (pc := 186) dX11_offerGap_186 rfl ?_
      refine z_putJ (pc := 188) dX11_offerGap_188 fk_X11_267 rfl (by decide) (by decide) (by decide) ?_
      refine z_sub (L' := [some _, some _, none, some _, none, some _, none, none, none, none, none, none, none, none, none]) ⟨rfl, rfl, rfl, rfl, trivial⟩ ?_
      have k8 : v152.toInt = usq (A, B) := by rw [eu, e152, e148, e151, eA, eB]
      rw [e164, e171, e159, k8] at h172
      have hnw := WBt_new hW.1 hT hu hG.2.1 g0 hG.2.2 (by omega)
      refine hnext _ ⟨?_, ?_, ?_⟩ (FrQ_uJ1 (FrQ_uJ1 FrQ_rf (by omega)) (by omega))
      · rw [uJ_eq, uJ_nk (by omega), uJ_eq, k8, e181]; exact hnw
      · rw [uJ_nk (by omega), uJ_eq, e181]; omega
      · rw [uJ_eq, k8]; omega

theorem c_og_p {l : Launch} {G : Gx} {d : Nat} {σ : Sg} {Q : Option Value → Sg → Prop} {n : Nat} {pt : Nat → Pt} {T : Int × Int → Nat → Nat → Prop} {nx ny : Int64} {A B : Int} (hQ : rmQ σ n pt) (eA : nx.toInt = A) (eB : ny.toInt = B) (ha : -600 ≤ A ∧ A ≤ 600) (hb : -600 ≤ B ∧ B ≤ 600) (hab : A ≠ 0 ∨ B ≠ 0) (hT : ∀ u p r, T u p r → 0 < usq u) (h : ∀ τ, WM τ pt (fun v p r => T v p r ∨ (v = (A, B) ∧ isGap (prs n pt) pt (A, B) p r)) → FrQ σ τ → Q none τ) : ∀ (f p : Nat) (x5 : Int32) (τ : Sg), x5.toInt = (p : Int) → p ≤ n → n - p < f → WM τ pt (fun v p' r => T v p' r ∨ (v = (A, B) ∧ (p' < p ∧ isGap (prs n pt) pt (A, B) p' r))) → FrQ σ τ → Z l G M_X11_offerGap d 3 [some (.ref 1), some (.long nx), none, some (.long ny), none, some (.int x5), none, none, none, none, none, none, none, none, none] [] τ Q := by
  intro f
  induction f with
  | zero => intro p x5 τ hx hpn hfu hW hF; omega
  | succ f ih =>
  intro p x5 τ hx hpn hfu hW hF
  have hQt := rmQ_Fr hQ hF
  have hg := hQt.2.1.1
  have hn := hQ.1
  refine z_iload (pc := 3) dX11_offerGap_3 rfl ?_
  refine z_aload_n (pc := 5) dX11_offerGap_5 rfl ?_
  refine z_getI (pc := 6) dX11_offerGap_6 fk_X11_101 rfl (by decide) (by decide) (by decide) ?_
  refine zq_icmp_ge (pc := 9) (tgt := 197) dX11_offerGap_9 rfl rfl rfl (fun h9 => ?_) (fun h9 => ?_)
  · skip
    refine z_vret (pc := 197) dX11_offerGap_197 rfl ?_
    have e : p = n := by omega
    subst e
    refine h τ (WM_congr (fun v p' r => ⟨fun w => w.imp id (fun y => ⟨y.1, y.2.2⟩), fun w => w.imp id (fun y => ⟨y.1, (prs_mem.mp y.2.1).1, y.2⟩)⟩) hW) hF
  · skip
    refine z_aload_n (pc := 12) dX11_offerGap_12 rfl ?_
    refine z_getR (pc := 13) (t := 35) dX11_offerGap_13 fk_X11_22 rfl (by decide) (by decide) (by decide) rfl ?_
    refine z_iload (pc := 16) dX11_offerGap_16 rfl ?_
    refine z_zaldN (pc := 18) p dX11_offerGap_18 rfl (by decide) hx (by show _ < 40; omega) ?_
    refine zq_if_ne (pc := 19) (tgt := 191) dX11_offerGap_19 rfl rfl (fun h19 => ?_) (fun h19 => ?_)
    · skip
      refine z_iincT (pc := 191) dX11_offerGap_191 rfl rfl (by decide) (by decide) (by omega) (by omega) rfl rfl (fun v => by dsimp only [setI, setL, List.set]) (fun v191 e191 => ?_)
      refine z_goto (pc := 194) (tgt := 3) dX11_offerGap_194 rfl ?_
      refine ih (p + 1) v191 τ (by omega) (by omega) (by omega) (WM_congr (fun v p' r => ?_) hW) hF
      have hno : ¬ p ∈ prs n pt := fun w => absurd (prs_mem.mp w).2 (by rw [maway_of (hQt.2.1.2 p (by omega)).2.2.2.2 h19]; decide)
      constructor
      · rintro (w | ⟨w1, w2, w3⟩)
        · exact Or.inl w
        · exact Or.inr ⟨w1, by omega, w3⟩
      · rintro (w | ⟨w1, w2, w3⟩)
        · exact Or.inl w
        · rcases Nat.lt_or_ge p' p with g | g
          · exact Or.inr ⟨w1, g, w3⟩
          · rw [show p' = p by omega] at w3
            exact absurd w3.1 hno
    · skip
      have hpi := hQt.2.1.2 p (by omega)
      have hok := hQ.2.2.1 p (by omega)
      have hpP : p ∈ prs n pt := prs_mem.mpr ⟨by omega, mthere_of hpi.2.2.2.2 h19⟩
      unfold ptOk at hok
      have ex : (τ.1 31 p).toInt = (pt p).1.toInt := by rw [hpi.1]
      have ey : (τ.1 32 p).toInt = (pt p).2.1.toInt := by rw [hpi.2.1]
      have m1 := mulb (a := nx.toInt) (b := (τ.1 31 p).toInt) (p := 600) (q := 300) (by omega) (by omega) (by omega) (by omega)
      have m2 := mulb (a := ny.toInt) (b := (τ.1 32 p).toInt) (p := 600) (q := 300) (by omega) (by omega) (by omega) (by omega)
      refine z_lload_n (pc := 22) dX11_offerGap_22 rfl ?_
      refine z_aload_n (pc := 23) dX11_offerGap_23 rfl ?_
      refine z_getR (pc := 24) (t := 31) dX11_offerGap_24 fk_X11_7 rfl (by decide) (by decide) (by decide) rfl ?_
      refine z_iload (pc := 27) dX11_offerGap_27 rfl ?_
      refine z_ialdN (pc := 29) p dX11_offerGap_29 rfl (by decide) hx (by show _ < 40; omega) ?_
      refine z_i2lT (pc := 30) dX11_offerGap_30 rfl (fun v30 e30 => ?_)
      refine z_lmulT (pc := 31) dX11_offerGap_31 rfl rfl (by rw [e30]; omega) (by rw [e30]; omega) (fun v31 e31 => ?_)
      refine z_lload_n (pc := 32) dX11_offerGap_32 rfl ?_
      refine z_aload_n (pc := 33) dX11_offerGap_33 rfl ?_
      refine z_getR (pc := 34) (t := 32) dX11_offerGap_34 fk_X11_13 rfl (by decide) (by decide) (by decide) rfl ?_
      refine z_iload (pc := 37) dX11_offerGap_37 rfl ?_
      refine z_ialdN (pc := 39) p dX11_offerGap_39 rfl (by decide) hx (by show _ < 40; omega) ?_
      refine z_i2lT (pc := 40) dX11_offerGap_40 rfl (fun v40 e40 => ?_)
      refine z_lmulT (pc := 41) dX11_offerGap_41 rfl rfl (by rw [e40]; omega) (by rw [e40]; omega) (fun v41 e41 => ?_)
      refine z_laddT (pc := 42) dX11_offerGap_42 rfl rfl (by rw [e31, e41, e30, e40]; omega) (by rw [e31, e41, e30, e40]; omega) (fun v42 e42 => ?_)
      refine z_lstore (pc := 43) dX11_offerGap_43 rfl rfl (by dsimp only [setI, setL, List.set]) ?_
      refine z_iconst (pc := 45) (v := 0) dX11_offerGap_45 (by decide) ?_
      refine z_istore (pc := 46) dX11_offerGap_46 rfl rfl (by dsimp only [setI, setL, List.set]) ?_
      refine z_lconst (pc := 48) (v := 0) dX11_offerGap_48 (by decide) ?_
      refine z_lstore (pc := 49) dX11_offerGap_49 rfl rfl (by dsimp only [setI, setL, List.set]) ?_
      refine z_iconst (pc := 51) (v := 0) dX11_offerGap_51 (by decide) ?_
      refine z_istore (pc := 52) dX11_offerGap_52 rfl rfl (by dsimp only [setI, setL, List.set]) ?_
      have efr : v42.toInt = pj (A, B) (pt p) := by rw [e42, e31, e41, e30, e40, ex, ey, eA, eB]; rfl
      refine c_og_q hQt eA eB ha hb efr ?_ (n + 1) 0 0 0 0 _ (by decide) (by omega) (by omega) (Or.inl ⟨rfl, fun q hq => absurd hq (by omega)⟩)
      intro z8 z11 z9 y12 hnx
      refine c_og_t eA eB ha hb hab hQ.2.2.1 hpP efr hnx hW (fun u p r ht => ht.elim (hT u p r) (fun w => by rw [w.1]; exact gap_u w.2.2)) ?_
      intro υ hWu uF
      refine z_iincT (pc := 191) dX11_offerGap_191 rfl rfl (by decide) (by decide) (by omega) (by omega) rfl rfl (fun v => by dsimp only [setI, setL, List.set]) (fun v191 e191 => ?_)
      refine z_goto (pc := 194) (tgt := 3) dX11_offerGap_194 rfl ?_
      refine ih (p + 1) v191 υ (by omega) (by omega) (by omega) (WM_congr (fun v p' r => ?_) hWu) (FrQ_tr hF uF)
      constructor
      · rintro ((w | ⟨w1, w2, w3⟩) | ⟨w1, w2, w3⟩)
        · exact Or.inl w
        · exact Or.inr ⟨w1, by omega, w3⟩
        · exact Or.inr ⟨w1, by omega, w3⟩
      · rintro (w | ⟨w1, w2, w3⟩)
        · exact Or.inl (Or.inl w)
        · rcases Nat.lt_or_ge p' p with g | g
          · exact Or.inl (Or.inr ⟨w1, g, w3⟩)
          · exact Or.inr ⟨w1, by omega, w3⟩

theorem c_X11_offerGap {l : Launch} {G : Gx} {d : Nat} {σ : Sg} {Q : Option Value → Sg → Prop} {n : Nat} {pt : Nat → Pt} {T : Int × Int → Nat → Nat → Prop} {nx ny : Int64} {A B : Int} (hQ : rmQ σ n pt) (eA : nx.toInt = A) (eB : ny.toInt = B) (ha : -600 ≤ A ∧ A ≤ 600) (hb : -600 ≤ B ∧ B ≤ 600) (hab : A ≠ 0 ∨ B ≠ 0) (hT : ∀ u p r, T u p r → 0 < usq u) (hW : WM σ pt T) (h : ∀ τ, WM τ pt (fun v p r => T v p r ∨ (v = (A, B) ∧ isGap (prs n pt) pt (A, B) p r)) → FrQ σ τ → Q none τ)  : Z l G M_X11_offerGap (d) 0 [some (.ref 1), some (.long nx), none, some (.long ny), none] [] σ Q := by
  refine z_sub (L' := [some (.ref 1), some (.long nx), none, some (.long ny), none, none, none, none, none, none, none, none, none, none, none]) ⟨rfl, rfl, rfl, trivial⟩ ?_
  refine z_iconst (pc := 0) (v := 0) dX11_offerGap_0 (by decide) ?_
  refine z_istore (pc := 1) dX11_offerGap_1 rfl rfl (by dsimp only [setI, setL, List.set]) ?_
  exact c_og_p hQ eA eB ha hb hab hT h (n + 1) 0 0 σ (by decide) (by omega) (by omega) (WM_congr (fun v p' r => ⟨fun w => Or.inl w, fun w => w.elim id (fun y => absurd y.2.1 (by omega))⟩) hW) FrQ_rf

/-- the directions that the model offers -/
def mD (pt : Nat → Pt) (p q : Nat) (u : Int × Int) : Prop := u = ((pt p).1.toInt - (pt q).1.toInt, (pt p).2.1.toInt - (pt q).2.1.toInt) ∨ u = ((pt p).2.1.toInt - (pt q).2.1.toInt, -((pt p).1.toInt - (pt q).1.toInt))
def dMs (n : Nat) (pt : Nat → Pt) (p q : Nat) (u : Int × Int) : Prop := ∃ p' q', p' ∈ prs n pt ∧ q' ∈ prs n pt ∧ q' < p' ∧ (p' < p ∨ (p' = p ∧ q' < q)) ∧ apt (pt p') (pt q') = true ∧ mD pt p' q' u
def tMs (n : Nat) (pt : Nat → Pt) (p q : Nat) (u : Int × Int) (a b : Nat) : Prop := dMs n pt p q u ∧ isGap (prs n pt) pt u a b
theorem tMs_add {n p q : Nat} {pt : Nat → Pt} (hp : p ∈ prs n pt) (hq : q ∈ prs n pt) (hlt : q < p) (ha : apt (pt p) (pt q) = true) (u : Int × Int) (a b : Nat) : ((tMs n pt p q u a b ∨ (u = ((pt p).1.toInt - (pt q).1.toInt, (pt p).2.1.toInt - (pt q).2.1.toInt) ∧ isGap (prs n pt) pt ((pt p).1.toInt - (pt q).1.toInt, (pt p).2.1.toInt - (pt q).2.1.toInt) a b)) ∨ (u = ((pt p).2.1.toInt - (pt q).2.1.toInt, -((pt p).1.toInt - (pt q).1.toInt)) ∧ isGap (prs n pt) pt ((pt p).2.1.toInt - (pt q).2.1.toInt, -((pt p).1.toInt - (pt q).1.toInt)) a b)) ↔ tMs n pt p (q + 1) u a b := by
  constructor
  · rintro ((⟨⟨p', q', h1, h2, h3, h4, h5, h6⟩, hg⟩ | ⟨rfl, hg⟩) | ⟨rfl, hg⟩)
    · exact ⟨⟨p', q', h1, h2, h3, by omega, h5, h6⟩, hg⟩
    · exact ⟨⟨p, q, hp, hq, hlt, Or.inr ⟨rfl, by omega⟩, ha, Or.inl rfl⟩, hg⟩
    · exact ⟨⟨p, q, hp, hq, hlt, Or.inr ⟨rfl, by omega⟩, ha, Or.inr rfl⟩, hg⟩
  · rintro ⟨⟨p', q', h1, h2, h3, h4, h5, h6⟩, hg⟩
    rcases (show p' < p ∨ (p' = p ∧ q' < q) ∨ (p' = p ∧ q' = q) by omega) with g | g | ⟨rfl, rfl⟩
    · exact Or.inl (Or.inl ⟨⟨p', q', h1, h2, h3, Or.inl g, h5, h6⟩, hg⟩)
    · exact Or.inl (Or.inl ⟨⟨p', q', h1, h2, h3, Or.inr g, h5, h6⟩, hg⟩)
    · rcases h6 with rfl | rfl
      · exact Or.inl (Or.inr ⟨rfl, hg⟩)
      · exact Or.inr ⟨rfl, hg⟩
theorem tMs_skip {n p q : Nat} {pt : Nat → Pt} (hno : p ∈ prs n pt → q ∈ prs n pt → apt (pt p) (pt q) = false) (u : Int × Int) (a b : Nat) : tMs n pt p q u a b ↔ tMs n pt p (q + 1) u a b := by
  constructor
  · rintro ⟨⟨p', q', h1, h2, h3, h4, h5, h6⟩, hg⟩
    exact ⟨⟨p', q', h1, h2, h3, by omega, h5, h6⟩, hg⟩
  · rintro ⟨⟨p', q', h1, h2, h3, h4, h5, h6⟩, hg⟩
    rcases (show p' < p ∨ (p' = p ∧ q' < q) ∨ (p' = p ∧ q' = q) by omega) with g | g | ⟨rfl, rfl⟩
    · exact ⟨⟨p', q', h1, h2, h3, Or.inl g, h5, h6⟩, hg⟩
    · exact ⟨⟨p', q', h1, h2, h3, Or.inr g, h5, h6⟩, hg⟩
    · rw [hno h1 h2] at h5; cases h5
theorem tMs_row {n p q : Nat} {pt : Nat → Pt} (hno : p ∈ prs n pt → p ≤ q) (u : Int × Int) (a b : Nat) : tMs n pt p q u a b ↔ tMs n pt (p + 1) 0 u a b := by
  constructor
  · rintro ⟨⟨p', q', h1, h2, h3, h4, h5, h6⟩, hg⟩
    exact ⟨⟨p', q', h1, h2, h3, by omega, h5, h6⟩, hg⟩
  · rintro ⟨⟨p', q', h1, h2, h3, h4, h5, h6⟩, hg⟩
    rcases (show p' < p ∨ p' = p by omega) with g | rfl
    · exact ⟨⟨p', q', h1, h2, h3, Or.inl g, h5, h6⟩, hg⟩
    · have := hno h1
      exact ⟨⟨p', q', h1, h2, h3, Or.inr ⟨rfl, by omega⟩, h5, h6⟩, hg⟩
theorem dMs_dirs {n : Nat} {pt : Nat → Pt} {up low : Int} (h : WBest (dMs n pt n 0) (prs n pt) pt up low) : WBest (dirs n pt) (prs n pt) pt up low := by
  refine WBest_prp h (fun v hv => ?_) (fun u hu => ?_)
  · obtain ⟨t, ⟨z, hz, rfl⟩, hv⟩ := hv
    obtain ⟨h1, h2, h3⟩ := LPR_mem hz
    have hlt := prl_lt (prs_sorted n pt) (List.mem_filter.mp hz).1
    have ha := apt_iff.mp h3
    obtain ⟨s, hs, e1, e2, -⟩ := lnN_mul ((pt z.1).2.1.toInt - (pt z.2).2.1.toInt) ((pt z.2).1.toInt - (pt z.1).1.toInt) ((pt z.1).1.toInt * (pt z.2).2.1.toInt - (pt z.2).1.toInt * (pt z.1).2.1.toInt) (by omega)
    have hg := g3_pos (A := (pt z.1).2.1.toInt - (pt z.2).2.1.toInt) (B := (pt z.2).1.toInt - (pt z.1).1.toInt) ((pt z.1).1.toInt * (pt z.2).2.1.toInt - (pt z.2).1.toInt * (pt z.1).2.1.toInt) (by omega)
    change _ * (lnO pt z).1 = _ at e1
    change _ * (lnO pt z).2.1 = _ at e2
    generalize ((g3 ((pt z.1).2.1.toInt - (pt z.2).2.1.toInt) ((pt z.2).1.toInt - (pt z.1).1.toInt) ((pt z.1).1.toInt * (pt z.2).2.1.toInt - (pt z.2).1.toInt * (pt z.1).2.1.toInt) : Nat) : Int) = g at e1 e2
    generalize hgg : g3 ((pt z.1).2.1.toInt - (pt z.2).2.1.toInt) ((pt z.2).1.toInt - (pt z.1).1.toInt) ((pt z.1).1.toInt * (pt z.2).2.1.toInt - (pt z.2).1.toInt * (pt z.1).2.1.toInt) = gn at *
    have hm : ∀ u, mD pt z.2 z.1 u → dMs n pt n 0 u := fun u hu => ⟨z.2, z.1, h2, h1, hlt, Or.inl (prs_mem.mp h2).1, by rw [apt_symm]; exact h3, hu⟩
    have g0 : g ≠ 0 := by
      rintro rfl
      rw [Int.zero_mul] at e1 e2
      rcases hs with rfl | rfl <;> omega
    rcases hv with rfl | rfl
    · refine ⟨_, hm _ (Or.inr rfl), 1, -s * g, by omega, ?_, ?_, ?_⟩
      · rcases hs with rfl | rfl <;> omega
      · dsimp only
        rcases hs with rfl | rfl <;> grind
      · dsimp only
        rcases hs with rfl | rfl <;> grind
    · refine ⟨_, hm _ (Or.inl rfl), 1, s * g, by omega, ?_, ?_, ?_⟩
      · rcases hs with rfl | rfl <;> omega
      · dsimp only
        rcases hs with rfl | rfl <;> grind
      · dsimp only
        rcases hs with rfl | rfl <;> grind
  · obtain ⟨p, q, h1, h2, h3, h4, h5, h6⟩ := hu
    have ha := apt_iff.mp h5
    obtain ⟨s, hs, e1, e2, -⟩ := lnN_mul ((pt p).2.1.toInt - (pt q).2.1.toInt) ((pt q).1.toInt - (pt p).1.toInt) ((pt p).1.toInt * (pt q).2.1.toInt - (pt q).1.toInt * (pt p).2.1.toInt) (by omega)
    have hg := g3_pos (A := (pt p).2.1.toInt - (pt q).2.1.toInt) (B := (pt q).1.toInt - (pt p).1.toInt) ((pt p).1.toInt * (pt q).2.1.toInt - (pt q).1.toInt * (pt p).2.1.toInt) (by omega)
    change _ * (lnO pt (p, q)).1 = _ at e1
    change _ * (lnO pt (p, q)).2.1 = _ at e2
    have hL := isL_any h1 h2 h5
    rcases h6 with rfl | rfl
    · refine ⟨_, ⟨_, hL, Or.inr rfl⟩, (g3 ((pt p).2.1.toInt - (pt q).2.1.toInt) ((pt q).1.toInt - (pt p).1.toInt) ((pt p).1.toInt * (pt q).2.1.toInt - (pt q).1.toInt * (pt p).2.1.toInt) : Int), -s, by omega, ?_, ?_, ?_⟩
      · rcases hs with rfl | rfl <;> omega
      · dsimp only
        rw [e2]
        rcases hs with rfl | rfl <;> omega
      · dsimp only
        rw [Int.mul_neg, e1]
        rcases hs with rfl | rfl <;> omega
    · refine ⟨_, ⟨_, hL, Or.inl rfl⟩, (g3 ((pt p).2.1.toInt - (pt q).2.1.toInt) ((pt q).1.toInt - (pt p).1.toInt) ((pt p).1.toInt * (pt q).2.1.toInt - (pt q).1.toInt * (pt p).2.1.toInt) : Int), s, by omega, ?_, ?_, ?_⟩
      · rcases hs with rfl | rfl <;> omega
      · dsimp only
        rw [e1]
      · dsimp only
        rw [e2]
        rcases hs with rfl | rfl <;> omega

theorem c_mw_q {l : Launch} {G : Gx} {d : Nat} {σ : Sg} {Q : Option Value → Sg → Prop} {n p : Nat} {pt : Nat → Pt} {x1 x2 : Int32} (hQ : rmQ σ n pt) (hp : p < n) (hx : x2.toInt = (p : Int)) (hnext : ∀ (x3 : Int32) (τ : Sg), WM τ pt (tMs n pt (p + 1) 0) → FrQ σ τ → Z l G M_X11_widest (d + 1) 123 [some (.ref 1), some (.int x1), some (.int x2), some (.int x3), none, none, none, none] [] τ Q) : ∀ (f q : Nat) (x3 : Int32) (y4 y6 : Option Value) (τ : Sg), x3.toInt = (q : Int) → q ≤ p → p - q < f → WM τ pt (tMs n pt p q) → FrQ σ τ → Z l G M_X11_widest (d + 1) 36 [some (.ref 1), some (.int x1), some (.int x2), some (.int x3), y4, none, y6, none] [] τ Q := by
  intro f
  induction f with
  | zero => intro q x3 y4 y6 τ hq hqp hfu hW hF; omega
  | succ f ih =>
  intro q x3 y4 y6 τ hq hqp hfu hW hF
  refine z_sub (L' := [some _, some _, some _, some _, none, none, none, none]) ⟨rfl, rfl, rfl, rfl, trivial⟩ ?_
  have hQt := rmQ_Fr hQ hF
  have hn := hQ.1
  have hpi := hQt.2.1.2 p hp
  refine z_iload_n (pc := 36) dX11_widest_36 rfl ?_
  refine z_iload_n (pc := 37) dX11_widest_37 rfl ?_
  refine zq_icmp_ge (pc := 38) (tgt := 123) dX11_widest_38 rfl rfl rfl (fun h38 => ?_) (fun h38 => ?_)
  · skip
    exact hnext x3 τ (WM_congr (tMs_row (fun _ => by omega)) hW) hF
  · skip
    refine z_aload_n (pc := 41) dX11_widest_41 rfl ?_
    refine z_getR (pc := 42) (t := 35) dX11_widest_42 fk_X11_22 rfl (by decide) (by decide) (by decide) rfl ?_
    refine z_iload_n (pc := 45) dX11_widest_45 rfl ?_
    refine z_zaldN (pc := 46) p dX11_widest_46 rfl (by decide) hx (by show _ < 40; omega) ?_
    refine zq_if_ne (pc := 47) (tgt := 123) dX11_widest_47 rfl rfl (fun h47 => ?_) (fun h47 => ?_)
    · skip
      exact hnext x3 τ (WM_congr (tMs_row (fun w => absurd (prs_mem.mp w).2 (by rw [maway_of hpi.2.2.2.2 h47]; decide))) hW) hF
    · skip
      refine z_aload_n (pc := 50) dX11_widest_50 rfl ?_
      refine z_getR (pc := 51) (t := 35) dX11_widest_51 fk_X11_22 rfl (by decide) (by decide) (by decide) rfl ?_
      refine z_iload_n (pc := 54) dX11_widest_54 rfl ?_
      refine z_zaldN (pc := 55) q dX11_widest_55 rfl (by decide) hq (by show _ < 40; omega) ?_
      refine zq_if_ne (pc := 56) (tgt := 117) dX11_widest_56 rfl rfl (fun h56 => ?_) (fun h56 => ?_)
      · skip
        refine z_iincT (pc := 117) dX11_widest_117 rfl rfl (by decide) (by decide) (by omega) (by omega) rfl rfl (fun v => by dsimp only [setI, setL, List.set]) (fun v117 e117 => ?_)
        refine z_goto (pc := 120) (tgt := 36) dX11_widest_120 rfl ?_
        exact ih (q + 1) v117 _ _ τ (by omega) (by omega) (by omega) (WM_congr (tMs_skip (fun _ w => absurd (prs_mem.mp w).2 (by rw [maway_of (hQt.2.1.2 q (by omega)).2.2.2.2 h56]; decide))) hW) hF
      · skip
        refine z_aload_n (pc := 59) dX11_widest_59 rfl ?_
        refine z_iload_n (pc := 60) dX11_widest_60 rfl ?_
        refine z_iload_n (pc := 61) dX11_widest_61 rfl ?_
        refine z_iv2 (pc := 62) dX11_widest_62 kv_X11_200 rfl (by decide) (by decide) rfl rfl ?_
        refine c_mapart hQt hp (by omega) hx hq (fun qa => ?_) (fun qa => ?_)
        · skip
          refine z_if_eq (pc := 65) (tgt := 117) dX11_widest_65 rfl (fun hc => absurd hc (by decide)) (fun _ => ?_)
          have hqi := hQt.2.1.2 q (by omega)
          have hok := hQ.2.2.1 p hp
          have hok2 := hQ.2.2.1 q (by omega)
          have hap := apt_iff.mp qa
          unfold ptOk at hok hok2
          have hpP : p ∈ prs n pt := prs_mem.mpr ⟨hp, mthere_of hpi.2.2.2.2 h47⟩
          have hqP : q ∈ prs n pt := prs_mem.mpr ⟨by omega, mthere_of hqi.2.2.2.2 h56⟩
          have ex : (τ.1 31 p).toInt = (pt p).1.toInt := by rw [hpi.1]
          have ey : (τ.1 32 p).toInt = (pt p).2.1.toInt := by rw [hpi.2.1]
          have fx : (τ.1 31 q).toInt = (pt q).1.toInt := by rw [hqi.1]
          have fy : (τ.1 32 q).toInt = (pt q).2.1.toInt := by rw [hqi.2.1]
          refine z_aload_n (pc := 68) dX11_widest_68 rfl ?_
          refine z_getR (pc := 69) (t := 31) dX11_widest_69 fk_X11_7 rfl (by decide) (by decide) (by decide) rfl ?_
          refine z_iload_n (pc := 72) dX11_widest_72 rfl ?_
          refine z_ialdN (pc := 73) p dX11_widest_73 rfl (by decide) hx (by show _ < 40; omega) ?_
          refine z_aload_n (pc := 74) dX11_widest_74 rfl ?_
          refine z_getR (pc := 75) (t := 31) dX11_widest_75 fk_X11_7 rfl (by decide) (by decide) (by decide) rfl ?_
          refine z_iload_n (pc := 78) dX11_widest_78 rfl ?_
          refine z_ialdN (pc := 79) q dX11_widest_79 rfl (by decide) hq (by show _ < 40; omega) ?_
          refine z_isubT (pc := 80) dX11_widest_80 rfl rfl (by omega) (by omega) (fun v80 e80 => ?_)
          refine z_i2lT (pc := 81) dX11_widest_81 rfl (fun v81 e81 => ?_)
          refine z_lstore (pc := 82) dX11_widest_82 rfl rfl (by dsimp only [setI, setL, List.set]) ?_
          refine z_aload_n (pc := 84) dX11_widest_84 rfl ?_
          refine z_getR (pc := 85) (t := 32) dX11_widest_85 fk_X11_13 rfl (by decide) (by decide) (by decide) rfl ?_
          refine z_iload_n (pc := 88) dX11_widest_88 rfl ?_
          refine z_ialdN (pc := 89) p dX11_widest_89 rfl (by decide) hx (by show _ < 40; omega) ?_
          refine z_aload_n (pc := 90) dX11_widest_90 rfl ?_
          refine z_getR (pc := 91) (t := 32) dX11_widest_91 fk_X11_13 rfl (by decide) (by decide) (by decide) rfl ?_
          refine z_iload_n (pc := 94) dX11_widest_94 rfl ?_
          refine z_ialdN (pc := 95) q dX11_widest_95 rfl (by decide) hq (by show _ < 40; omega) ?_
          refine z_isubT (pc := 96) dX11_widest_96 rfl rfl (by omega) (by omega) (fun v96 e96 => ?_)
          refine z_i2lT (pc := 97) dX11_widest_97 rfl (fun v97 e97 => ?_)
          refine z_lstore (pc := 98) dX11_widest_98 rfl rfl (by dsimp only [setI, setL, List.set]) ?_
          refine z_aload_n (pc := 100) dX11_widest_100 rfl ?_
          refine z_lload (pc := 101) dX11_widest_101 rfl ?_
          refine z_lload (pc := 103) dX11_widest_103 rfl ?_
          refine z_iv2 (pc := 105) dX11_widest_105 kv_X11_273 rfl (by decide) (by decide) rfl rfl ?_
          have dx : v81.toInt = (pt p).1.toInt - (pt q).1.toInt := by rw [e81, e80, ex, fx]
          have dy : v97.toInt = (pt p).2.1.toInt - (pt q).2.1.toInt := by rw [e97, e96, ey, fy]
          refine c_X11_offerGap (T := tMs n pt p q) hQt dx dy (by omega) (by omega) (by omega) (fun u a b ht => gap_u ht.2) hW (fun υ hWu uF => ?_)
          refine z_aload_n (pc := 108) dX11_widest_108 rfl ?_
          refine z_lload (pc := 109) dX11_widest_109 rfl ?_
          refine z_lload (pc := 111) dX11_widest_111 rfl ?_
          refine z_lnegT (pc := 113) dX11_widest_113 rfl (by rw [dx]; omega) (by rw [dx]; omega) (fun v113 e113 => ?_)
          refine z_iv2 (pc := 114) dX11_widest_114 kv_X11_273 rfl (by decide) (by decide) rfl rfl ?_
          refine c_X11_offerGap (rmQ_Fr hQt uF) dy (show v113.toInt = -((pt p).1.toInt - (pt q).1.toInt) by rw [e113, dx]) (by omega) (by omega) (by omega) (fun u a b ht => ht.elim (fun w => gap_u w.2) (fun w => by rw [w.1]; exact gap_u w.2)) hWu (fun ω hWw wF => ?_)
          refine z_iincT (pc := 117) dX11_widest_117 rfl rfl (by decide) (by decide) (by omega) (by omega) rfl rfl (fun v => by dsimp only [setI, setL, List.set]) (fun v117 e117 => ?_)
          refine z_goto (pc := 120) (tgt := 36) dX11_widest_120 rfl ?_
          exact ih (q + 1) v117 _ _ ω (by omega) (by omega) (by omega) (WM_congr (tMs_add hpP hqP (by omega) qa) hWw) (FrQ_tr hF (FrQ_tr uF wF))
        · skip
          refine z_if_eq (pc := 65) (tgt := 117) dX11_widest_65 rfl (fun _ => ?_) (fun hc => absurd hc (by decide))
          refine z_iincT (pc := 117) dX11_widest_117 rfl rfl (by decide) (by decide) (by omega) (by omega) rfl rfl (fun v => by dsimp only [setI, setL, List.set]) (fun v117 e117 => ?_)
          refine z_goto (pc := 120) (tgt := 36) dX11_widest_120 rfl ?_
          exact ih (q + 1) v117 _ _ τ (by omega) (by omega) (by omega) (WM_congr (tMs_skip (fun _ _ => qa)) hW) hF

theorem c_mw_p {l : Launch} {G : Gx} {d : Nat} {σ : Sg} {Q : Option Value → Sg → Prop} {n : Nat} {pt : Nat → Pt} {x1 : Int32} (hQ : rmQ σ n pt) (h : ∀ (r : Int64) (τ : Sg), (if LPR (prs n pt) pt = [] then r.toInt = -1000002 else ∃ up low, WBest (dirs n pt) (prs n pt) pt up low ∧ r.toInt = (if x1.toInt = 0 then up.tdiv (gg up low : Int) else low.tdiv (gg up low : Int))) → FrQ σ τ → Q (some (.long r)) τ) : ∀ (f p : Nat) (x2 : Int32) (y3 : Option Value) (τ : Sg), x2.toInt = (p : Int) → p ≤ n → n - p < f → WM τ pt (tMs n pt p 0) → FrQ σ τ → Z l G M_X11_widest (d + 1) 26 [some (.ref 1), some (.int x1), some (.int x2), y3, none, none, none, none] [] τ Q := by
  intro f
  induction f with
  | zero => intro p x2 y3 τ hx hpn hfu hW hF; omega
  | succ f ih =>
  intro p x2 y3 τ hx hpn hfu hW hF
  refine z_sub (L' := [some _, some _, some _, none, none, none, none, none]) ⟨rfl, rfl, rfl, trivial⟩ ?_
  have hQt := rmQ_Fr hQ hF
  have hg := hQt.2.1.1
  have hn := hQ.1
  refine z_iload_n (pc := 26) dX11_widest_26 rfl ?_
  refine z_aload_n (pc := 27) dX11_widest_27 rfl ?_
  refine z_getI (pc := 28) dX11_widest_28 fk_X11_101 rfl (by decide) (by decide) (by decide) ?_
  refine zq_icmp_ge (pc := 31) (tgt := 129) dX11_widest_31 rfl rfl rfl (fun h31 => ?_) (fun h31 => ?_)
  · skip
    have e : p = n := by omega
    subst e
    have hWB : WBest (dirs p pt) (prs p pt) pt (τ.2 1 38).toInt (τ.2 1 39).toInt := dMs_dirs (WBt_best.mp hW.1)
    have w1 := hWB.1
    have w2 := hWB.2.1
    have w3 := hW.2.1
    have w4 := hW.2.2
    have p62 : 518400000000 < 2 ^ 62 := by decide
    have hgp := gg_pos (A := (τ.2 1 38).toInt) (B := (τ.2 1 39).toInt) (Or.inr (by omega))
    refine z_aload_n (pc := 129) dX11_widest_129 rfl ?_
    refine z_getJ (pc := 130) dX11_widest_130 fk_X11_270 rfl (by decide) (by decide) (by decide) ?_
    refine z_lconst (pc := 133) (v := 0) dX11_widest_133 (by decide) ?_
    refine zq_lc_ne (pc := 134) (cy := 0) (tgt := 142) dX11_widest_134 dX11_widest_135 rfl rfl (by decide) (fun h134 => ?_) (fun h134 => ?_)
    · skip
      refine z_aload_n (pc := 142) dX11_widest_142 rfl ?_
      refine z_getJ (pc := 143) dX11_widest_143 fk_X11_270 rfl (by decide) (by decide) (by decide) ?_
      refine z_aload_n (pc := 146) dX11_widest_146 rfl ?_
      refine z_getJ (pc := 147) dX11_widest_147 fk_X11_267 rfl (by decide) (by decide) (by decide) ?_
      refine z_is2 (pc := 150) dX11_widest_150 ks_X11_181 rfl rfl ?_
      refine c_dv (by omega) (by omega) (fun rg erg => ?_)
      refine z_lstore_n (pc := 153) dX11_widest_153 rfl rfl (by dsimp only [setI, setL, List.set]) ?_
      refine z_iload_n (pc := 154) dX11_widest_154 rfl ?_
      refine zq_if_ne (pc := 155) (tgt := 167) dX11_widest_155 rfl rfl (fun h155 => ?_) (fun h155 => ?_)
      · skip
        refine z_aload_n (pc := 167) dX11_widest_167 rfl ?_
        refine z_getJ (pc := 168) dX11_widest_168 fk_X11_267 rfl (by decide) (by decide) (by decide) ?_
        refine z_lload_n (pc := 171) dX11_widest_171 rfl ?_
        refine z_ldivT (pc := 172) dX11_widest_172 rfl rfl (by rw [erg]; omega) (fun v172 e172 => ?_)
        refine z_lret (pc := 173) dX11_widest_173 rfl ?_
        refine h _ τ ?_ hF
        rw [if_neg (fun z => by have := WBest_none hWB z; omega)]
        exact ⟨_, _, hWB, by rw [if_neg (by omega), e172, erg]⟩
      · skip
        refine z_aload_n (pc := 158) dX11_widest_158 rfl ?_
        refine z_getJ (pc := 159) dX11_widest_159 fk_X11_270 rfl (by decide) (by decide) (by decide) ?_
        refine z_lload_n (pc := 162) dX11_widest_162 rfl ?_
        refine z_ldivT (pc := 163) dX11_widest_163 rfl rfl (by rw [erg]; omega) (fun v163 e163 => ?_)
        refine z_goto (pc := 164) (tgt := 173) dX11_widest_164 rfl ?_
        refine z_lret (pc := 173) dX11_widest_173 rfl ?_
        refine h _ τ ?_ hF
        rw [if_neg (fun z => by have := WBest_none hWB z; omega)]
        exact ⟨_, _, hWB, by rw [if_pos (by omega), e163, erg]⟩
    · skip
      refine z_ldc2 (pc := 138) dX11_widest_138 kc_X11_256 ?_
      refine z_lret (pc := 141) dX11_widest_141 rfl ?_
      refine h _ τ ?_ hF
      by_cases hl : LPR (prs p pt) pt = []
      · rw [if_pos hl]; rfl
      · exact absurd (show (τ.2 1 38).toInt = 0 by omega) (WBest_wide hWB hl)
  · skip
    refine z_iconst (pc := 34) (v := 0) dX11_widest_34 (by decide) ?_
    refine z_istore_n (pc := 35) dX11_widest_35 rfl rfl (by dsimp only [setI, setL, List.set]) ?_
    refine c_mw_q hQt (by omega) hx ?_ (p + 1) 0 0 _ _ τ (by decide) (by omega) (by omega) hW FrQ_rf
    intro z3 υ hWu uF
    refine z_iincT (pc := 123) dX11_widest_123 rfl rfl (by decide) (by decide) (by omega) (by omega) rfl rfl (fun v => by dsimp only [setI, setL, List.set]) (fun v123 e123 => ?_)
    refine z_goto (pc := 126) (tgt := 26) dX11_widest_126 rfl ?_
    exact ih (p + 1) v123 _ υ (by omega) (by omega) (by omega) hWu (FrQ_tr hF uF)

theorem c_X11_widest {l : Launch} {G : Gx} {d : Nat} {σ : Sg} {Q : Option Value → Sg → Prop} {a : Ab} {x1 : Int32} (hr : rM σ a) (hk : abOk a) (h : ∀ (r : Int64) (τ : Sg), sWidest a x1 r.toInt → rM τ a → eqC σ τ → Q (some (.long r)) τ) : Z l G M_X11_widest (d + 1) 0 [some (.ref 1), some (.int x1)] [] σ Q := by
  refine z_sub (L' := [some (.ref 1), some (.int x1), none, none, none, none, none, none]) ⟨rfl, rfl, trivial⟩ ?_
  refine z_iload_n (pc := 0) dX11_widest_0 rfl ?_
  refine z_i2lT (pc := 1) dX11_widest_1 rfl (fun v1 e1 => ?_)
  refine z_lconst (pc := 2) (v := 0) dX11_widest_2 (by decide) ?_
  refine z_lconst (pc := 3) (v := 1) dX11_widest_3 (by decide) ?_
  refine z_is3 (pc := 4) dX11_widest_4 ks_X11_81 rfl rfl ?_
  refine c_X11_in (cl := 0) (cm := 1) (by first | assumption | rfl) (by decide) (by decide) (fun q4 => ?_) (fun q4 => ?_)
  · skip
    refine z_if_ne (pc := 7) (tgt := 14) dX11_widest_7 rfl (fun _ => ?_) (fun hc => absurd hc (by decide))
    refine z_aload_n (pc := 14) dX11_widest_14 rfl ?_
    refine z_lconst (pc := 15) (v := 0) dX11_widest_15 (by decide) ?_
    refine z_putJ (pc := 16) dX11_widest_16 fk_X11_270 rfl (by decide) (by decide) (by decide) ?_
    refine z_aload_n (pc := 19) dX11_widest_19 rfl ?_
    refine z_lconst (pc := 20) (v := 1) dX11_widest_20 (by decide) ?_
    refine z_putJ (pc := 21) dX11_widest_21 fk_X11_267 rfl (by decide) (by decide) (by decide) ?_
    refine z_iconst (pc := 24) (v := 0) dX11_widest_24 (by decide) ?_
    refine z_istore_n (pc := 25) dX11_widest_25 rfl rfl (by dsimp only [setI, setL, List.set]) ?_
    have hF0 : FrQ σ (uJ (uJ σ 1 38 0) 1 39 1) := FrQ_uJ1 (FrQ_uJ1 FrQ_rf (by omega)) (by omega)
    refine c_mw_p (n := a.1.1) (pt := a.1.2) (rmQ_Fr (rmQ_of hr hk) hF0) (fun r τ hex hF => ?_) (a.1.1 + 1) 0 0 _ _ (by decide) (by omega) (by omega) ?_ FrQ_rf
    · exact h r τ (by unfold sWidest; rw [if_neg (by omega)]; exact hex) (rM_FrQ hr (FrQ_tr hF0 hF)) (FrQ_C (FrQ_tr hF0 hF))
    · have h0 : ((uJ (uJ σ 1 38 0) 1 39 1).2 1 38).toInt = 0 := by rw [uJ_nk (by omega), uJ_eq]; rfl
      have h1 : ((uJ (uJ σ 1 38 0) 1 39 1).2 1 39).toInt = 1 := by rw [uJ_eq]; rfl
      unfold WM
      rw [h0, h1]
      exact ⟨⟨by omega, by omega, fun u p r ht => by obtain ⟨⟨p', q', _, _, h3, h4, _⟩, _⟩ := ht; omega, Or.inl rfl⟩, by omega, by omega⟩
  · skip
    refine z_if_ne (pc := 7) (tgt := 14) dX11_widest_7 rfl (fun hc => absurd hc (by decide)) (fun _ => ?_)
    refine z_ldc2 (pc := 10) dX11_widest_10 kc_X11_99 ?_
    refine z_lret (pc := 13) dX11_widest_13 rfl ?_
    exact h _ _ (by unfold sWidest; rw [if_pos (by omega)]; rfl) hr eqC_rf
