/-! the deepest point in the model -/
def dM (σ : Sg) : Int × Int × Int := ((σ.2 1 30).toInt, (σ.2 1 31).toInt, (σ.2 1 32).toInt)
def BDM (σ : Sg) (n : Nat) (pt : Nat → Pt) (C : Int × Int × Int → Prop) : Prop := BD0 C (depA n pt) (σ.1 1 29).toInt (dM σ)
theorem BDM_congr {σ : Sg} {n : Nat} {pt : Nat → Pt} {C D : Int × Int × Int → Prop} (h : ∀ c, C c ↔ D c) (k : BDM σ n pt C) : BDM σ n pt D := BD_congr h k
theorem BDM_cong {σ τ : Sg} {n : Nat} {pt : Nat → Pt} {C : Int × Int × Int → Prop} (h1 : τ.1 1 29 = σ.1 1 29) (h2 : τ.2 1 30 = σ.2 1 30) (h3 : τ.2 1 31 = σ.2 1 31) (h4 : τ.2 1 32 = σ.2 1 32) (k : BDM σ n pt C) : BDM τ n pt C := by
  unfold BDM dM
  rw [h1, h2, h3, h4]
  exact k
/-- the lines found so far -/
def lnsM (σ : Sg) (pt : Nat → Pt) (L : List (Nat × Nat)) : Prop := ∀ (k : Nat) (z : Nat × Nat), L[k]? = some z → (σ.2 44 k).toInt = (lnO pt z).1 ∧ (σ.2 45 k).toInt = (lnO pt z).2.1 ∧ (σ.2 46 k).toInt = (lnO pt z).2.2
theorem lnsM_cong {σ τ : Sg} {pt : Nat → Pt} {L : List (Nat × Nat)} (h4 : τ.2 44 = σ.2 44) (h5 : τ.2 45 = σ.2 45) (h6 : τ.2 46 = σ.2 46) (h : lnsM σ pt L) : lnsM τ pt L := fun k z hz => by rw [h4, h5, h6]; exact h k z hz
def AP (n : Nat) (pt : Nat → Pt) : List (Nat × Nat) := (prl (prs n pt)).filter (fun z => apt (pt z.1) (pt z.2))
theorem AP_all (n : Nat) (pt : Nat → Pt) : allA (List.range n) (okMA pt) n n = AP n pt := mrange_all n pt (fun z => apt (pt z.1) (pt z.2))
theorem AP_mem {n : Nat} {pt : Nat → Pt} {z : Nat × Nat} (h : z ∈ AP n pt) : z.1 ∈ prs n pt ∧ z.2 ∈ prs n pt ∧ apt (pt z.1) (pt z.2) = true := by
  obtain ⟨h1, h2⟩ := List.mem_filter.mp h
  exact ⟨(prl_mem h1).1, (prl_mem h1).2, h2⟩
theorem prl_len : ∀ l : List Nat, 2 * (prl l).length = l.length * (l.length - 1)
  | [] => rfl
  | x :: xs => by
    have ih := prl_len xs
    unfold prl
    rw [List.length_append, List.length_map, List.length_cons]
    cases hx : xs.length with
    | zero => rw [hx] at ih; simp at ih ⊢; exact ih
    | succ m =>
      rw [hx] at ih
      simp only [Nat.add_sub_cancel] at ih ⊢
      grind
theorem AP_len {n : Nat} {pt : Nat → Pt} (h : (prs n pt).length ≤ 12) : (AP n pt).length ≤ 66 := by
  have h1 := prl_len (prs n pt)
  have h2 : (AP n pt).length ≤ (prl (prs n pt)).length := List.length_filter_le _ _
  have h3 : (prs n pt).length * ((prs n pt).length - 1) ≤ 12 * 11 := Nat.mul_le_mul h (by omega)
  omega
/-- the points offered: plants ahead of p, then crossings -/
def D1 (n : Nat) (pt : Nat → Pt) (p : Nat) (c : Int × Int × Int) : Prop := ∃ i, i ∈ prs n pt ∧ i < p ∧ c = ((pt i).1.toInt, (pt i).2.1.toInt, 1)
def D2 (n : Nat) (pt : Nat → Pt) (i j : Nat) (c : Int × Int × Int) : Prop := D1 n pt n c ∨ ∃ i' j' y z, (i' < i ∨ (i' = i ∧ j' < j)) ∧ j' < i' ∧ (AP n pt)[i']? = some y ∧ (AP n pt)[j']? = some z ∧ (crL (lnO pt y) (lnO pt z)).2.2 ≠ 0 ∧ c = nrC (crL (lnO pt y) (lnO pt z))
theorem D1_succ {n p : Nat} {pt : Nat → Pt} (h : p ∈ prs n pt) (c : Int × Int × Int) : (D1 n pt p c ∨ c = ((pt p).1.toInt, (pt p).2.1.toInt, 1)) ↔ D1 n pt (p + 1) c := by
  constructor
  · rintro (⟨i, h1, h2, h3⟩ | h3)
    · exact ⟨i, h1, by omega, h3⟩
    · exact ⟨p, h, by omega, h3⟩
  · rintro ⟨i, h1, h2, h3⟩
    rcases Nat.lt_or_ge i p with g | g
    · exact Or.inl ⟨i, h1, g, h3⟩
    · have e : i = p := by omega
      subst e
      exact Or.inr h3
theorem D1_skip {n p : Nat} {pt : Nat → Pt} (h : ¬ p ∈ prs n pt) (c : Int × Int × Int) : D1 n pt p c ↔ D1 n pt (p + 1) c := by
  constructor
  · rintro ⟨i, h1, h2, h3⟩
    exact ⟨i, h1, by omega, h3⟩
  · rintro ⟨i, h1, h2, h3⟩
    refine ⟨i, h1, ?_, h3⟩
    rcases Nat.lt_or_ge i p with g | g
    · exact g
    · rw [show i = p by omega] at h1
      exact absurd h1 h
theorem D2_succ {n i j : Nat} {pt : Nat → Pt} {y z : Nat × Nat} (hij : j < i) (hy : (AP n pt)[i]? = some y) (hz : (AP n pt)[j]? = some z) (c : Int × Int × Int) : (D2 n pt i j c ∨ ((crL (lnO pt y) (lnO pt z)).2.2 ≠ 0 ∧ c = nrC (crL (lnO pt y) (lnO pt z)))) ↔ D2 n pt i (j + 1) c := by
  constructor
  · rintro ((h | ⟨i', j', y', z', h1, h2, h3, h4, h5, h6⟩) | ⟨h5, h6⟩)
    · exact Or.inl h
    · exact Or.inr ⟨i', j', y', z', by omega, h2, h3, h4, h5, h6⟩
    · exact Or.inr ⟨i, j, y, z, Or.inr ⟨rfl, by omega⟩, hij, hy, hz, h5, h6⟩
  · rintro (h | ⟨i', j', y', z', h1, h2, h3, h4, h5, h6⟩)
    · exact Or.inl (Or.inl h)
    · rcases (show i' < i ∨ (i' = i ∧ j' < j) ∨ (i' = i ∧ j' = j) by omega) with g | g | ⟨g1, g2⟩
      · exact Or.inl (Or.inr ⟨i', j', y', z', Or.inl g, h2, h3, h4, h5, h6⟩)
      · exact Or.inl (Or.inr ⟨i', j', y', z', Or.inr g, h2, h3, h4, h5, h6⟩)
      · subst g1 g2
        rw [hy] at h3
        rw [hz] at h4
        cases h3
        cases h4
        exact Or.inr ⟨h5, h6⟩
theorem D2_row {n i : Nat} {pt : Nat → Pt} (c : Int × Int × Int) : D2 n pt i i c ↔ D2 n pt (i + 1) 0 c := by
  constructor
  · rintro (h | ⟨i', j', y', z', h1, h2, h3, h4, h5, h6⟩)
    · exact Or.inl h
    · exact Or.inr ⟨i', j', y', z', by omega, h2, h3, h4, h5, h6⟩
  · rintro (h | ⟨i', j', y', z', h1, h2, h3, h4, h5, h6⟩)
    · exact Or.inl h
    · exact Or.inr ⟨i', j', y', z', by omega, h2, h3, h4, h5, h6⟩
theorem D2_cand {n i j : Nat} {pt : Nat → Pt} (hi : (AP n pt).length ≤ i) (c : Int × Int × Int) : D2 n pt i j c ↔ cand n pt c := by
  constructor
  · rintro (⟨i', h1, h2, h3⟩ | ⟨i', j', y', z', h1, h2, h3, h4, h5, h6⟩)
    · exact Or.inl ⟨i', h1, h3⟩
    · have hy := AP_mem (List.mem_of_getElem? h3)
      have hz := AP_mem (List.mem_of_getElem? h4)
      exact Or.inr ⟨_, _, isL_any hy.1 hy.2.1 hy.2.2, isL_any hz.1 hz.2.1 hz.2.2, h5, h6⟩
  · rintro (⟨i', h1, h2⟩ | ⟨s, t, ⟨y', hy, es⟩, ⟨z', hz, et⟩, h5, h6⟩)
    · exact Or.inl ⟨i', h1, (prs_mem.mp h1).1, h2⟩
    · have hy' : y' ∈ AP n pt := by
        obtain ⟨k1, k2⟩ := List.mem_filter.mp hy
        exact List.mem_filter.mpr ⟨k1, (LPR_mem hy).2.2⟩
      have hz' : z' ∈ AP n pt := by
        obtain ⟨k1, k2⟩ := List.mem_filter.mp hz
        exact List.mem_filter.mpr ⟨k1, (LPR_mem hz).2.2⟩
      obtain ⟨p, hp⟩ := List.getElem?_of_mem hy'
      obtain ⟨q, hq⟩ := List.getElem?_of_mem hz'
      have lp := (List.getElem?_eq_some_iff.mp hp).1
      have lq := (List.getElem?_eq_some_iff.mp hq).1
      subst es et
      rcases Nat.lt_trichotomy q p with g | g | g
      · exact Or.inr ⟨p, q, y', z', by omega, g, hp, hq, h5, h6⟩
      · subst g
        rw [hp] at hq
        cases hq
        exact absurd (crL_self _) h5
      · refine Or.inr ⟨q, p, z', y', by omega, g, hq, hp, ?_, by rw [h6]; exact nrC_swap h5⟩
        intro h0
        apply h5
        unfold crL at h0 ⊢
        dsimp only at h0 ⊢
        omega
/-- what offer leaves alone -/
def FrO (σ τ : Sg) : Prop := FrQ σ τ ∧ τ.2 44 = σ.2 44 ∧ τ.2 45 = σ.2 45 ∧ τ.2 46 = σ.2 46
theorem FrO_rf {σ : Sg} : FrO σ σ := ⟨FrQ_rf, rfl, rfl, rfl⟩
theorem FrO_tr {σ τ υ : Sg} (h : FrO σ τ) (g : FrO τ υ) : FrO σ υ := ⟨FrQ_tr h.1 g.1, g.2.1.trans h.2.1, g.2.2.1.trans h.2.2.1, g.2.2.2.trans h.2.2.2⟩

theorem c_X11_offer {l : Launch} {G : Gx} {d : Nat} {σ : Sg} {Q : Option Value → Sg → Prop} {n : Nat} {pt : Nat → Pt} {C : Int × Int × Int → Prop} {px py pd : Int64} (hQ : rmQ σ n pt) (hB : BDM σ n pt C) (hc : bnd (px.toInt, py.toInt, pd.toInt)) (hne : (∃ x, C x) ∨ 1 ≤ depA n pt (px.toInt, py.toInt, pd.toInt)) (h : ∀ τ, BDM τ n pt (fun x => C x ∨ x = (px.toInt, py.toInt, pd.toInt)) → FrO σ τ → Q none τ)  : Z l G M_X11_offer (d + 5) 0 [some (.ref 1), some (.long px), none, some (.long py), none, some (.long pd), none] [] σ Q := by
  have hrg := depA_rng n pt hQ.1 (px.toInt, py.toInt, pd.toInt)
  have hb := hB.1
  unfold bnd dM at hb
  dsimp only at hb
  have hcb := hc
  unfold bnd at hcb
  dsimp only at hcb
  have m1 := mulb (a := px.toInt) (b := (σ.2 1 32).toInt) (p := 500000000) (q := 1000000) (by omega) (by omega) (by omega) (by omega)
  have m2 := mulb (a := (σ.2 1 30).toInt) (b := pd.toInt) (p := 500000000) (q := 1000000) (by omega) (by omega) (by omega) (by omega)
  have m3 := mulb (a := py.toInt) (b := (σ.2 1 32).toInt) (p := 500000000) (q := 1000000) (by omega) (by omega) (by omega) (by omega)
  have m4 := mulb (a := (σ.2 1 31).toInt) (b := pd.toInt) (p := 500000000) (q := 1000000) (by omega) (by omega) (by omega) (by omega)
  refine z_sub (L' := [some (.ref 1), some (.long px), none, some (.long py), none, some (.long pd), none, none, none, none, none, none]) ⟨rfl, rfl, rfl, rfl, trivial⟩ ?_
  refine z_aload_n (pc := 0) dX11_offer_0 rfl ?_
  refine z_lload_n (pc := 1) dX11_offer_1 rfl ?_
  refine z_lload_n (pc := 2) dX11_offer_2 rfl ?_
  refine z_lload (pc := 3) dX11_offer_3 rfl ?_
  refine z_iv3 (pc := 5) dX11_offer_5 kv_X11_240 rfl (by decide) (by decide) rfl rfl ?_
  refine c_X11_depthOf (x := px.toInt) (y := py.toInt) (dd := pd.toInt) hQ rfl rfl rfl (by omega) (by omega) (by omega) (fun rd υ erd uE => ?_)
  change rd.toInt = depA n pt (px.toInt, py.toInt, pd.toInt) at erd
  have e1 := (uE 1 (by omega)).1
  have e2 := (uE 1 (by omega)).2
  have hBu : BDM υ n pt C := BDM_cong (by rw [e1]) (by rw [e2]) (by rw [e2]) (by rw [e2]) hB
  have f29 : υ.1 1 29 = σ.1 1 29 := by rw [e1]
  have f30 : υ.2 1 30 = σ.2 1 30 := by rw [e2]
  have f31 : υ.2 1 31 = σ.2 1 31 := by rw [e2]
  have f32 : υ.2 1 32 = σ.2 1 32 := by rw [e2]
  rw [← f32] at m1 m3
  rw [← f30] at m2
  rw [← f31] at m4
  have hO : FrO σ υ := ⟨FrQ_X uE (by omega) (by omega), (uE 44 (by omega)).2, (uE 45 (by omega)).2, (uE 46 (by omega)).2⟩
  refine z_istore (pc := 8) dX11_offer_8 rfl rfl (by dsimp only [setI, setL, List.set]) ?_
  refine z_lload_n (pc := 10) dX11_offer_10 rfl ?_
  refine z_aload_n (pc := 11) dX11_offer_11 rfl ?_
  refine z_getJ (pc := 12) dX11_offer_12 fk_X11_244 rfl (by decide) (by decide) (by decide) ?_
  refine z_lmulT (pc := 15) dX11_offer_15 rfl rfl (by omega) (by omega) (fun v15 e15 => ?_)
  refine z_aload_n (pc := 16) dX11_offer_16 rfl ?_
  refine z_getJ (pc := 17) dX11_offer_17 fk_X11_247 rfl (by decide) (by decide) (by decide) ?_
  refine z_lload (pc := 20) dX11_offer_20 rfl ?_
  refine z_lmulT (pc := 22) dX11_offer_22 rfl rfl (by omega) (by omega) (fun v22 e22 => ?_)
  refine z_lsubT (pc := 23) dX11_offer_23 rfl rfl (by omega) (by omega) (fun v23 e23 => ?_)
  refine z_lstore (pc := 24) dX11_offer_24 rfl rfl (by dsimp only [setI, setL, List.set]) ?_
  refine z_lload_n (pc := 26) dX11_offer_26 rfl ?_
  refine z_aload_n (pc := 27) dX11_offer_27 rfl ?_
  refine z_getJ (pc := 28) dX11_offer_28 fk_X11_244 rfl (by decide) (by decide) (by decide) ?_
  refine z_lmulT (pc := 31) dX11_offer_31 rfl rfl (by omega) (by omega) (fun v31 e31 => ?_)
  refine z_aload_n (pc := 32) dX11_offer_32 rfl ?_
  refine z_getJ (pc := 33) dX11_offer_33 fk_X11_250 rfl (by decide) (by decide) (by decide) ?_
  refine z_lload (pc := 36) dX11_offer_36 rfl ?_
  refine z_lmulT (pc := 38) dX11_offer_38 rfl rfl (by omega) (by omega) (fun v38 e38 => ?_)
  refine z_lsubT (pc := 39) dX11_offer_39 rfl rfl (by omega) (by omega) (fun v39 e39 => ?_)
  refine z_lstore (pc := 40) dX11_offer_40 rfl rfl (by dsimp only [setI, setL, List.set]) ?_
  refine z_iload (pc := 42) dX11_offer_42 rfl ?_
  refine z_aload_n (pc := 44) dX11_offer_44 rfl ?_
  refine z_getI (pc := 45) dX11_offer_45 fk_X11_253 rfl (by decide) (by decide) (by decide) ?_
  refine zq_icmp_gt (pc := 48) (tgt := 81) dX11_offer_48 rfl rfl rfl (fun h48 => ?_) (fun h48 => ?_)
  · skip
    refine z_aload_n (pc := 81) dX11_offer_81 rfl ?_
    refine z_iload (pc := 82) dX11_offer_82 rfl ?_
    refine z_putI (pc := 84) dX11_offer_84 fk_X11_253 rfl (by decide) (by decide) (by decide) ?_
    refine z_aload_n (pc := 87) dX11_offer_87 rfl ?_
    refine z_lload_n (pc := 88) dX11_offer_88 rfl ?_
    refine z_putJ (pc := 89) dX11_offer_89 fk_X11_247 rfl (by decide) (by decide) (by decide) ?_
    refine z_aload_n (pc := 92) dX11_offer_92 rfl ?_
    refine z_lload_n (pc := 93) dX11_offer_93 rfl ?_
    refine z_putJ (pc := 94) dX11_offer_94 fk_X11_250 rfl (by decide) (by decide) (by decide) ?_
    refine z_aload_n (pc := 97) dX11_offer_97 rfl ?_
    refine z_lload (pc := 98) dX11_offer_98 rfl ?_
    refine z_putJ (pc := 100) dX11_offer_100 fk_X11_244 rfl (by decide) (by decide) (by decide) ?_
    refine z_vret (pc := 103) dX11_offer_103 rfl ?_
    have hnw := BD_new hBu hc hrg.1 (by omega) (show (υ.1 1 29).toInt < depA n pt (px.toInt, py.toInt, pd.toInt) ∨ ((υ.1 1 29).toInt = depA n pt (px.toInt, py.toInt, pd.toInt) ∧ lexl (px.toInt, py.toInt, pd.toInt) (dM υ)) from Or.inl (by omega))
    refine h _ ?_ ⟨FrQ_uJ1 (FrQ_uJ1 (FrQ_uJ1 (FrQ_uI1 hO.1) (by omega)) (by omega)) (by omega), hO.2.1, hO.2.2.1, hO.2.2.2⟩
    rw [← erd] at hnw
    exact hnw
  · skip
    refine z_iload (pc := 51) dX11_offer_51 rfl ?_
    refine z_aload_n (pc := 53) dX11_offer_53 rfl ?_
    refine z_getI (pc := 54) dX11_offer_54 fk_X11_253 rfl (by decide) (by decide) (by decide) ?_
    refine zq_icmp_ne (pc := 57) (tgt := 103) dX11_offer_57 rfl rfl rfl (fun h57 => ?_) (fun h57 => ?_)
    · skip
      refine z_vret (pc := 103) dX11_offer_103 rfl ?_
      exact h υ (BD_old hBu hc (show depA n pt (px.toInt, py.toInt, pd.toInt) < (υ.1 1 29).toInt ∨ (depA n pt (px.toInt, py.toInt, pd.toInt) = (υ.1 1 29).toInt ∧ lexl (dM υ) (px.toInt, py.toInt, pd.toInt)) from Or.inl (by omega)) hne) hO
    · skip
      refine z_lload (pc := 60) dX11_offer_60 rfl ?_
      refine z_lconst (pc := 62) (v := 0) dX11_offer_62 (by decide) ?_
      refine zq_lc_lt (pc := 63) (cy := 0) (tgt := 81) dX11_offer_63 dX11_offer_64 rfl rfl (by decide) (fun h63 => ?_) (fun h63 => ?_)
      · skip
        refine z_aload_n (pc := 81) dX11_offer_81 rfl ?_
        refine z_iload (pc := 82) dX11_offer_82 rfl ?_
        refine z_putI (pc := 84) dX11_offer_84 fk_X11_253 rfl (by decide) (by decide) (by decide) ?_
        refine z_aload_n (pc := 87) dX11_offer_87 rfl ?_
        refine z_lload_n (pc := 88) dX11_offer_88 rfl ?_
        refine z_putJ (pc := 89) dX11_offer_89 fk_X11_247 rfl (by decide) (by decide) (by decide) ?_
        refine z_aload_n (pc := 92) dX11_offer_92 rfl ?_
        refine z_lload_n (pc := 93) dX11_offer_93 rfl ?_
        refine z_putJ (pc := 94) dX11_offer_94 fk_X11_250 rfl (by decide) (by decide) (by decide) ?_
        refine z_aload_n (pc := 97) dX11_offer_97 rfl ?_
        refine z_lload (pc := 98) dX11_offer_98 rfl ?_
        refine z_putJ (pc := 100) dX11_offer_100 fk_X11_244 rfl (by decide) (by decide) (by decide) ?_
        refine z_vret (pc := 103) dX11_offer_103 rfl ?_
        have hnw := BD_new hBu hc hrg.1 (by omega) (show (υ.1 1 29).toInt < depA n pt (px.toInt, py.toInt, pd.toInt) ∨ ((υ.1 1 29).toInt = depA n pt (px.toInt, py.toInt, pd.toInt) ∧ lexl (px.toInt, py.toInt, pd.toInt) (dM υ)) from Or.inr ⟨by omega, lexs_l (by unfold lexs dM; dsimp only; omega)⟩)
        refine h _ ?_ ⟨FrQ_uJ1 (FrQ_uJ1 (FrQ_uJ1 (FrQ_uI1 hO.1) (by omega)) (by omega)) (by omega), hO.2.1, hO.2.2.1, hO.2.2.2⟩
        rw [← erd] at hnw
        exact hnw
      · skip
        refine z_lload (pc := 67) dX11_offer_67 rfl ?_
        refine z_lconst (pc := 69) (v := 0) dX11_offer_69 (by decide) ?_
        refine zq_lc_ne (pc := 70) (cy := 0) (tgt := 103) dX11_offer_70 dX11_offer_71 rfl rfl (by decide) (fun h70 => ?_) (fun h70 => ?_)
        · skip
          refine z_vret (pc := 103) dX11_offer_103 rfl ?_
          exact h υ (BD_old hBu hc (show depA n pt (px.toInt, py.toInt, pd.toInt) < (υ.1 1 29).toInt ∨ (depA n pt (px.toInt, py.toInt, pd.toInt) = (υ.1 1 29).toInt ∧ lexl (dM υ) (px.toInt, py.toInt, pd.toInt)) from Or.inr ⟨by omega, lexs_n (by unfold lexs dM; dsimp only; omega)⟩) hne) hO
        · skip
          refine z_lload (pc := 74) dX11_offer_74 rfl ?_
          refine z_lconst (pc := 76) (v := 0) dX11_offer_76 (by decide) ?_
          refine zq_lc_ge (pc := 77) (cy := 0) (tgt := 103) dX11_offer_77 dX11_offer_78 rfl rfl (by decide) (fun h77 => ?_) (fun h77 => ?_)
          · skip
            refine z_vret (pc := 103) dX11_offer_103 rfl ?_
            exact h υ (BD_old hBu hc (show depA n pt (px.toInt, py.toInt, pd.toInt) < (υ.1 1 29).toInt ∨ (depA n pt (px.toInt, py.toInt, pd.toInt) = (υ.1 1 29).toInt ∧ lexl (dM υ) (px.toInt, py.toInt, pd.toInt)) from Or.inr ⟨by omega, lexs_n (by unfold lexs dM; dsimp only; omega)⟩) hne) hO
          · skip
            refine z_aload_n (pc := 81) dX11_offer_81 rfl ?_
            refine z_iload (pc := 82) dX11_offer_82 rfl ?_
            refine z_putI (pc := 84) dX11_offer_84 fk_X11_253 rfl (by decide) (by decide) (by decide) ?_
            refine z_aload_n (pc := 87) dX11_offer_87 rfl ?_
            refine z_lload_n (pc := 88) dX11_offer_88 rfl ?_
            refine z_putJ (pc := 89) dX11_offer_89 fk_X11_247 rfl (by decide) (by decide) (by decide) ?_
            refine z_aload_n (pc := 92) dX11_offer_92 rfl ?_
            refine z_lload_n (pc := 93) dX11_offer_93 rfl ?_
            refine z_putJ (pc := 94) dX11_offer_94 fk_X11_250 rfl (by decide) (by decide) (by decide) ?_
            refine z_aload_n (pc := 97) dX11_offer_97 rfl ?_
            refine z_lload (pc := 98) dX11_offer_98 rfl ?_
            refine z_putJ (pc := 100) dX11_offer_100 fk_X11_244 rfl (by decide) (by decide) (by decide) ?_
            refine z_vret (pc := 103) dX11_offer_103 rfl ?_
            have hnw := BD_new hBu hc hrg.1 (by omega) (show (υ.1 1 29).toInt < depA n pt (px.toInt, py.toInt, pd.toInt) ∨ ((υ.1 1 29).toInt = depA n pt (px.toInt, py.toInt, pd.toInt) ∧ lexl (px.toInt, py.toInt, pd.toInt) (dM υ)) from Or.inr ⟨by omega, lexs_l (by unfold lexs dM; dsimp only; omega)⟩)
            refine h _ ?_ ⟨FrQ_uJ1 (FrQ_uJ1 (FrQ_uJ1 (FrQ_uI1 hO.1) (by omega)) (by omega)) (by omega), hO.2.1, hO.2.2.1, hO.2.2.2⟩
            rw [← erd] at hnw
            exact hnw

theorem c_md_in {l : Launch} {G : Gx} {d : Nat} {σ : Sg} {Q : Option Value → Sg → Prop} {n i : Nat} {pt : Nat → Pt} {x1 x2 x3 : Int32} (hQ : rmQ σ n pt) (h12 : (prs n pt).length ≤ 12) (hm : 0 < (prs n pt).length) (h2 : x2.toInt = ((AP n pt).length : Int)) (hL : lnsM σ pt (AP n pt)) (hx : x3.toInt = (i : Int)) (hil : i < (AP n pt).length) (hnext : ∀ (x4 : Int32) (τ : Sg), BDM τ n pt (D2 n pt (i + 1) 0) → FrO σ τ → Z l G M_X11_deepest (d + 6) 357 [some (.ref 1), some (.int x1), some (.int x2), some (.int x3), some (.int x4), none, none, none, none, none, none] [] τ Q) : ∀ (f j : Nat) (x4 : Int32) (y5 y7 y9 : Option Value) (τ : Sg), x4.toInt = (j : Int) → j ≤ i → i - j < f → BDM τ n pt (D2 n pt i j) → FrO σ τ → Z l G M_X11_deepest (d + 6) 196 [some (.ref 1), some (.int x1), some (.int x2), some (.int x3), some (.int x4), y5, none, y7, none, y9, none] [] τ Q := by
  intro f
  induction f with
  | zero => intro j x4 y5 y7 y9 τ hj hji hfu hB hE; omega
  | succ f ih =>
  intro j x4 y5 y7 y9 τ hj hji hfu hB hE
  refine z_sub (L' := [some _, some _, some _, some _, some _, none, none, none, none, none, none]) ⟨rfl, rfl, rfl, rfl, rfl, trivial⟩ ?_
  have hQt := rmQ_Fr hQ hE.1
  have hLt := lnsM_cong hE.2.1 hE.2.2.1 hE.2.2.2 hL
  have hl6 := AP_len h12
  refine z_iload (pc := 196) dX11_deepest_196 rfl ?_
  refine z_iload_n (pc := 198) dX11_deepest_198 rfl ?_
  refine zq_icmp_ge (pc := 199) (tgt := 357) dX11_deepest_199 rfl rfl rfl (fun h199 => ?_) (fun h199 => ?_)
  · skip
    have e : j = i := by omega
    subst e
    exact hnext x4 τ (BDM_congr D2_row hB) hE
  · skip
    obtain ⟨y, hy⟩ : ∃ y, (AP n pt)[i]? = some y := ⟨_, List.getElem?_eq_getElem hil⟩
    obtain ⟨z, hz⟩ : ∃ z, (AP n pt)[j]? = some z := ⟨_, List.getElem?_eq_getElem (by omega)⟩
    obtain ⟨i1, i2, i3⟩ := hLt i y hy
    obtain ⟨j1, j2, j3⟩ := hLt j z hz
    have my := AP_mem (List.mem_of_getElem? hy)
    have mz := AP_mem (List.mem_of_getElem? hz)
    have bi := lnO_B hQ.2.2.1 my.1 my.2.1 my.2.2
    have bj := lnO_B hQ.2.2.1 mz.1 mz.2.1 mz.2.2
    have bc := crL_B bi bj
    have nB := nrC_B bi bj
    have ec : crL (lnO pt y) (lnO pt z) = ((lnO pt y).2.1 * (lnO pt z).2.2 - (lnO pt z).2.1 * (lnO pt y).2.2, (lnO pt y).2.2 * (lnO pt z).1 - (lnO pt z).2.2 * (lnO pt y).1, (lnO pt y).1 * (lnO pt z).2.1 - (lnO pt z).1 * (lnO pt y).2.1) := rfl
    change lnB (lnO pt y) at bi
    change lnB (lnO pt z) at bj
    unfold lnB at bi bj
    have m1 := mulb (a := (τ.2 44 i).toInt) (b := (τ.2 45 j).toInt) (p := 600) (q := 600) (by omega) (by omega) (by omega) (by omega)
    have m2 := mulb (a := (τ.2 44 j).toInt) (b := (τ.2 45 i).toInt) (p := 600) (q := 600) (by omega) (by omega) (by omega) (by omega)
    have m3 := mulb (a := (τ.2 45 i).toInt) (b := (τ.2 46 j).toInt) (p := 600) (q := 180000) (by omega) (by omega) (by omega) (by omega)
    have m4 := mulb (a := (τ.2 45 j).toInt) (b := (τ.2 46 i).toInt) (p := 600) (q := 180000) (by omega) (by omega) (by omega) (by omega)
    have m5 := mulb (a := (τ.2 46 i).toInt) (b := (τ.2 44 j).toInt) (p := 180000) (q := 600) (by omega) (by omega) (by omega) (by omega)
    have m6 := mulb (a := (τ.2 46 j).toInt) (b := (τ.2 44 i).toInt) (p := 180000) (q := 600) (by omega) (by omega) (by omega) (by omega)
    refine z_aload_n (pc := 202) dX11_deepest_202 rfl ?_
    refine z_getR (pc := 203) (t := 44) dX11_deepest_203 fk_X11_60 rfl (by decide) (by decide) (by decide) rfl ?_
    refine z_iload_n (pc := 206) dX11_deepest_206 rfl ?_
    refine z_laldN (pc := 207) i dX11_deepest_207 rfl (by decide) hx (by show _ < 66; omega) ?_
    refine z_aload_n (pc := 208) dX11_deepest_208 rfl ?_
    refine z_getR (pc := 209) (t := 45) dX11_deepest_209 fk_X11_63 rfl (by decide) (by decide) (by decide) rfl ?_
    refine z_iload (pc := 212) dX11_deepest_212 rfl ?_
    refine z_laldN (pc := 214) j dX11_deepest_214 rfl (by decide) hj (by show _ < 66; omega) ?_
    refine z_lmulT (pc := 215) dX11_deepest_215 rfl rfl (by omega) (by omega) (fun v215 e215 => ?_)
    refine z_aload_n (pc := 216) dX11_deepest_216 rfl ?_
    refine z_getR (pc := 217) (t := 44) dX11_deepest_217 fk_X11_60 rfl (by decide) (by decide) (by decide) rfl ?_
    refine z_iload (pc := 220) dX11_deepest_220 rfl ?_
    refine z_laldN (pc := 222) j dX11_deepest_222 rfl (by decide) hj (by show _ < 66; omega) ?_
    refine z_aload_n (pc := 223) dX11_deepest_223 rfl ?_
    refine z_getR (pc := 224) (t := 45) dX11_deepest_224 fk_X11_63 rfl (by decide) (by decide) (by decide) rfl ?_
    refine z_iload_n (pc := 227) dX11_deepest_227 rfl ?_
    refine z_laldN (pc := 228) i dX11_deepest_228 rfl (by decide) hx (by show _ < 66; omega) ?_
    refine z_lmulT (pc := 229) dX11_deepest_229 rfl rfl (by omega) (by omega) (fun v229 e229 => ?_)
    refine z_lsubT (pc := 230) dX11_deepest_230 rfl rfl (by rw [e215, e229]; omega) (by rw [e215, e229]; omega) (fun v230 e230 => ?_)
    refine z_lstore (pc := 231) dX11_deepest_231 rfl rfl (by dsimp only [setI, setL, List.set]) ?_
    refine z_aload_n (pc := 233) dX11_deepest_233 rfl ?_
    refine z_getR (pc := 234) (t := 45) dX11_deepest_234 fk_X11_63 rfl (by decide) (by decide) (by decide) rfl ?_
    refine z_iload_n (pc := 237) dX11_deepest_237 rfl ?_
    refine z_laldN (pc := 238) i dX11_deepest_238 rfl (by decide) hx (by show _ < 66; omega) ?_
    refine z_aload_n (pc := 239) dX11_deepest_239 rfl ?_
    refine z_getR (pc := 240) (t := 46) dX11_deepest_240 fk_X11_66 rfl (by decide) (by decide) (by decide) rfl ?_
    refine z_iload (pc := 243) dX11_deepest_243 rfl ?_
    refine z_laldN (pc := 245) j dX11_deepest_245 rfl (by decide) hj (by show _ < 66; omega) ?_
    refine z_lmulT (pc := 246) dX11_deepest_246 rfl rfl (by omega) (by omega) (fun v246 e246 => ?_)
    refine z_aload_n (pc := 247) dX11_deepest_247 rfl ?_
    refine z_getR (pc := 248) (t := 45) dX11_deepest_248 fk_X11_63 rfl (by decide) (by decide) (by decide) rfl ?_
    refine z_iload (pc := 251) dX11_deepest_251 rfl ?_
    refine z_laldN (pc := 253) j dX11_deepest_253 rfl (by decide) hj (by show _ < 66; omega) ?_
    refine z_aload_n (pc := 254) dX11_deepest_254 rfl ?_
    refine z_getR (pc := 255) (t := 46) dX11_deepest_255 fk_X11_66 rfl (by decide) (by decide) (by decide) rfl ?_
    refine z_iload_n (pc := 258) dX11_deepest_258 rfl ?_
    refine z_laldN (pc := 259) i dX11_deepest_259 rfl (by decide) hx (by show _ < 66; omega) ?_
    refine z_lmulT (pc := 260) dX11_deepest_260 rfl rfl (by omega) (by omega) (fun v260 e260 => ?_)
    refine z_lsubT (pc := 261) dX11_deepest_261 rfl rfl (by rw [e246, e260]; omega) (by rw [e246, e260]; omega) (fun v261 e261 => ?_)
    refine z_lstore (pc := 262) dX11_deepest_262 rfl rfl (by dsimp only [setI, setL, List.set]) ?_
    refine z_aload_n (pc := 264) dX11_deepest_264 rfl ?_
    refine z_getR (pc := 265) (t := 46) dX11_deepest_265 fk_X11_66 rfl (by decide) (by decide) (by decide) rfl ?_
    refine z_iload_n (pc := 268) dX11_deepest_268 rfl ?_
    refine z_laldN (pc := 269) i dX11_deepest_269 rfl (by decide) hx (by show _ < 66; omega) ?_
    refine z_aload_n (pc := 270) dX11_deepest_270 rfl ?_
    refine z_getR (pc := 271) (t := 44) dX11_deepest_271 fk_X11_60 rfl (by decide) (by decide) (by decide) rfl ?_
    refine z_iload (pc := 274) dX11_deepest_274 rfl ?_
    refine z_laldN (pc := 276) j dX11_deepest_276 rfl (by decide) hj (by show _ < 66; omega) ?_
    refine z_lmulT (pc := 277) dX11_deepest_277 rfl rfl (by omega) (by omega) (fun v277 e277 => ?_)
    refine z_aload_n (pc := 278) dX11_deepest_278 rfl ?_
    refine z_getR (pc := 279) (t := 46) dX11_deepest_279 fk_X11_66 rfl (by decide) (by decide) (by decide) rfl ?_
    refine z_iload (pc := 282) dX11_deepest_282 rfl ?_
    refine z_laldN (pc := 284) j dX11_deepest_284 rfl (by decide) hj (by show _ < 66; omega) ?_
    refine z_aload_n (pc := 285) dX11_deepest_285 rfl ?_
    refine z_getR (pc := 286) (t := 44) dX11_deepest_286 fk_X11_60 rfl (by decide) (by decide) (by decide) rfl ?_
    refine z_iload_n (pc := 289) dX11_deepest_289 rfl ?_
    refine z_laldN (pc := 290) i dX11_deepest_290 rfl (by decide) hx (by show _ < 66; omega) ?_
    refine z_lmulT (pc := 291) dX11_deepest_291 rfl rfl (by omega) (by omega) (fun v291 e291 => ?_)
    refine z_lsubT (pc := 292) dX11_deepest_292 rfl rfl (by rw [e277, e291]; omega) (by rw [e277, e291]; omega) (fun v292 e292 => ?_)
    have ed : v230.toInt = (crL (lnO pt y) (lnO pt z)).2.2 := by rw [ec, e230, e215, e229, i1, j2, j1, i2]
    have ex : v261.toInt = (crL (lnO pt y) (lnO pt z)).1 := by rw [ec, e261, e246, e260, i2, j3, j2, i3]
    have ey : v292.toInt = (crL (lnO pt y) (lnO pt z)).2.1 := by rw [ec, e292, e277, e291, i3, j1, j3, i1]
    rw [ec] at ed ex ey
    dsimp only at ed ex ey
    refine z_lstore (pc := 293) dX11_deepest_293 rfl rfl (by dsimp only [setI, setL, List.set]) ?_
    refine z_lload (pc := 295) dX11_deepest_295 rfl ?_
    refine z_lconst (pc := 297) (v := 0) dX11_deepest_297 (by decide) ?_
    refine zq_lc_eq (pc := 298) (cy := 0) (tgt := 351) dX11_deepest_298 dX11_deepest_299 rfl rfl (by decide) (fun h298 => ?_) (fun h298 => ?_)
    · skip
      refine z_iincT (pc := 351) dX11_deepest_351 rfl rfl (by decide) (by decide) (by omega) (by omega) rfl rfl (fun v => by dsimp only [setI, setL, List.set]) (fun v351 e351 => ?_)
      refine z_goto (pc := 354) (tgt := 196) dX11_deepest_354 rfl ?_
      exact ih (j + 1) v351 _ _ _ τ (by omega) (by omega) (by omega) (BDM_congr (fun c => ⟨fun w => (D2_succ (by omega) hy hz c).mp (Or.inl w), fun w => ((D2_succ (by omega) hy hz c).mpr w).elim id (fun v => absurd (show (crL (lnO pt y) (lnO pt z)).2.2 = 0 by rw [ec]; dsimp only; omega) v.1)⟩) hB) hE
    · skip
      refine z_aload_n (pc := 302) dX11_deepest_302 rfl ?_
      refine z_lload (pc := 303) dX11_deepest_303 rfl ?_
      refine z_lconst (pc := 305) (v := 0) dX11_deepest_305 (by decide) ?_
      refine zq_lc_ge (pc := 306) (cy := 0) (tgt := 316) dX11_deepest_306 dX11_deepest_307 rfl rfl (by decide) (fun h306 => ?_) (fun h306 => ?_)
      · skip
        refine z_lload (pc := 316) dX11_deepest_316 rfl ?_
        refine z_lload (pc := 318) dX11_deepest_318 rfl ?_
        refine z_lconst (pc := 320) (v := 0) dX11_deepest_320 (by decide) ?_
        refine zq_lc_ge (pc := 321) (cy := 0) (tgt := 331) dX11_deepest_321 dX11_deepest_322 rfl rfl (by decide) (fun h321 => ?_) (fun h321 => ?_)
        · skip
          refine z_lload (pc := 331) dX11_deepest_331 rfl ?_
          refine z_lload (pc := 333) dX11_deepest_333 rfl ?_
          refine z_lconst (pc := 335) (v := 0) dX11_deepest_335 (by decide) ?_
          refine zq_lc_ge (pc := 336) (cy := 0) (tgt := 346) dX11_deepest_336 dX11_deepest_337 rfl rfl (by decide) (fun h336 => ?_) (fun h336 => ?_)
          · skip
            refine z_lload (pc := 346) dX11_deepest_346 rfl ?_
            refine z_iv3 (pc := 348) dX11_deepest_348 kv_X11_260 rfl (by decide) (by decide) rfl rfl ?_
            have hne0 : (crL (lnO pt y) (lnO pt z)).2.2 ≠ 0 := by rw [ec]; dsimp only; omega
            have eq : nrC (crL (lnO pt y) (lnO pt z)) = (v261.toInt, v292.toInt, v230.toInt) := (by unfold nrC; rw [if_pos (by rw [ec]; dsimp only; omega), ec, ex, ey, ed])
            have hcB := nB hne0
            rw [eq] at hcB
            obtain ⟨p0, hp0⟩ := prs_get (pt := pt) (n := n) (j := 0) hm
            have hp0m := List.mem_of_getElem? hp0
            refine c_X11_offer (C := D2 n pt i j) hQt hB hcB (Or.inl ⟨_, Or.inl ⟨p0, hp0m, (prs_mem.mp hp0m).1, rfl⟩⟩) (fun υ hBu uE => ?_)
            refine z_iincT (pc := 351) dX11_deepest_351 rfl rfl (by decide) (by decide) (by omega) (by omega) rfl rfl (fun v => by dsimp only [setI, setL, List.set]) (fun v351 e351 => ?_)
            refine z_goto (pc := 354) (tgt := 196) dX11_deepest_354 rfl ?_
            exact ih (j + 1) v351 _ _ _ υ (by omega) (by omega) (by omega) (BDM_congr (fun c => ⟨fun w => (D2_succ (by omega) hy hz c).mp (w.elim Or.inl (fun v => Or.inr ⟨hne0, by rw [eq]; exact v⟩)), fun w => ((D2_succ (by omega) hy hz c).mpr w).elim Or.inl (fun v => Or.inr (by rw [← eq]; exact v.2))⟩) hBu) (FrO_tr hE uE)
          · skip
            refine z_lload (pc := 340) dX11_deepest_340 rfl ?_
            refine z_lnegT (pc := 342) dX11_deepest_342 rfl (by omega) (by omega) (fun v342 e342 => ?_)
            refine z_goto (pc := 343) (tgt := 348) dX11_deepest_343 rfl ?_
            refine z_iv3 (pc := 348) dX11_deepest_348 kv_X11_260 rfl (by decide) (by decide) rfl rfl ?_
            exfalso; omega
        · skip
          refine z_lload (pc := 325) dX11_deepest_325 rfl ?_
          refine z_lnegT (pc := 327) dX11_deepest_327 rfl (by omega) (by omega) (fun v327 e327 => ?_)
          refine z_goto (pc := 328) (tgt := 333) dX11_deepest_328 rfl ?_
          refine z_lload (pc := 333) dX11_deepest_333 rfl ?_
          refine z_lconst (pc := 335) (v := 0) dX11_deepest_335 (by decide) ?_
          refine zq_lc_ge (pc := 336) (cy := 0) (tgt := 346) dX11_deepest_336 dX11_deepest_337 rfl rfl (by decide) (fun h336 => ?_) (fun h336 => ?_)
          · skip
            refine z_lload (pc := 346) dX11_deepest_346 rfl ?_
            refine z_iv3 (pc := 348) dX11_deepest_348 kv_X11_260 rfl (by decide) (by decide) rfl rfl ?_
            exfalso; omega
          · skip
            refine z_lload (pc := 340) dX11_deepest_340 rfl ?_
            refine z_lnegT (pc := 342) dX11_deepest_342 rfl (by omega) (by omega) (fun v342 e342 => ?_)
            refine z_goto (pc := 343) (tgt := 348) dX11_deepest_343 rfl ?_
            refine z_iv3 (pc := 348) dX11_deepest_348 kv_X11_260 rfl (by decide) (by decide) rfl rfl ?_
            exfalso; omega
      · skip
        refine z_lload (pc := 310) dX11_deepest_310 rfl ?_
        refine z_lnegT (pc := 312) dX11_deepest_312 rfl (by omega) (by omega) (fun v312 e312 => ?_)
        refine z_goto (pc := 313) (tgt := 318) dX11_deepest_313 rfl ?_
        refine z_lload (pc := 318) dX11_deepest_318 rfl ?_
        refine z_lconst (pc := 320) (v := 0) dX11_deepest_320 (by decide) ?_
        refine zq_lc_ge (pc := 321) (cy := 0) (tgt := 331) dX11_deepest_321 dX11_deepest_322 rfl rfl (by decide) (fun h321 => ?_) (fun h321 => ?_)
        · skip
          refine z_lload (pc := 331) dX11_deepest_331 rfl ?_
          refine z_lload (pc := 333) dX11_deepest_333 rfl ?_
          refine z_lconst (pc := 335) (v := 0) dX11_deepest_335 (by decide) ?_
          refine zq_lc_ge (pc := 336) (cy := 0) (tgt := 346) dX11_deepest_336 dX11_deepest_337 rfl rfl (by decide) (fun h336 => ?_) (fun h336 => ?_)
          · skip
            refine z_lload (pc := 346) dX11_deepest_346 rfl ?_
            refine z_iv3 (pc := 348) dX11_deepest_348 kv_X11_260 rfl (by decide) (by decide) rfl rfl ?_
            exfalso; omega
          · skip
            refine z_lload (pc := 340) dX11_deepest_340 rfl ?_
            refine z_lnegT (pc := 342) dX11_deepest_342 rfl (by omega) (by omega) (fun v342 e342 => ?_)
            refine z_goto (pc := 343) (tgt := 348) dX11_deepest_343 rfl ?_
            refine z_iv3 (pc := 348) dX11_deepest_348 kv_X11_260 rfl (by decide) (by decide) rfl rfl ?_
            exfalso; omega
        · skip
          refine z_lload (pc := 325) dX11_deepest_325 rfl ?_
          refine z_lnegT (pc := 327) dX11_deepest_327 rfl (by omega) (by omega) (fun v327 e327 => ?_)
          refine z_goto (pc := 328) (tgt := 333) dX11_deepest_328 rfl ?_
          refine z_lload (pc := 333) dX11_deepest_333 rfl ?_
          refine z_lconst (pc := 335) (v := 0) dX11_deepest_335 (by decide) ?_
          refine zq_lc_ge (pc := 336) (cy := 0) (tgt := 346) dX11_deepest_336 dX11_deepest_337 rfl rfl (by decide) (fun h336 => ?_) (fun h336 => ?_)
          · skip
            refine z_lload (pc := 346) dX11_deepest_346 rfl ?_
            refine z_iv3 (pc := 348) dX11_deepest_348 kv_X11_260 rfl (by decide) (by decide) rfl rfl ?_
            exfalso; omega
          · skip
            refine z_lload (pc := 340) dX11_deepest_340 rfl ?_
            refine z_lnegT (pc := 342) dX11_deepest_342 rfl (by omega) (by omega) (fun v342 e342 => ?_)
            refine z_goto (pc := 343) (tgt := 348) dX11_deepest_343 rfl ?_
            refine z_iv3 (pc := 348) dX11_deepest_348 kv_X11_260 rfl (by decide) (by decide) rfl rfl ?_
            have hne0 : (crL (lnO pt y) (lnO pt z)).2.2 ≠ 0 := by rw [ec]; dsimp only; omega
            have eq : nrC (crL (lnO pt y) (lnO pt z)) = (v312.toInt, v327.toInt, v342.toInt) := (by unfold nrC; rw [if_neg (by rw [ec]; dsimp only; omega), ec, e312, e327, e342, ex, ey, ed])
            have hcB := nB hne0
            rw [eq] at hcB
            obtain ⟨p0, hp0⟩ := prs_get (pt := pt) (n := n) (j := 0) hm
            have hp0m := List.mem_of_getElem? hp0
            refine c_X11_offer (C := D2 n pt i j) hQt hB hcB (Or.inl ⟨_, Or.inl ⟨p0, hp0m, (prs_mem.mp hp0m).1, rfl⟩⟩) (fun υ hBu uE => ?_)
            refine z_iincT (pc := 351) dX11_deepest_351 rfl rfl (by decide) (by decide) (by omega) (by omega) rfl rfl (fun v => by dsimp only [setI, setL, List.set]) (fun v351 e351 => ?_)
            refine z_goto (pc := 354) (tgt := 196) dX11_deepest_354 rfl ?_
            exact ih (j + 1) v351 _ _ _ υ (by omega) (by omega) (by omega) (BDM_congr (fun c => ⟨fun w => (D2_succ (by omega) hy hz c).mp (w.elim Or.inl (fun v => Or.inr ⟨hne0, by rw [eq]; exact v⟩)), fun w => ((D2_succ (by omega) hy hz c).mpr w).elim Or.inl (fun v => Or.inr (by rw [← eq]; exact v.2))⟩) hBu) (FrO_tr hE uE)

theorem c_md_out {l : Launch} {G : Gx} {d : Nat} {σ : Sg} {Q : Option Value → Sg → Prop} {n : Nat} {pt : Nat → Pt} {x1 x2 : Int32} (hQ : rmQ σ n pt) (h12 : (prs n pt).length ≤ 12) (hm : 0 < (prs n pt).length) (h2 : x2.toInt = ((AP n pt).length : Int)) (hL : lnsM σ pt (AP n pt)) (hw : 0 ≤ x1.toInt ∧ x1.toInt < 5) (h : ∀ (r : Int64) (τ : Sg), (∃ r0 b, BestD (cand n pt) (depA n pt) r0 b ∧ 0 < b.2.2 ∧ r.toInt = dTell x1.toInt r0 b) → FrQ σ τ → Q (some (.long r)) τ) : ∀ (f i : Nat) (x3 : Int32) (y4 y5 y7 y9 : Option Value) (τ : Sg), x3.toInt = (i : Int) → i ≤ (AP n pt).length → (AP n pt).length - i < f → BDM τ n pt (D2 n pt i 0) → FrO σ τ → Z l G M_X11_deepest (d + 6) 188 [some (.ref 1), some (.int x1), some (.int x2), some (.int x3), y4, y5, none, y7, none, y9, none] [] τ Q := by
  intro f
  induction f with
  | zero => intro i x3 y4 y5 y7 y9 τ hx hil hfu hB hE; omega
  | succ f ih =>
  intro i x3 y4 y5 y7 y9 τ hx hil hfu hB hE
  refine z_sub (L' := [some _, some _, some _, some _, none, none, none, none, none, none, none]) ⟨rfl, rfl, rfl, rfl, trivial⟩ ?_
  have hQt := rmQ_Fr hQ hE.1
  have hLt := lnsM_cong hE.2.1 hE.2.2.1 hE.2.2.2 hL
  have hl6 := AP_len h12
  refine z_iload_n (pc := 188) dX11_deepest_188 rfl ?_
  refine z_iload_n (pc := 189) dX11_deepest_189 rfl ?_
  refine zq_icmp_ge (pc := 190) (tgt := 363) dX11_deepest_190 rfl rfl rfl (fun h190 => ?_) (fun h190 => ?_)
  · skip
    have hC : BDM τ n pt (cand n pt) := BDM_congr (D2_cand (by omega)) hB
    have hbb := hC.1
    have hD : BestD (cand n pt) (depA n pt) (τ.1 1 29).toInt (dM τ) := by
      obtain ⟨p0, hp0⟩ := prs_get (pt := pt) (n := n) (j := 0) hm
      rcases hC.2.2 with z | z
      · exact absurd (Or.inl ⟨p0, List.mem_of_getElem? hp0, rfl⟩) (z.1 _)
      · exact z.1
    unfold bnd dM at hbb
    dsimp only at hbb
    have p62 : 500000000 < 2 ^ 62 := by decide
    have hd0 : 0 < (dM τ).2.2 := by unfold dM; dsimp only; omega
    have g1 := gg_pos (A := (τ.2 1 30).toInt) (B := (τ.2 1 32).toInt) (Or.inr (by omega))
    have g2 := gg_pos (A := (τ.2 1 31).toInt) (B := (τ.2 1 32).toInt) (Or.inr (by omega))
    refine z_aload_n (pc := 363) dX11_deepest_363 rfl ?_
    refine z_getJ (pc := 364) dX11_deepest_364 fk_X11_247 rfl (by decide) (by decide) (by decide) ?_
    refine z_aload_n (pc := 367) dX11_deepest_367 rfl ?_
    refine z_getJ (pc := 368) dX11_deepest_368 fk_X11_244 rfl (by decide) (by decide) (by decide) ?_
    refine z_is2 (pc := 371) dX11_deepest_371 ks_X11_181 rfl rfl ?_
    refine c_dv (by omega) (by omega) (fun rg371 erg371 => ?_)
    refine z_lstore_n (pc := 374) dX11_deepest_374 rfl rfl (by dsimp only [setI, setL, List.set]) ?_
    refine z_aload_n (pc := 375) dX11_deepest_375 rfl ?_
    refine z_getJ (pc := 376) dX11_deepest_376 fk_X11_250 rfl (by decide) (by decide) (by decide) ?_
    refine z_aload_n (pc := 379) dX11_deepest_379 rfl ?_
    refine z_getJ (pc := 380) dX11_deepest_380 fk_X11_244 rfl (by decide) (by decide) (by decide) ?_
    refine z_is2 (pc := 383) dX11_deepest_383 ks_X11_181 rfl rfl ?_
    refine c_dv (by omega) (by omega) (fun rg383 erg383 => ?_)
    refine z_lstore (pc := 386) dX11_deepest_386 rfl rfl (by dsimp only [setI, setL, List.set]) ?_
    refine z_iload_n (pc := 388) dX11_deepest_388 rfl ?_
    rcases (show x1.toInt = 0 ∨ x1.toInt = 1 ∨ x1.toInt = 2 ∨ x1.toInt = 3 ∨ (x1.toInt < 0 ∨ 3 < x1.toInt) by omega) with ek | ek | ek | ek | ek
    · refine zq_swIn (pc := 389) (c := 0) (tgt := 420) dX11_deepest_389 ek (by decide) (by decide) rfl rfl ?_
      refine z_aload_n (pc := 420) dX11_deepest_420 rfl ?_
      refine z_getI (pc := 421) dX11_deepest_421 fk_X11_253 rfl (by decide) (by decide) (by decide) ?_
      refine z_i2lT (pc := 424) dX11_deepest_424 rfl (fun v424 e424 => ?_)
      refine z_lret (pc := 425) dX11_deepest_425 rfl ?_
      exact h _ _ ⟨_, dM τ, hD, hd0, by rw [show dTell x1.toInt (τ.1 1 29).toInt (dM τ) = _ from if_pos ek]; exact e424⟩ hE.1
    · refine zq_swIn (pc := 389) (c := 1) (tgt := 426) dX11_deepest_389 ek (by decide) (by decide) rfl rfl ?_
      refine z_aload_n (pc := 426) dX11_deepest_426 rfl ?_
      refine z_getJ (pc := 427) dX11_deepest_427 fk_X11_247 rfl (by decide) (by decide) (by decide) ?_
      refine z_lload_n (pc := 430) dX11_deepest_430 rfl ?_
      refine z_ldivT (pc := 431) dX11_deepest_431 rfl rfl (by rw [erg371]; omega) (fun v431 e431 => ?_)
      refine z_lret (pc := 432) dX11_deepest_432 rfl ?_
      exact h _ _ ⟨_, dM τ, hD, hd0, by rw [show dTell x1.toInt (τ.1 1 29).toInt (dM τ) = _ from (if_neg (by omega)).trans (if_pos ek)]; rw [e431, erg371]; rfl⟩ hE.1
    · refine zq_swIn (pc := 389) (c := 2) (tgt := 433) dX11_deepest_389 ek (by decide) (by decide) rfl rfl ?_
      refine z_aload_n (pc := 433) dX11_deepest_433 rfl ?_
      refine z_getJ (pc := 434) dX11_deepest_434 fk_X11_244 rfl (by decide) (by decide) (by decide) ?_
      refine z_lload_n (pc := 437) dX11_deepest_437 rfl ?_
      refine z_ldivT (pc := 438) dX11_deepest_438 rfl rfl (by rw [erg371]; omega) (fun v438 e438 => ?_)
      refine z_lret (pc := 439) dX11_deepest_439 rfl ?_
      exact h _ _ ⟨_, dM τ, hD, hd0, by rw [show dTell x1.toInt (τ.1 1 29).toInt (dM τ) = _ from (if_neg (by omega)).trans ((if_neg (by omega)).trans (if_pos ek))]; rw [e438, erg371]; rfl⟩ hE.1
    · refine zq_swIn (pc := 389) (c := 3) (tgt := 440) dX11_deepest_389 ek (by decide) (by decide) rfl rfl ?_
      refine z_aload_n (pc := 440) dX11_deepest_440 rfl ?_
      refine z_getJ (pc := 441) dX11_deepest_441 fk_X11_250 rfl (by decide) (by decide) (by decide) ?_
      refine z_lload (pc := 444) dX11_deepest_444 rfl ?_
      refine z_ldivT (pc := 446) dX11_deepest_446 rfl rfl (by rw [erg383]; omega) (fun v446 e446 => ?_)
      refine z_lret (pc := 447) dX11_deepest_447 rfl ?_
      exact h _ _ ⟨_, dM τ, hD, hd0, by rw [show dTell x1.toInt (τ.1 1 29).toInt (dM τ) = _ from (if_neg (by omega)).trans ((if_neg (by omega)).trans ((if_neg (by omega)).trans (if_pos ek)))]; rw [e446, erg383]; rfl⟩ hE.1
    · refine zq_swOut (pc := 389) (tgt := 448) dX11_deepest_389 ek rfl ?_
      refine z_aload_n (pc := 448) dX11_deepest_448 rfl ?_
      refine z_getJ (pc := 449) dX11_deepest_449 fk_X11_244 rfl (by decide) (by decide) (by decide) ?_
      refine z_lload (pc := 452) dX11_deepest_452 rfl ?_
      refine z_ldivT (pc := 454) dX11_deepest_454 rfl rfl (by rw [erg383]; omega) (fun v454 e454 => ?_)
      refine z_lret (pc := 455) dX11_deepest_455 rfl ?_
      exact h _ _ ⟨_, dM τ, hD, hd0, by rw [show dTell x1.toInt (τ.1 1 29).toInt (dM τ) = _ from (if_neg (by omega)).trans ((if_neg (by omega)).trans ((if_neg (by omega)).trans (if_neg (by omega))))]; rw [e454, erg383]; rfl⟩ hE.1
  · skip
    refine z_iconst (pc := 193) (v := 0) dX11_deepest_193 (by decide) ?_
    refine z_istore (pc := 194) dX11_deepest_194 rfl rfl (by dsimp only [setI, setL, List.set]) ?_
    refine c_md_in hQt h12 hm h2 hLt hx (by omega) ?_ (i + 1) 0 0 _ _ _ τ (by decide) (by omega) (by omega) hB FrO_rf
    intro z4 υ hBu uE
    refine z_iincT (pc := 357) dX11_deepest_357 rfl rfl (by decide) (by decide) (by omega) (by omega) rfl rfl (fun v => by dsimp only [setI, setL, List.set]) (fun v357 e357 => ?_)
    refine z_goto (pc := 360) (tgt := 188) dX11_deepest_360 rfl ?_
    exact ih (i + 1) v357 _ _ _ _ υ (by omega) (by omega) (by omega) hBu (FrO_tr hE uE)

theorem c_md_q {l : Launch} {G : Gx} {d : Nat} {σ : Sg} {Q : Option Value → Sg → Prop} {n p : Nat} {pt : Nat → Pt} {x1 x3 : Int32} (hQ : rmQ σ n pt) (h12 : (prs n pt).length ≤ 12) (hp : p ∈ prs n pt) (hx : x3.toInt = (p : Int)) (hnext : ∀ (x2 x4 : Int32) (τ : Sg), x2.toInt = ((allA (List.range n) (okMA pt) n (p + 1)).length : Int) → lnsM τ pt (allA (List.range n) (okMA pt) n (p + 1)) → FrQ σ τ → BDM τ n pt (D1 n pt (p + 1)) → Z l G M_X11_deepest (d + 6) 180 [some (.ref 1), some (.int x1), some (.int x2), some (.int x3), some (.int x4), none, none, none, none, none, none] [] τ Q) : ∀ (f q : Nat) (x2 x4 : Int32) (τ : Sg), x4.toInt = (q : Int) → p < q → q ≤ n → n - q < f → x2.toInt = ((allA (List.range n) (okMA pt) n p ++ rowA (List.range n) (okMA pt) p q).length : Int) → lnsM τ pt (allA (List.range n) (okMA pt) n p ++ rowA (List.range n) (okMA pt) p q) → FrQ σ τ → BDM τ n pt (D1 n pt (p + 1)) → Z l G M_X11_deepest (d + 6) 105 [some (.ref 1), some (.int x1), some (.int x2), some (.int x3), some (.int x4), none, none, none, none, none, none] [] τ Q := by
  intro f
  induction f with
  | zero => intro q x2 x4 τ hq hpq hqn hfu h2 hL hF hB; omega
  | succ f ih =>
  intro q x2 x4 τ hq hpq hqn hfu h2 hL hF hB
  have hQt := rmQ_Fr hQ hF
  have hg := hQt.2.1.1
  have hn := hQ.1
  have hpn := (prs_mem.mp hp).1
  have hl6 := AP_len h12
  have hpre := (pair_pre (P := List.range n) (ok := okMA pt) (m := n) (i := p) (j := q) (by omega) (by omega)).length_le
  rw [AP_all] at hpre
  refine z_iload (pc := 105) dX11_deepest_105 rfl ?_
  refine z_aload_n (pc := 107) dX11_deepest_107 rfl ?_
  refine z_getI (pc := 108) dX11_deepest_108 fk_X11_101 rfl (by decide) (by decide) (by decide) ?_
  refine zq_icmp_ge (pc := 111) (tgt := 180) dX11_deepest_111 rfl rfl rfl (fun h111 => ?_) (fun h111 => ?_)
  · skip
    have e : q = n := by omega
    subst e
    exact hnext x2 x4 τ h2 hL hF hB
  · skip
    refine z_aload_n (pc := 114) dX11_deepest_114 rfl ?_
    refine z_getR (pc := 115) (t := 35) dX11_deepest_115 fk_X11_22 rfl (by decide) (by decide) (by decide) rfl ?_
    refine z_iload (pc := 118) dX11_deepest_118 rfl ?_
    refine z_zaldN (pc := 120) q dX11_deepest_120 rfl (by decide) hq (by show _ < 40; omega) ?_
    refine zq_if_ne (pc := 121) (tgt := 174) dX11_deepest_121 rfl rfl (fun h121 => ?_) (fun h121 => ?_)
    · skip
      refine z_iincT (pc := 174) dX11_deepest_174 rfl rfl (by decide) (by decide) (by omega) (by omega) rfl rfl (fun v => by dsimp only [setI, setL, List.set]) (fun v174 e174 => ?_)
      refine z_goto (pc := 177) (tgt := 105) dX11_deepest_177 rfl ?_
      have hrs := rowA_r (ok := okMA pt) hpn (show q < n by omega) hpq
      rw [if_neg (by rw [show okMA pt (p, q) = false from by show (thr pt p && thr pt q && apt (pt p) (pt q)) = false; rw [thr_no (hQt.2.1.2 q (by omega)).2.2.2.2 h121, Bool.and_false, Bool.false_and]]; decide), List.append_nil] at hrs
      exact ih (q + 1) x2 v174 τ (by omega) (by omega) (by omega) (by omega) (by rw [hrs]; exact h2) (by rw [hrs]; exact hL) hF hB
    · skip
      refine z_aload_n (pc := 124) dX11_deepest_124 rfl ?_
      refine z_iload_n (pc := 125) dX11_deepest_125 rfl ?_
      refine z_iload (pc := 126) dX11_deepest_126 rfl ?_
      refine z_iv2 (pc := 128) dX11_deepest_128 kv_X11_200 rfl (by decide) (by decide) rfl rfl ?_
      refine c_mapart hQt hpn (by omega) hx hq (fun qa => ?_) (fun qa => ?_)
      · skip
        refine z_if_eq (pc := 131) (tgt := 174) dX11_deepest_131 rfl (fun hc => absurd hc (by decide)) (fun _ => ?_)
        refine z_aload_n (pc := 134) dX11_deepest_134 rfl ?_
        refine z_iload_n (pc := 135) dX11_deepest_135 rfl ?_
        refine z_iload (pc := 136) dX11_deepest_136 rfl ?_
        refine z_iv2 (pc := 138) dX11_deepest_138 kv_X11_203 rfl (by decide) (by decide) rfl rfl ?_
        have hok : okMA pt (p, q) = true := by
          show (thr pt p && thr pt q && apt (pt p) (pt q)) = true
          rw [(thr_mem.mp hp).2, thr_of (hQt.2.1.2 q (by omega)).2.2.2.2 h121, qa]
          rfl
        have hnx := (List.getElem?_eq_some_iff.mp (pair_next (n := n) (ok := okMA pt) hpn (show q < n by omega) hpq hok)).1
        rw [AP_all] at hnx
        refine c_mlook hQt hpn (by omega) hx hq qa (fun υ hLn uF t1 t2 t3 => ?_)
        refine z_aload_n (pc := 141) dX11_deepest_141 rfl ?_
        refine z_getR (pc := 142) (t := 44) dX11_deepest_142 fk_X11_60 rfl (by decide) (by decide) (by decide) rfl ?_
        refine z_iload_n (pc := 145) dX11_deepest_145 rfl ?_
        refine z_aload_n (pc := 146) dX11_deepest_146 rfl ?_
        refine z_getJ (pc := 147) dX11_deepest_147 fk_X11_191 rfl (by decide) (by decide) (by decide) ?_
        refine z_lastN (pc := 150) (allA (List.range n) (okMA pt) n p ++ rowA (List.range n) (okMA pt) p q).length dX11_deepest_150 rfl (by decide) h2 (by show _ < 66; omega) ?_
        skip
        refine z_aload_n (pc := 151) dX11_deepest_151 rfl ?_
        refine z_getR (pc := 152) (t := 45) dX11_deepest_152 fk_X11_63 rfl (by decide) (by decide) (by decide) rfl ?_
        refine z_iload_n (pc := 155) dX11_deepest_155 rfl ?_
        refine z_aload_n (pc := 156) dX11_deepest_156 rfl ?_
        skip
        refine z_getJ (pc := 157) dX11_deepest_157 fk_X11_194 rfl (by decide) (by decide) (by decide) ?_
        rw [uJ_no (by omega)]
        refine z_lastN (pc := 160) (allA (List.range n) (okMA pt) n p ++ rowA (List.range n) (okMA pt) p q).length dX11_deepest_160 rfl (by decide) h2 (by show _ < 66; omega) ?_
        refine z_aload_n (pc := 161) dX11_deepest_161 rfl ?_
        refine z_getR (pc := 162) (t := 46) dX11_deepest_162 fk_X11_66 rfl (by decide) (by decide) (by decide) rfl ?_
        refine z_iload_n (pc := 165) dX11_deepest_165 rfl ?_
        refine z_aload_n (pc := 166) dX11_deepest_166 rfl ?_
        refine z_getJ (pc := 167) dX11_deepest_167 fk_X11_197 rfl (by decide) (by decide) (by decide) ?_
        rw [uJ_no (by omega), uJ_no (by omega)]
        refine z_lastN (pc := 170) (allA (List.range n) (okMA pt) n p ++ rowA (List.range n) (okMA pt) p q).length dX11_deepest_170 rfl (by decide) h2 (by show _ < 66; omega) ?_
        refine z_iincT (pc := 171) dX11_deepest_171 rfl rfl (by decide) (by decide) (by omega) (by omega) rfl rfl (fun v => by dsimp only [setI, setL, List.set]) (fun v171 e171 => ?_)
        refine z_iincT (pc := 174) dX11_deepest_174 rfl rfl (by decide) (by decide) (by omega) (by omega) rfl rfl (fun v => by dsimp only [setI, setL, List.set]) (fun v174 e174 => ?_)
        refine z_goto (pc := 177) (tgt := 105) dX11_deepest_177 rfl ?_
        have hrs := rowA_r (ok := okMA pt) hpn (show q < n by omega) hpq
        rw [if_pos hok] at hrs
        have hls : lnsM (uJ (uJ (uJ υ 44 (allA (List.range n) (okMA pt) n p ++ rowA (List.range n) (okMA pt) p q).length (υ.2 1 23)) 45 (allA (List.range n) (okMA pt) n p ++ rowA (List.range n) (okMA pt) p q).length (υ.2 1 24)) 46 (allA (List.range n) (okMA pt) n p ++ rowA (List.range n) (okMA pt) p q).length (υ.2 1 25)) pt (allA (List.range n) (okMA pt) n p ++ rowA (List.range n) (okMA pt) p (q + 1)) := by
          intro k z hz
          rw [hrs, ← List.append_assoc] at hz
          rcases Nat.lt_or_ge k (allA (List.range n) (okMA pt) n p ++ rowA (List.range n) (okMA pt) p q).length with g | g
          · rw [List.getElem?_append_left g] at hz
            have := hL k z hz
            simp (disch := omega) only [uJ_row, uJ_nk, uJ_no, uJ_eq]
            rw [t2 44 (by omega), t2 45 (by omega), t2 46 (by omega)]
            exact this
          · have hl9 := (List.getElem?_eq_some_iff.mp hz).1
            rw [List.length_append] at hl9
            simp only [List.length_cons, List.length_nil] at hl9
            have e9 : k = (allA (List.range n) (okMA pt) n p ++ rowA (List.range n) (okMA pt) p q).length := by omega
            subst e9
            rw [List.getElem?_append_right (Nat.le_refl _), Nat.sub_self] at hz
            simp at hz
            subst hz
            simp (disch := omega) only [uJ_row, uJ_nk, uJ_no, uJ_eq]
            exact hLn
        exact ih (q + 1) v171 v174 _ (by omega) (by omega) (by omega) (by omega) (by rw [hrs, ← List.append_assoc, List.length_append]; simp only [List.length_cons, List.length_nil]; omega) hls (FrQ_uJ (FrQ_uJ (FrQ_uJ (FrQ_tr hF uF) (by omega) (by omega)) (by omega) (by omega)) (by omega) (by omega)) (BDM_cong (by show υ.1 1 29 = _; rw [t1]) (by simp (disch := omega) only [uJ_row]; exact t3 30 (by omega) (by omega) (by omega)) (by simp (disch := omega) only [uJ_row]; exact t3 31 (by omega) (by omega) (by omega)) (by simp (disch := omega) only [uJ_row]; exact t3 32 (by omega) (by omega) (by omega)) hB)
      · skip
        refine z_if_eq (pc := 131) (tgt := 174) dX11_deepest_131 rfl (fun _ => ?_) (fun hc => absurd hc (by decide))
        refine z_iincT (pc := 174) dX11_deepest_174 rfl rfl (by decide) (by decide) (by omega) (by omega) rfl rfl (fun v => by dsimp only [setI, setL, List.set]) (fun v174 e174 => ?_)
        refine z_goto (pc := 177) (tgt := 105) dX11_deepest_177 rfl ?_
        have hrs := rowA_r (ok := okMA pt) hpn (show q < n by omega) hpq
        rw [if_neg (by rw [show okMA pt (p, q) = false from by show (thr pt p && thr pt q && apt (pt p) (pt q)) = false; rw [qa, Bool.and_false]]; decide), List.append_nil] at hrs
        exact ih (q + 1) x2 v174 τ (by omega) (by omega) (by omega) (by omega) (by rw [hrs]; exact h2) (by rw [hrs]; exact hL) hF hB

theorem c_md_p {l : Launch} {G : Gx} {d : Nat} {σ : Sg} {Q : Option Value → Sg → Prop} {n : Nat} {pt : Nat → Pt} {x1 : Int32} (hQ : rmQ σ n pt) (h12 : (prs n pt).length ≤ 12) (hm : 0 < (prs n pt).length) (hw : 0 ≤ x1.toInt ∧ x1.toInt < 5) (h : ∀ (r : Int64) (τ : Sg), (∃ r0 b, BestD (cand n pt) (depA n pt) r0 b ∧ 0 < b.2.2 ∧ r.toInt = dTell x1.toInt r0 b) → FrQ σ τ → Q (some (.long r)) τ) : ∀ (f p : Nat) (x2 x3 : Int32) (y4 : Option Value) (τ : Sg), x3.toInt = (p : Int) → p ≤ n → n - p < f → x2.toInt = ((allA (List.range n) (okMA pt) n p).length : Int) → lnsM τ pt (allA (List.range n) (okMA pt) n p) → FrQ σ τ → BDM τ n pt (D1 n pt p) → Z l G M_X11_deepest (d + 6) 64 [some (.ref 1), some (.int x1), some (.int x2), some (.int x3), y4, none, none, none, none, none, none] [] τ Q := by
  intro f
  induction f with
  | zero => intro p x2 x3 y4 τ hx hpn hfu h2 hL hF hB; omega
  | succ f ih =>
  intro p x2 x3 y4 τ hx hpn hfu h2 hL hF hB
  refine z_sub (L' := [some _, some _, some _, some _, none, none, none, none, none, none, none]) ⟨rfl, rfl, rfl, rfl, trivial⟩ ?_
  have hQt := rmQ_Fr hQ hF
  have hg := hQt.2.1.1
  have hn := hQ.1
  refine z_iload_n (pc := 64) dX11_deepest_64 rfl ?_
  refine z_aload_n (pc := 65) dX11_deepest_65 rfl ?_
  refine z_getI (pc := 66) dX11_deepest_66 fk_X11_101 rfl (by decide) (by decide) (by decide) ?_
  refine zq_icmp_ge (pc := 69) (tgt := 186) dX11_deepest_69 rfl rfl rfl (fun h69 => ?_) (fun h69 => ?_)
  · skip
    refine z_iconst (pc := 186) (v := 0) dX11_deepest_186 (by decide) ?_
    refine z_istore_n (pc := 187) dX11_deepest_187 rfl rfl (by dsimp only [setI, setL, List.set]) ?_
    have e : p = n := by omega
    subst e
    rw [AP_all] at h2 hL
    exact c_md_out hQt h12 hm h2 hL hw (fun r υ hr uF => h r υ hr (FrQ_tr hF uF)) ((AP p pt).length + 1) 0 0 _ _ _ _ τ (by decide) (by omega) (by omega) (BDM_congr (fun c => ⟨Or.inl, fun w => w.elim id (fun ⟨i', j', y', z', h1, h2, _⟩ => absurd h2 (by omega))⟩) hB) FrO_rf
  · skip
    refine z_aload_n (pc := 72) dX11_deepest_72 rfl ?_
    refine z_getR (pc := 73) (t := 35) dX11_deepest_73 fk_X11_22 rfl (by decide) (by decide) (by decide) rfl ?_
    refine z_iload_n (pc := 76) dX11_deepest_76 rfl ?_
    refine z_zaldN (pc := 77) p dX11_deepest_77 rfl (by decide) hx (by show _ < 40; omega) ?_
    refine zq_if_ne (pc := 78) (tgt := 180) dX11_deepest_78 rfl rfl (fun h78 => ?_) (fun h78 => ?_)
    · skip
      refine z_iincT (pc := 180) dX11_deepest_180 rfl rfl (by decide) (by decide) (by omega) (by omega) rfl rfl (fun v => by dsimp only [setI, setL, List.set]) (fun v180 e180 => ?_)
      refine z_goto (pc := 183) (tgt := 64) dX11_deepest_183 rfl ?_
      have hno : ¬ p ∈ prs n pt := fun w => absurd (prs_mem.mp w).2 (by rw [maway_of (hQt.2.1.2 p (by omega)).2.2.2.2 h78]; decide)
      have hrw : allA (List.range n) (okMA pt) n (p + 1) = allA (List.range n) (okMA pt) n p := by
        show allA (List.range n) (okMA pt) n p ++ rowA (List.range n) (okMA pt) p n = _
        rw [rowA_nil (fun q => ?_), List.append_nil]
        rw [getD_some (List.getElem?_range (show p < n by omega))]
        show (thr pt p && thr pt q && apt (pt p) (pt q)) = false
        rw [thr_no (hQt.2.1.2 p (by omega)).2.2.2.2 h78, Bool.false_and, Bool.false_and]
      exact ih (p + 1) x2 v180 _ τ (by omega) (by omega) (by omega) (by rw [hrw]; exact h2) (by rw [hrw]; exact hL) hF (BDM_congr (D1_skip hno) hB)
    · skip
      refine z_aload_n (pc := 81) dX11_deepest_81 rfl ?_
      refine z_aload_n (pc := 82) dX11_deepest_82 rfl ?_
      refine z_getR (pc := 83) (t := 31) dX11_deepest_83 fk_X11_7 rfl (by decide) (by decide) (by decide) rfl ?_
      refine z_iload_n (pc := 86) dX11_deepest_86 rfl ?_
      refine z_ialdN (pc := 87) p dX11_deepest_87 rfl (by decide) hx (by show _ < 40; omega) ?_
      refine z_i2lT (pc := 88) dX11_deepest_88 rfl (fun v88 e88 => ?_)
      refine z_aload_n (pc := 89) dX11_deepest_89 rfl ?_
      refine z_getR (pc := 90) (t := 32) dX11_deepest_90 fk_X11_13 rfl (by decide) (by decide) (by decide) rfl ?_
      refine z_iload_n (pc := 93) dX11_deepest_93 rfl ?_
      refine z_ialdN (pc := 94) p dX11_deepest_94 rfl (by decide) hx (by show _ < 40; omega) ?_
      refine z_i2lT (pc := 95) dX11_deepest_95 rfl (fun v95 e95 => ?_)
      refine z_lconst (pc := 96) (v := 1) dX11_deepest_96 (by decide) ?_
      refine z_iv3 (pc := 97) dX11_deepest_97 kv_X11_260 rfl (by decide) (by decide) rfl rfl ?_
      have hpP : p ∈ prs n pt := prs_mem.mpr ⟨by omega, mthere_of (hQt.2.1.2 p (by omega)).2.2.2.2 h78⟩
      have hpi := hQt.2.1.2 p (by omega)
      have hok := hQ.2.2.1 p (by omega)
      unfold ptOk at hok
      have ex : v88.toInt = (pt p).1.toInt := by rw [e88, hpi.1]
      have ey : v95.toInt = (pt p).2.1.toInt := by rw [e95, hpi.2.1]
      have e1 : (1 : Int64).toInt = 1 := rfl
      have ecc : (v88.toInt, v95.toInt, (1 : Int64).toInt) = ((pt p).1.toInt, (pt p).2.1.toInt, 1) := by rw [ex, ey, e1]
      refine c_X11_offer (C := D1 n pt p) hQt hB (by rw [ecc]; unfold bnd; dsimp only; omega) (Or.inr (by rw [ecc]; exact depA_plant hQ.2.2.1 hpP)) (fun υ hBu uE => ?_)
      rw [ecc] at hBu
      refine z_iload_n (pc := 100) dX11_deepest_100 rfl ?_
      refine z_iconst (pc := 101) (v := 1) dX11_deepest_101 (by decide) ?_
      refine z_iaddT (pc := 102) (cy := 1) dX11_deepest_102 rfl (by decide) (by omega) (by omega) (fun v102 e102 => ?_)
      refine z_istore (pc := 103) dX11_deepest_103 rfl rfl (by dsimp only [setI, setL, List.set]) ?_
      have hro : rowA (List.range n) (okMA pt) p (p + 1) = [] := rowA_no (p + 1) (by omega)
      refine c_md_q (rmQ_Fr hQt uE.1) h12 hpP hx ?_ (n + 1) (p + 1) x2 v102 υ (by omega) (by omega) (by omega) (by omega) (by rw [hro, List.append_nil]; exact h2) (by rw [hro, List.append_nil]; exact lnsM_cong uE.2.1 uE.2.2.1 uE.2.2.2 hL) FrQ_rf (BDM_congr (D1_succ hpP) hBu)
      intro z2 z4 ω hz2 hLw wF hBw
      refine z_iincT (pc := 180) dX11_deepest_180 rfl rfl (by decide) (by decide) (by omega) (by omega) rfl rfl (fun v => by dsimp only [setI, setL, List.set]) (fun v180 e180 => ?_)
      refine z_goto (pc := 183) (tgt := 64) dX11_deepest_183 rfl ?_
      exact ih (p + 1) z2 v180 _ ω (by omega) (by omega) (by omega) hz2 hLw (FrQ_tr hF (FrQ_tr uE.1 wF)) hBw

theorem c_X11_deepest {l : Launch} {G : Gx} {d : Nat} {σ : Sg} {Q : Option Value → Sg → Prop} {a : Ab} {x1 : Int32} (hr : rM σ a) (hk : abOk a) (h : ∀ (r : Int64) (τ : Sg), sDeepest a x1 r.toInt → rM τ a → eqC σ τ → Q (some (.long r)) τ) : Z l G M_X11_deepest (d + 6) 0 [some (.ref 1), some (.int x1)] [] σ Q := by
  refine z_sub (L' := [some (.ref 1), some (.int x1), none, none, none, none, none, none, none, none, none]) ⟨rfl, rfl, trivial⟩ ?_
  refine z_iload_n (pc := 0) dX11_deepest_0 rfl ?_
  refine z_i2lT (pc := 1) dX11_deepest_1 rfl (fun v1 e1 => ?_)
  refine z_lconst (pc := 2) (v := 0) dX11_deepest_2 (by decide) ?_
  refine z_ldc2 (pc := 3) dX11_deepest_3 kc_X11_120 ?_
  refine z_is3 (pc := 6) dX11_deepest_6 ks_X11_81 rfl rfl ?_
  refine c_X11_in (cl := 0) (cm := 4) (by first | assumption | rfl) (by decide) (by decide) (fun q6 => ?_) (fun q6 => ?_)
  · skip
    refine z_if_ne (pc := 9) (tgt := 16) dX11_deepest_9 rfl (fun _ => ?_) (fun hc => absurd hc (by decide))
    refine z_aload_n (pc := 16) dX11_deepest_16 rfl ?_
    refine z_iv0 (pc := 17) dX11_deepest_17 kv_X11_134 rfl (by decide) (by decide) rfl rfl ?_
    refine c_X11_there hk.1 hr.1.1 (fun i hi => (hr.1.2 i hi).2.2.2.2) (fun rt17 ert17 => ?_)
    refine zq_if_ne (pc := 20) (tgt := 27) dX11_deepest_20 rfl rfl (fun h20 => ?_) (fun h20 => ?_)
    · skip
      refine z_aload_n (pc := 27) dX11_deepest_27 rfl ?_
      refine z_iv0 (pc := 28) dX11_deepest_28 kv_X11_134 rfl (by decide) (by decide) rfl rfl ?_
      refine c_X11_there hk.1 hr.1.1 (fun i hi => (hr.1.2 i hi).2.2.2.2) (fun rt28 ert28 => ?_)
      refine z_bipush (pc := 31) (v := 12) dX11_deepest_31 (by decide) ?_
      refine zq_icmp_le (pc := 33) (cy := 12) (tgt := 40) dX11_deepest_33 rfl rfl (by decide) (fun h33 => ?_) (fun h33 => ?_)
      · skip
        refine z_aload_n (pc := 40) dX11_deepest_40 rfl ?_
        refine z_iconst (pc := 41) (v := -1) dX11_deepest_41 (by decide) ?_
        refine z_putI (pc := 42) dX11_deepest_42 fk_X11_253 rfl (by decide) (by decide) (by decide) ?_
        refine z_aload_n (pc := 45) dX11_deepest_45 rfl ?_
        refine z_lconst (pc := 46) (v := 0) dX11_deepest_46 (by decide) ?_
        refine z_putJ (pc := 47) dX11_deepest_47 fk_X11_247 rfl (by decide) (by decide) (by decide) ?_
        refine z_aload_n (pc := 50) dX11_deepest_50 rfl ?_
        refine z_lconst (pc := 51) (v := 0) dX11_deepest_51 (by decide) ?_
        refine z_putJ (pc := 52) dX11_deepest_52 fk_X11_250 rfl (by decide) (by decide) (by decide) ?_
        refine z_aload_n (pc := 55) dX11_deepest_55 rfl ?_
        refine z_lconst (pc := 56) (v := 1) dX11_deepest_56 (by decide) ?_
        refine z_putJ (pc := 57) dX11_deepest_57 fk_X11_244 rfl (by decide) (by decide) (by decide) ?_
        refine z_iconst (pc := 60) (v := 0) dX11_deepest_60 (by decide) ?_
        refine z_istore_n (pc := 61) dX11_deepest_61 rfl rfl (by dsimp only [setI, setL, List.set]) ?_
        refine z_iconst (pc := 62) (v := 0) dX11_deepest_62 (by decide) ?_
        refine z_istore_n (pc := 63) dX11_deepest_63 rfl rfl (by dsimp only [setI, setL, List.set]) ?_
        have hF0 : FrQ σ (uJ (uJ (uJ (uI σ 1 29 (-1)) 1 30 0) 1 31 0) 1 32 1) := FrQ_uJ1 (FrQ_uJ1 (FrQ_uJ1 (FrQ_uI1 FrQ_rf) (by omega)) (by omega)) (by omega)
        refine c_md_p (n := a.1.1) (pt := a.1.2) (rmQ_Fr (rmQ_of hr hk) hF0) (by omega) (by omega) (by omega) (fun r τ hex hF => ?_) (a.1.1 + 1) 0 0 0 _ _ (by decide) (by omega) (by omega) rfl (fun k z hz => by cases hz) FrQ_rf ?_
        · exact h r τ (by unfold sDeepest; rw [if_neg (by omega), if_neg (by omega), if_neg (by omega)]; exact hex) (rM_FrQ hr (FrQ_tr hF0 hF)) (FrQ_C (FrQ_tr hF0 hF))
        · refine ⟨(by unfold bnd; decide : bnd (0, 0, 1)), fun c hc => ?_, Or.inl ⟨fun c hc => ?_, ?_⟩⟩
          · obtain ⟨i', _, h1, _⟩ := hc; omega
          · obtain ⟨i', _, h1, _⟩ := hc; omega
          · show -1 ≤ (-1 : Int32).toInt ∧ (-1 : Int32).toInt ≤ 0; decide
      · skip
        refine z_ldc2 (pc := 36) dX11_deepest_36 kc_X11_258 ?_
        refine z_lret (pc := 39) dX11_deepest_39 rfl ?_
        exact h _ _ (by unfold sDeepest; rw [if_neg (by omega), if_neg (by omega), if_pos (by omega)]; rfl) hr eqC_rf
    · skip
      refine z_ldc2 (pc := 23) dX11_deepest_23 kc_X11_256 ?_
      refine z_lret (pc := 26) dX11_deepest_26 rfl ?_
      exact h _ _ (by unfold sDeepest; rw [if_neg (by omega), if_pos (by omega)]; rfl) hr eqC_rf
  · skip
    refine z_if_ne (pc := 9) (tgt := 16) dX11_deepest_9 rfl (fun hc => absurd hc (by decide)) (fun _ => ?_)
    refine z_ldc2 (pc := 12) dX11_deepest_12 kc_X11_99 ?_
    refine z_lret (pc := 15) dX11_deepest_15 rfl ?_
    exact h _ _ (by unfold sDeepest; rw [if_pos (by omega)]; rfl) hr eqC_rf
