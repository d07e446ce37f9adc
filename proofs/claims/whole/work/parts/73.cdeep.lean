/-! the deepest point in the class -/
def dB (σ : Sg) : Int × Int × Int := ((σ.2 26 4).toInt, (σ.2 26 5).toInt, (σ.2 26 6).toInt)
def BDC (σ : Sg) (n : Nat) (pt : Nat → Pt) (C : Int × Int × Int → Prop) : Prop := BD0 C (depA n pt) (σ.1 26 3).toInt (dB σ)
theorem BDC_congr {σ : Sg} {n : Nat} {pt : Nat → Pt} {C D : Int × Int × Int → Prop} (h : ∀ c, C c ↔ D c) (k : BDC σ n pt C) : BDC σ n pt D := BD_congr h k
theorem BDC_cong {σ τ : Sg} {n : Nat} {pt : Nat → Pt} {C : Int × Int × Int → Prop} (h1 : τ.1 26 = σ.1 26) (h2 : τ.2 26 = σ.2 26) (k : BDC σ n pt C) : BDC τ n pt C := by
  unfold BDC dB
  rw [h1, h2]
  exact k
/-- the points considered: plants, then crossings -/
def C1 (n : Nat) (pt : Nat → Pt) (k : Nat) (c : Int × Int × Int) : Prop := ∃ j i, j < k ∧ (prs n pt)[j]? = some i ∧ c = ((pt i).1.toInt, (pt i).2.1.toInt, 1)
def C2 (n : Nat) (pt : Nat → Pt) (i j : Nat) (c : Int × Int × Int) : Prop := C1 n pt (prs n pt).length c ∨ ∃ i' j' y z, (i' < i ∨ (i' = i ∧ j' < j)) ∧ i' < j' ∧ (LPR (prs n pt) pt)[i']? = some y ∧ (LPR (prs n pt) pt)[j']? = some z ∧ (crL (lnO pt y) (lnO pt z)).2.2 ≠ 0 ∧ c = nrC (crL (lnO pt y) (lnO pt z))
theorem C1_succ {n k i : Nat} {pt : Nat → Pt} (h : (prs n pt)[k]? = some i) (c : Int × Int × Int) : (C1 n pt k c ∨ c = ((pt i).1.toInt, (pt i).2.1.toInt, 1)) ↔ C1 n pt (k + 1) c := by
  constructor
  · rintro (⟨j, i', h1, h2, h3⟩ | h3)
    · exact ⟨j, i', by omega, h2, h3⟩
    · exact ⟨k, i, by omega, h, h3⟩
  · rintro ⟨j, i', h1, h2, h3⟩
    rcases Nat.lt_or_ge j k with g | g
    · exact Or.inl ⟨j, i', g, h2, h3⟩
    · have e : j = k := by omega
      subst e
      rw [h] at h2
      cases h2
      exact Or.inr h3
theorem C2_succ {n i j : Nat} {pt : Nat → Pt} {y z : Nat × Nat} (hij : i < j) (hy : (LPR (prs n pt) pt)[i]? = some y) (hz : (LPR (prs n pt) pt)[j]? = some z) (c : Int × Int × Int) : (C2 n pt i j c ∨ ((crL (lnO pt y) (lnO pt z)).2.2 ≠ 0 ∧ c = nrC (crL (lnO pt y) (lnO pt z)))) ↔ C2 n pt i (j + 1) c := by
  constructor
  · rintro ((h | ⟨i', j', y', z', h1, h2, h3, h4, h5, h6⟩) | ⟨h5, h6⟩)
    · exact Or.inl h
    · exact Or.inr ⟨i', j', y', z', by omega, h2, h3, h4, h5, h6⟩
    · exact Or.inr ⟨i, j, y, z, Or.inr ⟨rfl, by omega⟩, hij, hy, hz, h5, h6⟩
  · rintro (h | ⟨i', j', y', z', h1, h2, h3, h4, h5, h6⟩)
    · exact Or.inl (Or.inl h)
    · rcases (show i' < i ∨ (i' = i ∧ j' < j) ∨ (i' = i ∧ j' = j) by omega) with g | g | ⟨g1, g2⟩
      · exact Or.inl (Or.inr ⟨i', j', y', z', Or.inl g, h2, h3, h4, h5, h6⟩)
      · exact Or.inl (Or.inr ⟨i', j', y', z', Or.inr g, h2, h3, h4, h5, h6⟩)
      · subst g1 g2
        rw [hy] at h3
        rw [hz] at h4
        cases h3
        cases h4
        exact Or.inr ⟨h5, h6⟩
theorem C2_row {n i : Nat} {pt : Nat → Pt} (c : Int × Int × Int) : C2 n pt i (LPR (prs n pt) pt).length c ↔ C2 n pt (i + 1) (i + 2) c := by
  constructor
  · rintro (h | ⟨i', j', y', z', h1, h2, h3, h4, h5, h6⟩)
    · exact Or.inl h
    · exact Or.inr ⟨i', j', y', z', by omega, h2, h3, h4, h5, h6⟩
  · rintro (h | ⟨i', j', y', z', h1, h2, h3, h4, h5, h6⟩)
    · exact Or.inl h
    · have := (List.getElem?_eq_some_iff.mp h4).1
      exact Or.inr ⟨i', j', y', z', by omega, h2, h3, h4, h5, h6⟩
theorem C2_cand {n i j : Nat} {pt : Nat → Pt} (hi : (LPR (prs n pt) pt).length ≤ i) (c : Int × Int × Int) : C2 n pt i j c ↔ cand n pt c := by
  constructor
  · rintro (⟨j, i', h1, h2, h3⟩ | ⟨i', j', y', z', h1, h2, h3, h4, h5, h6⟩)
    · exact Or.inl ⟨i', List.mem_of_getElem? h2, h3⟩
    · exact Or.inr ⟨_, _, ⟨y', List.mem_of_getElem? h3, rfl⟩, ⟨z', List.mem_of_getElem? h4, rfl⟩, h5, h6⟩
  · rintro (⟨i', h1, h2⟩ | ⟨s, t, ⟨y', hy, es⟩, ⟨z', hz, et⟩, h5, h6⟩)
    · obtain ⟨j', hj⟩ := List.getElem?_of_mem h1
      exact Or.inl ⟨j', i', (List.getElem?_eq_some_iff.mp hj).1, hj, h2⟩
    · obtain ⟨p, hp⟩ := List.getElem?_of_mem hy
      obtain ⟨q, hq⟩ := List.getElem?_of_mem hz
      have lp := (List.getElem?_eq_some_iff.mp hp).1
      have lq := (List.getElem?_eq_some_iff.mp hq).1
      subst es et
      rcases Nat.lt_trichotomy p q with g | g | g
      · exact Or.inr ⟨p, q, y', z', by omega, g, hp, hq, h5, h6⟩
      · subst g
        rw [hp] at hq
        cases hq
        exact absurd (crL_self _) h5
      · refine Or.inr ⟨q, p, z', y', by omega, g, hq, hp, ?_, by rw [h6]; exact nrC_swap h5⟩
        intro h0
        apply h5
        unfold crL at h0 ⊢
        dsimp only at h0 ⊢
        omega

theorem c_X2_isAhead {l : Launch} {G : Gx} {d : Nat} {σ : Sg} {Q : Option Value → Sg → Prop} {px py pd : Int64} (hb : bnd (dB σ)) (hc : bnd (px.toInt, py.toInt, pd.toInt)) (ht : lexs (px.toInt, py.toInt, pd.toInt) (dB σ) → Q (some (.int 1)) σ) (hf : ¬ lexs (px.toInt, py.toInt, pd.toInt) (dB σ) → Q (some (.int 0)) σ) : Z l G M_X2_isAhead (d) 0 [some (.ref 26), some (.long px), none, some (.long py), none, some (.long pd), none] [] σ Q := by
  unfold bnd dB at hb
  unfold bnd at hc
  dsimp only at hb hc
  have m1 := mulb (a := px.toInt) (b := (σ.2 26 6).toInt) (p := 500000000) (q := 1000000) (by omega) (by omega) (by omega) (by omega)
  have m2 := mulb (a := (σ.2 26 4).toInt) (b := pd.toInt) (p := 500000000) (q := 1000000) (by omega) (by omega) (by omega) (by omega)
  have m3 := mulb (a := py.toInt) (b := (σ.2 26 6).toInt) (p := 500000000) (q := 1000000) (by omega) (by omega) (by omega) (by omega)
  have m4 := mulb (a := (σ.2 26 5).toInt) (b := pd.toInt) (p := 500000000) (q := 1000000) (by omega) (by omega) (by omega) (by omega)
  refine z_sub (L' := [some (.ref 26), some (.long px), none, some (.long py), none, some (.long pd), none, none, none, none, none]) ⟨rfl, rfl, rfl, rfl, trivial⟩ ?_
  refine z_lload_n (pc := 0) dX2_isAhead_0 rfl ?_
  refine z_aload_n (pc := 1) dX2_isAhead_1 rfl ?_
  refine z_getJ (pc := 2) dX2_isAhead_2 fk_X2_60 rfl (by decide) (by decide) (by decide) ?_
  refine z_lmulT (pc := 5) dX2_isAhead_5 rfl rfl (by omega) (by omega) (fun v5 e5 => ?_)
  refine z_lstore (pc := 6) dX2_isAhead_6 rfl rfl (by dsimp only [setI, setL, List.set]) ?_
  refine z_aload_n (pc := 8) dX2_isAhead_8 rfl ?_
  refine z_getJ (pc := 9) dX2_isAhead_9 fk_X2_55 rfl (by decide) (by decide) (by decide) ?_
  refine z_lload (pc := 12) dX2_isAhead_12 rfl ?_
  refine z_lmulT (pc := 14) dX2_isAhead_14 rfl rfl (by omega) (by omega) (fun v14 e14 => ?_)
  refine z_lstore (pc := 15) dX2_isAhead_15 rfl rfl (by dsimp only [setI, setL, List.set]) ?_
  refine z_lload (pc := 17) dX2_isAhead_17 rfl ?_
  refine z_lload (pc := 19) dX2_isAhead_19 rfl ?_
  refine zq_lc_lt (pc := 21) (tgt := 50) dX2_isAhead_21 dX2_isAhead_22 rfl rfl rfl (fun h21 => ?_) (fun h21 => ?_)
  · skip
    refine z_iconst (pc := 50) (v := 1) dX2_isAhead_50 (by decide) ?_
    refine z_goto (pc := 51) (tgt := 55) dX2_isAhead_51 rfl ?_
    refine z_zret (pc := 55) dX2_isAhead_55 rfl (by decide) ?_
    exact ht (by unfold lexs dB; dsimp only; omega)
  · skip
    refine z_lload (pc := 25) dX2_isAhead_25 rfl ?_
    refine z_lload (pc := 27) dX2_isAhead_27 rfl ?_
    refine zq_lc_ne (pc := 29) (tgt := 54) dX2_isAhead_29 dX2_isAhead_30 rfl rfl rfl (fun h29 => ?_) (fun h29 => ?_)
    · skip
      refine z_iconst (pc := 54) (v := 0) dX2_isAhead_54 (by decide) ?_
      refine z_zret (pc := 55) dX2_isAhead_55 rfl (by decide) ?_
      exact hf (by unfold lexs dB; dsimp only; omega)
    · skip
      refine z_lload_n (pc := 33) dX2_isAhead_33 rfl ?_
      refine z_aload_n (pc := 34) dX2_isAhead_34 rfl ?_
      refine z_getJ (pc := 35) dX2_isAhead_35 fk_X2_60 rfl (by decide) (by decide) (by decide) ?_
      refine z_lmulT (pc := 38) dX2_isAhead_38 rfl rfl (by omega) (by omega) (fun v38 e38 => ?_)
      refine z_aload_n (pc := 39) dX2_isAhead_39 rfl ?_
      refine z_getJ (pc := 40) dX2_isAhead_40 fk_X2_58 rfl (by decide) (by decide) (by decide) ?_
      refine z_lload (pc := 43) dX2_isAhead_43 rfl ?_
      refine z_lmulT (pc := 45) dX2_isAhead_45 rfl rfl (by omega) (by omega) (fun v45 e45 => ?_)
      refine zq_lc_ge (pc := 46) (tgt := 54) dX2_isAhead_46 dX2_isAhead_47 rfl rfl rfl (fun h46 => ?_) (fun h46 => ?_)
      · skip
        refine z_iconst (pc := 54) (v := 0) dX2_isAhead_54 (by decide) ?_
        refine z_zret (pc := 55) dX2_isAhead_55 rfl (by decide) ?_
        exact hf (by unfold lexs dB; dsimp only; omega)
      · skip
        refine z_iconst (pc := 50) (v := 1) dX2_isAhead_50 (by decide) ?_
        refine z_goto (pc := 51) (tgt := 55) dX2_isAhead_51 rfl ?_
        refine z_zret (pc := 55) dX2_isAhead_55 rfl (by decide) ?_
        exact ht (by unfold lexs dB; dsimp only; omega)

theorem c_X2_consider {l : Launch} {G : Gx} {d : Nat} {σ : Sg} {Q : Option Value → Sg → Prop} {n : Nat} {pt : Nat → Pt} {C : Int × Int × Int → Prop} {px py pd : Int64} (hS : okStand σ n pt) (hn : n ≤ 40) (hP : ∀ i, i < n → ptOk (pt i)) (hB : BDC σ n pt C) (hc : bnd (px.toInt, py.toInt, pd.toInt)) (hne : (∃ x, C x) ∨ 1 ≤ depA n pt (px.toInt, py.toInt, pd.toInt)) (h : ∀ τ, BDC τ n pt (fun x => C x ∨ x = (px.toInt, py.toInt, pd.toInt)) → eqX 26 28 σ τ → Q none τ)  : Z l G M_X2_consider (d + 3) 0 [some (.ref 26), some (.ref 11), some (.long px), none, some (.long py), none, some (.long pd), none] [] σ Q := by
  have hrg := depA_rng n pt hn (px.toInt, py.toInt, pd.toInt)
  have hr0 : -1 ≤ (σ.1 26 3).toInt ∧ (σ.1 26 3).toInt ≤ 200 := by
    rcases hB.2.2 with z | z
    · omega
    · omega
  have hcb := hc
  unfold bnd at hcb
  dsimp only at hcb
  refine z_sub (L' := [some (.ref 26), some (.ref 11), some (.long px), none, some (.long py), none, some (.long pd), none, none, none]) ⟨rfl, rfl, rfl, rfl, rfl, trivial⟩ ?_
  refine z_aload_n (pc := 0) dX2_consider_0 rfl ?_
  refine z_lload_n (pc := 1) dX2_consider_1 rfl ?_
  refine z_lload (pc := 2) dX2_consider_2 rfl ?_
  refine z_lload (pc := 4) dX2_consider_4 rfl ?_
  refine z_iv3 (pc := 6) dX2_consider_6 kv_X2_87 rfl (by decide) (by decide) rfl rfl ?_
  refine c_X2_isAhead hB.1 hc (fun qa => ?_) (fun qa => ?_)
  · skip
    refine z_if_eq (pc := 9) (tgt := 19) dX2_consider_9 rfl (fun hc => absurd hc (by decide)) (fun _ => ?_)
    refine z_aload_n (pc := 12) dX2_consider_12 rfl ?_
    refine z_getI (pc := 13) dX2_consider_13 fk_X2_52 rfl (by decide) (by decide) (by decide) ?_
    refine z_goto (pc := 16) (tgt := 25) dX2_consider_16 rfl ?_
    refine z_istore (pc := 25) dX2_consider_25 rfl rfl (by dsimp only [setI, setL, List.set]) ?_
    refine z_aload_n (pc := 27) dX2_consider_27 rfl ?_
    refine z_aload_n (pc := 28) dX2_consider_28 rfl ?_
    refine z_lload_n (pc := 29) dX2_consider_29 rfl ?_
    refine z_lload (pc := 30) dX2_consider_30 rfl ?_
    refine z_lload (pc := 32) dX2_consider_32 rfl ?_
    refine z_iload (pc := 34) dX2_consider_34 rfl ?_
    refine z_iv5 (pc := 36) dX2_consider_36 kv_X2_91 rfl (by decide) (by decide) rfl rfl ?_
    refine c_X2_depthAt (x := px.toInt) (y := py.toInt) (dd := pd.toInt) hS hn hP rfl rfl rfl (by omega) (by omega) (by omega) (fun rd υ hor uE => ?_)
    change rd.toInt = depA n pt (px.toInt, py.toInt, pd.toInt) ∨ (depA n pt (px.toInt, py.toInt, pd.toInt) ≤ rd.toInt ∧ _) at hor
    have hBu : BDC υ n pt C := BDC_cong (uE 26 (by omega)).1 (uE 26 (by omega)).2 hB
    have e3 : υ.1 26 3 = σ.1 26 3 := by rw [(uE 26 (by omega)).1]
    have eb : dB υ = dB σ := by unfold dB; rw [(uE 26 (by omega)).2]
    refine z_istore (pc := 39) dX2_consider_39 rfl rfl (by dsimp only [setI, setL, List.set]) ?_
    refine z_iload (pc := 41) dX2_consider_41 rfl ?_
    refine z_iload (pc := 43) dX2_consider_43 rfl ?_
    refine zq_icmp_lt (pc := 45) (tgt := 71) dX2_consider_45 rfl rfl rfl (fun h45 => ?_) (fun h45 => ?_)
    · skip
      refine z_vret (pc := 71) dX2_consider_71 rfl ?_
      exact h υ (BD_old hBu hc (show depA n pt (px.toInt, py.toInt, pd.toInt) < (υ.1 26 3).toInt ∨ (depA n pt (px.toInt, py.toInt, pd.toInt) = (υ.1 26 3).toInt ∧ lexl (dB υ) (px.toInt, py.toInt, pd.toInt)) from by
        rw [e3, eb]
        left; omega) hne) (eqX_wide uE (by omega) (by omega))
    · skip
      refine z_aload_n (pc := 48) dX2_consider_48 rfl ?_
      refine z_iload (pc := 49) dX2_consider_49 rfl ?_
      refine z_putI (pc := 51) dX2_consider_51 fk_X2_52 rfl (by decide) (by decide) (by decide) ?_
      refine z_aload_n (pc := 54) dX2_consider_54 rfl ?_
      refine z_lload_n (pc := 55) dX2_consider_55 rfl ?_
      refine z_putJ (pc := 56) dX2_consider_56 fk_X2_55 rfl (by decide) (by decide) (by decide) ?_
      refine z_aload_n (pc := 59) dX2_consider_59 rfl ?_
      refine z_lload (pc := 60) dX2_consider_60 rfl ?_
      refine z_putJ (pc := 62) dX2_consider_62 fk_X2_58 rfl (by decide) (by decide) (by decide) ?_
      refine z_aload_n (pc := 65) dX2_consider_65 rfl ?_
      refine z_lload (pc := 66) dX2_consider_66 rfl ?_
      refine z_putJ (pc := 68) dX2_consider_68 fk_X2_60 rfl (by decide) (by decide) (by decide) ?_
      refine z_vret (pc := 71) dX2_consider_71 rfl ?_
      have er : rd.toInt = depA n pt (px.toInt, py.toInt, pd.toInt) := by omega
      have hnw := BD_new hBu hc hrg.1 (by omega) (show (υ.1 26 3).toInt < depA n pt (px.toInt, py.toInt, pd.toInt) ∨ ((υ.1 26 3).toInt = depA n pt (px.toInt, py.toInt, pd.toInt) ∧ lexl (px.toInt, py.toInt, pd.toInt) (dB υ)) from by
        rw [e3, eb]
        rcases (show (σ.1 26 3).toInt < depA n pt (px.toInt, py.toInt, pd.toInt) ∨ (σ.1 26 3).toInt = depA n pt (px.toInt, py.toInt, pd.toInt) by omega) with z | z
        · exact Or.inl z
        · exact Or.inr ⟨z, lexs_l qa⟩)
      refine h _ ?_ (eqX_uJ (eqX_uJ (eqX_uJ (eqX_uI (eqX_wide uE (by omega) (by omega)) (by omega) (by omega)) (by omega) (by omega)) (by omega) (by omega)) (by omega) (by omega))
      rw [← er] at hnw
      exact hnw
  · skip
    refine z_if_eq (pc := 9) (tgt := 19) dX2_consider_9 rfl (fun _ => ?_) (fun hc => absurd hc (by decide))
    refine z_aload_n (pc := 19) dX2_consider_19 rfl ?_
    refine z_getI (pc := 20) dX2_consider_20 fk_X2_52 rfl (by decide) (by decide) (by decide) ?_
    refine z_iconst (pc := 23) (v := 1) dX2_consider_23 (by decide) ?_
    refine z_iaddT (pc := 24) (cy := 1) dX2_consider_24 rfl (by decide) (by omega) (by omega) (fun v24 e24 => ?_)
    refine z_istore (pc := 25) dX2_consider_25 rfl rfl (by dsimp only [setI, setL, List.set]) ?_
    refine z_aload_n (pc := 27) dX2_consider_27 rfl ?_
    refine z_aload_n (pc := 28) dX2_consider_28 rfl ?_
    refine z_lload_n (pc := 29) dX2_consider_29 rfl ?_
    refine z_lload (pc := 30) dX2_consider_30 rfl ?_
    refine z_lload (pc := 32) dX2_consider_32 rfl ?_
    refine z_iload (pc := 34) dX2_consider_34 rfl ?_
    refine z_iv5 (pc := 36) dX2_consider_36 kv_X2_91 rfl (by decide) (by decide) rfl rfl ?_
    refine c_X2_depthAt (x := px.toInt) (y := py.toInt) (dd := pd.toInt) hS hn hP rfl rfl rfl (by omega) (by omega) (by omega) (fun rd υ hor uE => ?_)
    change rd.toInt = depA n pt (px.toInt, py.toInt, pd.toInt) ∨ (depA n pt (px.toInt, py.toInt, pd.toInt) ≤ rd.toInt ∧ _) at hor
    have hBu : BDC υ n pt C := BDC_cong (uE 26 (by omega)).1 (uE 26 (by omega)).2 hB
    have e3 : υ.1 26 3 = σ.1 26 3 := by rw [(uE 26 (by omega)).1]
    have eb : dB υ = dB σ := by unfold dB; rw [(uE 26 (by omega)).2]
    refine z_istore (pc := 39) dX2_consider_39 rfl rfl (by dsimp only [setI, setL, List.set]) ?_
    refine z_iload (pc := 41) dX2_consider_41 rfl ?_
    refine z_iload (pc := 43) dX2_consider_43 rfl ?_
    refine zq_icmp_lt (pc := 45) (tgt := 71) dX2_consider_45 rfl rfl rfl (fun h45 => ?_) (fun h45 => ?_)
    · skip
      refine z_vret (pc := 71) dX2_consider_71 rfl ?_
      exact h υ (BD_old hBu hc (show depA n pt (px.toInt, py.toInt, pd.toInt) < (υ.1 26 3).toInt ∨ (depA n pt (px.toInt, py.toInt, pd.toInt) = (υ.1 26 3).toInt ∧ lexl (dB υ) (px.toInt, py.toInt, pd.toInt)) from by
        rw [e3, eb]
        rcases (show depA n pt (px.toInt, py.toInt, pd.toInt) < (σ.1 26 3).toInt ∨ depA n pt (px.toInt, py.toInt, pd.toInt) = (σ.1 26 3).toInt by omega) with z | z
        · exact Or.inl z
        · exact Or.inr ⟨z, lexs_n qa⟩) hne) (eqX_wide uE (by omega) (by omega))
    · skip
      refine z_aload_n (pc := 48) dX2_consider_48 rfl ?_
      refine z_iload (pc := 49) dX2_consider_49 rfl ?_
      refine z_putI (pc := 51) dX2_consider_51 fk_X2_52 rfl (by decide) (by decide) (by decide) ?_
      refine z_aload_n (pc := 54) dX2_consider_54 rfl ?_
      refine z_lload_n (pc := 55) dX2_consider_55 rfl ?_
      refine z_putJ (pc := 56) dX2_consider_56 fk_X2_55 rfl (by decide) (by decide) (by decide) ?_
      refine z_aload_n (pc := 59) dX2_consider_59 rfl ?_
      refine z_lload (pc := 60) dX2_consider_60 rfl ?_
      refine z_putJ (pc := 62) dX2_consider_62 fk_X2_58 rfl (by decide) (by decide) (by decide) ?_
      refine z_aload_n (pc := 65) dX2_consider_65 rfl ?_
      refine z_lload (pc := 66) dX2_consider_66 rfl ?_
      refine z_putJ (pc := 68) dX2_consider_68 fk_X2_60 rfl (by decide) (by decide) (by decide) ?_
      refine z_vret (pc := 71) dX2_consider_71 rfl ?_
      have er : rd.toInt = depA n pt (px.toInt, py.toInt, pd.toInt) := by omega
      have hnw := BD_new hBu hc hrg.1 (by omega) (show (υ.1 26 3).toInt < depA n pt (px.toInt, py.toInt, pd.toInt) ∨ ((υ.1 26 3).toInt = depA n pt (px.toInt, py.toInt, pd.toInt) ∧ lexl (px.toInt, py.toInt, pd.toInt) (dB υ)) from by
        rw [e3, eb]
        left; omega)
      refine h _ ?_ (eqX_uJ (eqX_uJ (eqX_uJ (eqX_uI (eqX_wide uE (by omega) (by omega)) (by omega) (by omega)) (by omega) (by omega)) (by omega) (by omega)) (by omega) (by omega))
      rw [← er] at hnw
      exact hnw

theorem c_X2_considerCrossing {l : Launch} {G : Gx} {d : Nat} {σ : Sg} {Q : Option Value → Sg → Prop} {n i j : Nat} {pt : Nat → Pt} {C : Int × Int × Int → Prop} {y z : Nat × Nat} {x3 x4 : Int32} (hS : okStand σ n pt) (hn : n ≤ 40) (hP : ∀ i, i < n → ptOk (pt i)) (hL : okLns σ n pt) (hB : BDC σ n pt C) (hne : ∃ x, C x) (hy : (LPR (prs n pt) pt)[i]? = some y) (hz : (LPR (prs n pt) pt)[j]? = some z) (hx : x3.toInt = (i : Int)) (hx4 : x4.toInt = (j : Int)) (h : ∀ τ, BDC τ n pt (fun x => C x ∨ ((crL (lnO pt y) (lnO pt z)).2.2 ≠ 0 ∧ x = nrC (crL (lnO pt y) (lnO pt z)))) → eqX 26 28 σ τ → Q none τ)  : Z l G M_X2_considerCrossing (d + 4) 0 [some (.ref 26), some (.ref 11), some (.ref 18), some (.int x3), some (.int x4)] [] σ Q := by
  have hlp := LPR_len (P := prs n pt) (pt := pt) (by have := prs_len n pt; omega)
  have hil := (List.getElem?_eq_some_iff.mp hy).1
  have hjl := (List.getElem?_eq_some_iff.mp hz).1
  obtain ⟨i1, i2, i3⟩ := hL.2.1 i y hy
  obtain ⟨j1, j2, j3⟩ := hL.2.1 j z hz
  have bi := isL_B hP ⟨y, List.mem_of_getElem? hy, rfl⟩
  have bj := isL_B hP ⟨z, List.mem_of_getElem? hz, rfl⟩
  have bc := crL_B bi bj
  have nB := nrC_B bi bj
  have ec : crL (lnO pt y) (lnO pt z) = ((lnO pt y).2.1 * (lnO pt z).2.2 - (lnO pt z).2.1 * (lnO pt y).2.2, (lnO pt y).2.2 * (lnO pt z).1 - (lnO pt z).2.2 * (lnO pt y).1, (lnO pt y).1 * (lnO pt z).2.1 - (lnO pt z).1 * (lnO pt y).2.1) := rfl
  unfold lnB at bi bj
  have m1 := mulb (a := (σ.1 19 i).toInt) (b := (σ.1 20 j).toInt) (p := 600) (q := 600) (by omega) (by omega) (by omega) (by omega)
  have m2 := mulb (a := (σ.1 19 j).toInt) (b := (σ.1 20 i).toInt) (p := 600) (q := 600) (by omega) (by omega) (by omega) (by omega)
  have m3 := mulb (a := (σ.1 20 i).toInt) (b := (σ.1 21 j).toInt) (p := 600) (q := 180000) (by omega) (by omega) (by omega) (by omega)
  have m4 := mulb (a := (σ.1 20 j).toInt) (b := (σ.1 21 i).toInt) (p := 600) (q := 180000) (by omega) (by omega) (by omega) (by omega)
  have m5 := mulb (a := (σ.1 21 i).toInt) (b := (σ.1 19 j).toInt) (p := 180000) (q := 600) (by omega) (by omega) (by omega) (by omega)
  have m6 := mulb (a := (σ.1 21 j).toInt) (b := (σ.1 19 i).toInt) (p := 180000) (q := 600) (by omega) (by omega) (by omega) (by omega)
  refine z_sub (L' := [some (.ref 26), some (.ref 11), some (.ref 18), some (.int x3), some (.int x4), none, none, none, none, none, none]) ⟨rfl, rfl, rfl, rfl, rfl, trivial⟩ ?_
  refine z_aload_n (pc := 0) dX2_considerCrossing_0 rfl ?_
  refine z_getR (pc := 1) (t := 19) dX2_considerCrossing_1 fk_X2_78 rfl (by decide) (by decide) (by decide) rfl ?_
  refine z_iload_n (pc := 4) dX2_considerCrossing_4 rfl ?_
  refine z_ialdN (pc := 5) i dX2_considerCrossing_5 rfl (by decide) hx (by show _ < 780; omega) ?_
  refine z_i2lT (pc := 6) dX2_considerCrossing_6 rfl (fun v6 e6 => ?_)
  refine z_aload_n (pc := 7) dX2_considerCrossing_7 rfl ?_
  refine z_getR (pc := 8) (t := 20) dX2_considerCrossing_8 fk_X2_81 rfl (by decide) (by decide) (by decide) rfl ?_
  refine z_iload (pc := 11) dX2_considerCrossing_11 rfl ?_
  refine z_ialdN (pc := 13) j dX2_considerCrossing_13 rfl (by decide) hx4 (by show _ < 780; omega) ?_
  refine z_i2lT (pc := 14) dX2_considerCrossing_14 rfl (fun v14 e14 => ?_)
  refine z_lmulT (pc := 15) dX2_considerCrossing_15 rfl rfl (by rw [e6, e14]; omega) (by rw [e6, e14]; omega) (fun v15 e15 => ?_)
  refine z_aload_n (pc := 16) dX2_considerCrossing_16 rfl ?_
  refine z_getR (pc := 17) (t := 19) dX2_considerCrossing_17 fk_X2_78 rfl (by decide) (by decide) (by decide) rfl ?_
  refine z_iload (pc := 20) dX2_considerCrossing_20 rfl ?_
  refine z_ialdN (pc := 22) j dX2_considerCrossing_22 rfl (by decide) hx4 (by show _ < 780; omega) ?_
  refine z_i2lT (pc := 23) dX2_considerCrossing_23 rfl (fun v23 e23 => ?_)
  refine z_aload_n (pc := 24) dX2_considerCrossing_24 rfl ?_
  refine z_getR (pc := 25) (t := 20) dX2_considerCrossing_25 fk_X2_81 rfl (by decide) (by decide) (by decide) rfl ?_
  refine z_iload_n (pc := 28) dX2_considerCrossing_28 rfl ?_
  refine z_ialdN (pc := 29) i dX2_considerCrossing_29 rfl (by decide) hx (by show _ < 780; omega) ?_
  refine z_i2lT (pc := 30) dX2_considerCrossing_30 rfl (fun v30 e30 => ?_)
  refine z_lmulT (pc := 31) dX2_considerCrossing_31 rfl rfl (by rw [e23, e30]; omega) (by rw [e23, e30]; omega) (fun v31 e31 => ?_)
  refine z_lsubT (pc := 32) dX2_considerCrossing_32 rfl rfl (by rw [e15, e31, e6, e14, e23, e30]; omega) (by rw [e15, e31, e6, e14, e23, e30]; omega) (fun v32 e32 => ?_)
  have ed : v32.toInt = (crL (lnO pt y) (lnO pt z)).2.2 := by rw [ec, e32, e15, e31, e6, e14, e23, e30, i1, j2, j1, i2]
  refine z_lstore (pc := 33) dX2_considerCrossing_33 rfl rfl (by dsimp only [setI, setL, List.set]) ?_
  refine z_lload (pc := 35) dX2_considerCrossing_35 rfl ?_
  refine z_lconst (pc := 37) (v := 0) dX2_considerCrossing_37 (by decide) ?_
  refine zq_lc_ne (pc := 38) (cy := 0) (tgt := 43) dX2_considerCrossing_38 dX2_considerCrossing_39 rfl rfl (by decide) (fun h38 => ?_) (fun h38 => ?_)
  · skip
    refine z_aload_n (pc := 43) dX2_considerCrossing_43 rfl ?_
    refine z_getR (pc := 44) (t := 20) dX2_considerCrossing_44 fk_X2_81 rfl (by decide) (by decide) (by decide) rfl ?_
    refine z_iload_n (pc := 47) dX2_considerCrossing_47 rfl ?_
    refine z_ialdN (pc := 48) i dX2_considerCrossing_48 rfl (by decide) hx (by show _ < 780; omega) ?_
    refine z_i2lT (pc := 49) dX2_considerCrossing_49 rfl (fun v49 e49 => ?_)
    refine z_aload_n (pc := 50) dX2_considerCrossing_50 rfl ?_
    refine z_getR (pc := 51) (t := 21) dX2_considerCrossing_51 fk_X2_84 rfl (by decide) (by decide) (by decide) rfl ?_
    refine z_iload (pc := 54) dX2_considerCrossing_54 rfl ?_
    refine z_ialdN (pc := 56) j dX2_considerCrossing_56 rfl (by decide) hx4 (by show _ < 780; omega) ?_
    refine z_i2lT (pc := 57) dX2_considerCrossing_57 rfl (fun v57 e57 => ?_)
    refine z_lmulT (pc := 58) dX2_considerCrossing_58 rfl rfl (by rw [e49, e57]; omega) (by rw [e49, e57]; omega) (fun v58 e58 => ?_)
    refine z_aload_n (pc := 59) dX2_considerCrossing_59 rfl ?_
    refine z_getR (pc := 60) (t := 20) dX2_considerCrossing_60 fk_X2_81 rfl (by decide) (by decide) (by decide) rfl ?_
    refine z_iload (pc := 63) dX2_considerCrossing_63 rfl ?_
    refine z_ialdN (pc := 65) j dX2_considerCrossing_65 rfl (by decide) hx4 (by show _ < 780; omega) ?_
    refine z_i2lT (pc := 66) dX2_considerCrossing_66 rfl (fun v66 e66 => ?_)
    refine z_aload_n (pc := 67) dX2_considerCrossing_67 rfl ?_
    refine z_getR (pc := 68) (t := 21) dX2_considerCrossing_68 fk_X2_84 rfl (by decide) (by decide) (by decide) rfl ?_
    refine z_iload_n (pc := 71) dX2_considerCrossing_71 rfl ?_
    refine z_ialdN (pc := 72) i dX2_considerCrossing_72 rfl (by decide) hx (by show _ < 780; omega) ?_
    refine z_i2lT (pc := 73) dX2_considerCrossing_73 rfl (fun v73 e73 => ?_)
    refine z_lmulT (pc := 74) dX2_considerCrossing_74 rfl rfl (by rw [e66, e73]; omega) (by rw [e66, e73]; omega) (fun v74 e74 => ?_)
    refine z_lsubT (pc := 75) dX2_considerCrossing_75 rfl rfl (by rw [e58, e74, e49, e57, e66, e73]; omega) (by rw [e58, e74, e49, e57, e66, e73]; omega) (fun v75 e75 => ?_)
    refine z_lstore (pc := 76) dX2_considerCrossing_76 rfl rfl (by dsimp only [setI, setL, List.set]) ?_
    refine z_aload_n (pc := 78) dX2_considerCrossing_78 rfl ?_
    refine z_getR (pc := 79) (t := 21) dX2_considerCrossing_79 fk_X2_84 rfl (by decide) (by decide) (by decide) rfl ?_
    refine z_iload_n (pc := 82) dX2_considerCrossing_82 rfl ?_
    refine z_ialdN (pc := 83) i dX2_considerCrossing_83 rfl (by decide) hx (by show _ < 780; omega) ?_
    refine z_i2lT (pc := 84) dX2_considerCrossing_84 rfl (fun v84 e84 => ?_)
    refine z_aload_n (pc := 85) dX2_considerCrossing_85 rfl ?_
    refine z_getR (pc := 86) (t := 19) dX2_considerCrossing_86 fk_X2_78 rfl (by decide) (by decide) (by decide) rfl ?_
    refine z_iload (pc := 89) dX2_considerCrossing_89 rfl ?_
    refine z_ialdN (pc := 91) j dX2_considerCrossing_91 rfl (by decide) hx4 (by show _ < 780; omega) ?_
    refine z_i2lT (pc := 92) dX2_considerCrossing_92 rfl (fun v92 e92 => ?_)
    refine z_lmulT (pc := 93) dX2_considerCrossing_93 rfl rfl (by rw [e84, e92]; omega) (by rw [e84, e92]; omega) (fun v93 e93 => ?_)
    refine z_aload_n (pc := 94) dX2_considerCrossing_94 rfl ?_
    refine z_getR (pc := 95) (t := 21) dX2_considerCrossing_95 fk_X2_84 rfl (by decide) (by decide) (by decide) rfl ?_
    refine z_iload (pc := 98) dX2_considerCrossing_98 rfl ?_
    refine z_ialdN (pc := 100) j dX2_considerCrossing_100 rfl (by decide) hx4 (by show _ < 780; omega) ?_
    refine z_i2lT (pc := 101) dX2_considerCrossing_101 rfl (fun v101 e101 => ?_)
    refine z_aload_n (pc := 102) dX2_considerCrossing_102 rfl ?_
    refine z_getR (pc := 103) (t := 19) dX2_considerCrossing_103 fk_X2_78 rfl (by decide) (by decide) (by decide) rfl ?_
    refine z_iload_n (pc := 106) dX2_considerCrossing_106 rfl ?_
    refine z_ialdN (pc := 107) i dX2_considerCrossing_107 rfl (by decide) hx (by show _ < 780; omega) ?_
    refine z_i2lT (pc := 108) dX2_considerCrossing_108 rfl (fun v108 e108 => ?_)
    refine z_lmulT (pc := 109) dX2_considerCrossing_109 rfl rfl (by rw [e101, e108]; omega) (by rw [e101, e108]; omega) (fun v109 e109 => ?_)
    refine z_lsubT (pc := 110) dX2_considerCrossing_110 rfl rfl (by rw [e93, e109, e84, e92, e101, e108]; omega) (by rw [e93, e109, e84, e92, e101, e108]; omega) (fun v110 e110 => ?_)
    have ex : v75.toInt = (crL (lnO pt y) (lnO pt z)).1 := by rw [ec, e75, e58, e74, e49, e57, e66, e73, i2, j3, j2, i3]
    have ey : v110.toInt = (crL (lnO pt y) (lnO pt z)).2.1 := by rw [ec, e110, e93, e109, e84, e92, e101, e108, i3, j1, j3, i1]
    rw [ec] at ed ex ey
    dsimp only at ed ex ey
    refine z_lstore (pc := 111) dX2_considerCrossing_111 rfl rfl (by dsimp only [setI, setL, List.set]) ?_
    refine z_lload (pc := 113) dX2_considerCrossing_113 rfl ?_
    refine z_lconst (pc := 115) (v := 0) dX2_considerCrossing_115 (by decide) ?_
    refine zq_lc_le (pc := 116) (cy := 0) (tgt := 134) dX2_considerCrossing_116 dX2_considerCrossing_117 rfl rfl (by decide) (fun h116 => ?_) (fun h116 => ?_)
    · skip
      refine z_aload_n (pc := 134) dX2_considerCrossing_134 rfl ?_
      refine z_aload_n (pc := 135) dX2_considerCrossing_135 rfl ?_
      refine z_lload (pc := 136) dX2_considerCrossing_136 rfl ?_
      refine z_lnegT (pc := 138) dX2_considerCrossing_138 rfl (by omega) (by omega) (fun v138 e138 => ?_)
      refine z_lload (pc := 139) dX2_considerCrossing_139 rfl ?_
      refine z_lnegT (pc := 141) dX2_considerCrossing_141 rfl (by omega) (by omega) (fun v141 e141 => ?_)
      refine z_lload (pc := 142) dX2_considerCrossing_142 rfl ?_
      refine z_lnegT (pc := 144) dX2_considerCrossing_144 rfl (by omega) (by omega) (fun v144 e144 => ?_)
      refine z_iv4 (pc := 145) dX2_considerCrossing_145 kv_X2_63 rfl (by decide) (by decide) rfl rfl ?_
      have hne0 : (crL (lnO pt y) (lnO pt z)).2.2 ≠ 0 := by rw [ec]; dsimp only; omega
      have eq : nrC (crL (lnO pt y) (lnO pt z)) = (v138.toInt, v141.toInt, v144.toInt) := (by unfold nrC; rw [if_neg (by rw [ec]; dsimp only; omega), ec, e138, e141, e144, ex, ey, ed])
      have hcB := nB hne0
      rw [eq] at hcB
      refine c_X2_consider (C := C) hS hn hP hB hcB (Or.inl hne) (fun τ hBt hE => ?_)
      refine z_vret (pc := 148) dX2_considerCrossing_148 rfl ?_
      refine h τ (BDC_congr (fun x => ⟨fun z => z.elim Or.inl (fun w => Or.inr ⟨hne0, by rw [eq]; exact w⟩), fun z => z.elim Or.inl (fun w => Or.inr (by rw [← eq]; exact w.2))⟩) hBt) hE
    · skip
      refine z_aload_n (pc := 120) dX2_considerCrossing_120 rfl ?_
      refine z_aload_n (pc := 121) dX2_considerCrossing_121 rfl ?_
      refine z_lload (pc := 122) dX2_considerCrossing_122 rfl ?_
      refine z_lload (pc := 124) dX2_considerCrossing_124 rfl ?_
      refine z_lload (pc := 126) dX2_considerCrossing_126 rfl ?_
      refine z_iv4 (pc := 128) dX2_considerCrossing_128 kv_X2_63 rfl (by decide) (by decide) rfl rfl ?_
      have hne0 : (crL (lnO pt y) (lnO pt z)).2.2 ≠ 0 := by rw [ec]; dsimp only; omega
      have eq : nrC (crL (lnO pt y) (lnO pt z)) = (v75.toInt, v110.toInt, v32.toInt) := (by unfold nrC; rw [if_pos (by rw [ec]; dsimp only; omega), ec, ex, ey, ed])
      have hcB := nB hne0
      rw [eq] at hcB
      refine c_X2_consider (C := C) hS hn hP hB hcB (Or.inl hne) (fun τ hBt hE => ?_)
      refine z_goto (pc := 131) (tgt := 148) dX2_considerCrossing_131 rfl ?_
      refine z_vret (pc := 148) dX2_considerCrossing_148 rfl ?_
      refine h τ (BDC_congr (fun x => ⟨fun z => z.elim Or.inl (fun w => Or.inr ⟨hne0, by rw [eq]; exact w⟩), fun z => z.elim Or.inl (fun w => Or.inr (by rw [← eq]; exact w.2))⟩) hBt) hE
  · skip
    refine z_vret (pc := 42) dX2_considerCrossing_42 rfl ?_
    refine h σ (BDC_congr (fun x => ⟨fun v => Or.inl v, fun v => v.elim id (fun w => absurd (show (crL (lnO pt y) (lnO pt z)).2.2 = 0 by rw [← ed]; omega) w.1)⟩) hB) eqX_rf

theorem c_fd_in {l : Launch} {G : Gx} {d : Nat} {σ : Sg} {Q : Option Value → Sg → Prop} {n i : Nat} {pt : Nat → Pt} {x3 : Int32} (hS : okStand σ n pt) (hn : n ≤ 40) (hP : ∀ i, i < n → ptOk (pt i)) (hL : okLns σ n pt) (hm : 0 < (prs n pt).length) (hx : x3.toInt = (i : Int)) (hil : i < (LPR (prs n pt) pt).length) (hnext : ∀ (x4 : Int32) (τ : Sg), BDC τ n pt (C2 n pt (i + 1) (i + 2)) → eqX 26 28 σ τ → Z l G M_X2_findDeepest (d + 5) 95 [some (.ref 26), some (.ref 11), some (.ref 18), some (.int x3), some (.int x4)] [] τ Q) : ∀ (f j : Nat) (x4 : Int32) (τ : Sg), x4.toInt = (j : Int) → i < j → j ≤ (LPR (prs n pt) pt).length → (LPR (prs n pt) pt).length - j < f → BDC τ n pt (C2 n pt i j) → eqX 26 28 σ τ → Z l G M_X2_findDeepest (d + 5) 71 [some (.ref 26), some (.ref 11), some (.ref 18), some (.int x3), some (.int x4)] [] τ Q := by
  intro f
  induction f with
  | zero => intro j x4 τ hj hij hjl hfu hB hE; omega
  | succ f ih =>
  intro j x4 τ hj hij hjl hfu hB hE
  have hlp := LPR_len (P := prs n pt) (pt := pt) (by have := prs_len n pt; omega)
  have hSt : okStand τ n pt := okStand_cong (c := True) (fun o h1 h3 => hE o (by omega)) (fun _ => hS) trivial
  have hLt : okLns τ n pt := okLns_cong (by rw [(hE 18 (by omega)).1]) (by rw [(hE 18 (by omega)).1]) (by rw [(hE 18 (by omega)).1]) (fun o h1 h3 => (hE o (by omega)).1) hL
  have h8 := hLt.1
  have hSn := hSt.1
  have hpl := prs_len n pt
  refine z_iload (pc := 71) dX2_findDeepest_71 rfl ?_
  refine z_aload_n (pc := 73) dX2_findDeepest_73 rfl ?_
  refine z_getI (pc := 74) dX2_findDeepest_74 fk_X2_67 rfl (by decide) (by decide) (by decide) ?_
  refine zq_icmp_ge (pc := 77) (tgt := 95) dX2_findDeepest_77 rfl rfl rfl (fun h77 => ?_) (fun h77 => ?_)
  · skip
    have e : j = (LPR (prs n pt) pt).length := by omega
    subst e
    exact hnext x4 τ (BDC_congr C2_row hB) hE
  · skip
    refine z_aload_n (pc := 80) dX2_findDeepest_80 rfl ?_
    refine z_aload_n (pc := 81) dX2_findDeepest_81 rfl ?_
    refine z_aload_n (pc := 82) dX2_findDeepest_82 rfl ?_
    refine z_iload_n (pc := 83) dX2_findDeepest_83 rfl ?_
    refine z_iload (pc := 84) dX2_findDeepest_84 rfl ?_
    refine z_iv4 (pc := 86) dX2_findDeepest_86 kv_X2_70 rfl (by decide) (by decide) rfl rfl ?_
    obtain ⟨y, hy⟩ : ∃ y, (LPR (prs n pt) pt)[i]? = some y := ⟨_, List.getElem?_eq_getElem hil⟩
    obtain ⟨z, hz⟩ : ∃ z, (LPR (prs n pt) pt)[j]? = some z := ⟨_, List.getElem?_eq_getElem (by omega)⟩
    obtain ⟨p0, hp0⟩ := prs_get (pt := pt) (n := n) (j := 0) hm
    refine c_X2_considerCrossing hSt hn hP hLt hB ⟨_, Or.inl ⟨0, p0, hm, hp0, rfl⟩⟩ hy hz hx hj (fun υ hBu uE => ?_)
    refine z_iincT (pc := 89) dX2_findDeepest_89 rfl rfl (by decide) (by decide) (by omega) (by omega) rfl rfl (fun v => by dsimp only [setI, setL, List.set]) (fun v89 e89 => ?_)
    refine z_goto (pc := 92) (tgt := 71) dX2_findDeepest_92 rfl ?_
    exact ih (j + 1) v89 υ (by omega) (by omega) (by omega) (by omega) (BDC_congr (C2_succ hij hy hz) hBu) (eqX_tr hE uE)

theorem c_fd_out {l : Launch} {G : Gx} {d : Nat} {σ : Sg} {Q : Option Value → Sg → Prop} {n : Nat} {pt : Nat → Pt} (hS : okStand σ n pt) (hn : n ≤ 40) (hP : ∀ i, i < n → ptOk (pt i)) (hL : okLns σ n pt) (hm : 0 < (prs n pt).length) (h : ∀ τ, okDepths τ n pt → τ.1 26 2 = 1 → eqX 26 28 σ τ → Q none τ) : ∀ (f i : Nat) (x3 : Int32) (y4 : Option Value) (τ : Sg), x3.toInt = (i : Int) → i ≤ (LPR (prs n pt) pt).length → (LPR (prs n pt) pt).length - i < f → BDC τ n pt (C2 n pt i (i + 1)) → eqX 26 28 σ τ → Z l G M_X2_findDeepest (d + 5) 58 [some (.ref 26), some (.ref 11), some (.ref 18), some (.int x3), y4] [] τ Q := by
  intro f
  induction f with
  | zero => intro i x3 y4 τ hx hil hfu hB hE; omega
  | succ f ih =>
  intro i x3 y4 τ hx hil hfu hB hE
  refine z_sub (L' := [some _, some _, some _, some _, none]) ⟨rfl, rfl, rfl, rfl, trivial⟩ ?_
  have hlp := LPR_len (P := prs n pt) (pt := pt) (by have := prs_len n pt; omega)
  have hSt : okStand τ n pt := okStand_cong (c := True) (fun o h1 h3 => hE o (by omega)) (fun _ => hS) trivial
  have hLt : okLns τ n pt := okLns_cong (by rw [(hE 18 (by omega)).1]) (by rw [(hE 18 (by omega)).1]) (by rw [(hE 18 (by omega)).1]) (fun o h1 h3 => (hE o (by omega)).1) hL
  have h8 := hLt.1
  have hSn := hSt.1
  have hpl := prs_len n pt
  refine z_iload_n (pc := 58) dX2_findDeepest_58 rfl ?_
  refine z_aload_n (pc := 59) dX2_findDeepest_59 rfl ?_
  refine z_getI (pc := 60) dX2_findDeepest_60 fk_X2_67 rfl (by decide) (by decide) (by decide) ?_
  refine zq_icmp_ge (pc := 63) (tgt := 101) dX2_findDeepest_63 rfl rfl rfl (fun h63 => ?_) (fun h63 => ?_)
  · skip
    refine z_aload_n (pc := 101) dX2_findDeepest_101 rfl ?_
    refine z_iconst (pc := 102) (v := 1) dX2_findDeepest_102 (by decide) ?_
    refine z_putB (pc := 103) dX2_findDeepest_103 fk_X2_74 rfl (by decide) (by decide) (by decide) (by decide) ?_
    refine z_vret (pc := 106) dX2_findDeepest_106 rfl ?_
    have hC : BDC τ n pt (cand n pt) := BDC_congr (C2_cand (by omega)) hB
    refine h _ ?_ (uI_eq _ _ _ _) (eqX_uI hE (by omega) (by omega))
    obtain ⟨p0, hp0⟩ := prs_get (pt := pt) (n := n) (j := 0) hm
    rcases hC.2.2 with z | z
    · exact absurd (Or.inl ⟨p0, List.mem_of_getElem? hp0, rfl⟩) (z.1 _)
    · unfold okDepths
      rw [uI_nk (by omega)]
      exact z.1
  · skip
    refine z_iload_n (pc := 66) dX2_findDeepest_66 rfl ?_
    refine z_iconst (pc := 67) (v := 1) dX2_findDeepest_67 (by decide) ?_
    refine z_iaddT (pc := 68) (cy := 1) dX2_findDeepest_68 rfl (by decide) (by omega) (by omega) (fun v68 e68 => ?_)
    refine z_istore (pc := 69) dX2_findDeepest_69 rfl rfl (by dsimp only [setI, setL, List.set]) ?_
    refine c_fd_in hSt hn hP hLt hm hx (by omega) ?_ ((LPR (prs n pt) pt).length + 1) (i + 1) v68 τ (by omega) (by omega) (by omega) (by omega) hB eqX_rf
    intro z4 υ hBu uE
    refine z_iincT (pc := 95) dX2_findDeepest_95 rfl rfl (by decide) (by decide) (by omega) (by omega) rfl rfl (fun v => by dsimp only [setI, setL, List.set]) (fun v95 e95 => ?_)
    refine z_goto (pc := 98) (tgt := 58) dX2_findDeepest_98 rfl ?_
    exact ih (i + 1) v95 _ υ (by omega) (by omega) (by omega) hBu (eqX_tr hE uE)

theorem c_fd_p {l : Launch} {G : Gx} {d : Nat} {σ : Sg} {Q : Option Value → Sg → Prop} {n : Nat} {pt : Nat → Pt} (hS : okStand σ n pt) (hn : n ≤ 40) (hP : ∀ i, i < n → ptOk (pt i)) (hL : okLns σ n pt) (hm : 0 < (prs n pt).length) (h : ∀ τ, okDepths τ n pt → τ.1 26 2 = 1 → eqX 26 28 σ τ → Q none τ) : ∀ (f k : Nat) (x3 : Int32) (τ : Sg), x3.toInt = (k : Int) → k ≤ (prs n pt).length → (prs n pt).length - k < f → BDC τ n pt (C1 n pt k) → eqX 26 28 σ τ → Z l G M_X2_findDeepest (d + 5) 22 [some (.ref 26), some (.ref 11), some (.ref 18), some (.int x3), none] [] τ Q := by
  intro f
  induction f with
  | zero => intro k x3 τ hk hkl hfu hB hE; omega
  | succ f ih =>
  intro k x3 τ hk hkl hfu hB hE
  have hlp := LPR_len (P := prs n pt) (pt := pt) (by have := prs_len n pt; omega)
  have hSt : okStand τ n pt := okStand_cong (c := True) (fun o h1 h3 => hE o (by omega)) (fun _ => hS) trivial
  have hLt : okLns τ n pt := okLns_cong (by rw [(hE 18 (by omega)).1]) (by rw [(hE 18 (by omega)).1]) (by rw [(hE 18 (by omega)).1]) (fun o h1 h3 => (hE o (by omega)).1) hL
  have h8 := hLt.1
  have hSn := hSt.1
  have hpl := prs_len n pt
  refine z_iload_n (pc := 22) dX2_findDeepest_22 rfl ?_
  refine z_aload_n (pc := 23) dX2_findDeepest_23 rfl ?_
  refine z_getI (pc := 24) dX2_findDeepest_24 fk_X2_18 rfl (by decide) (by decide) (by decide) ?_
  refine zq_icmp_ge (pc := 27) (tgt := 56) dX2_findDeepest_27 rfl rfl rfl (fun h27 => ?_) (fun h27 => ?_)
  · skip
    refine z_iconst (pc := 56) (v := 0) dX2_findDeepest_56 (by decide) ?_
    refine z_istore_n (pc := 57) dX2_findDeepest_57 rfl rfl (by dsimp only [setI, setL, List.set]) ?_
    have e : k = (prs n pt).length := by omega
    subst e
    exact c_fd_out hSt hn hP hLt hm (fun υ ho u2 uE => h υ ho u2 (eqX_tr hE uE)) ((LPR (prs n pt) pt).length + 1) 0 0 _ τ (by decide) (by omega) (by omega) (BDC_congr (fun c => ⟨Or.inl, fun w => w.elim id (fun ⟨i', j', y', z', h1, h2, _⟩ => absurd h2 (by omega))⟩) hB) eqX_rf
  · skip
    refine z_aload_n (pc := 30) dX2_findDeepest_30 rfl ?_
    refine z_aload_n (pc := 31) dX2_findDeepest_31 rfl ?_
    refine z_aload_n (pc := 32) dX2_findDeepest_32 rfl ?_
    refine z_getR (pc := 33) (t := 13) dX2_findDeepest_33 fk_X2_24 rfl (by decide) (by decide) (by decide) rfl ?_
    refine z_iload_n (pc := 36) dX2_findDeepest_36 rfl ?_
    refine z_ialdN (pc := 37) k dX2_findDeepest_37 rfl (by decide) hk (by show _ < 40; omega) ?_
    refine z_i2lT (pc := 38) dX2_findDeepest_38 rfl (fun v38 e38 => ?_)
    refine z_aload_n (pc := 39) dX2_findDeepest_39 rfl ?_
    refine z_getR (pc := 40) (t := 14) dX2_findDeepest_40 fk_X2_28 rfl (by decide) (by decide) (by decide) rfl ?_
    refine z_iload_n (pc := 43) dX2_findDeepest_43 rfl ?_
    refine z_ialdN (pc := 44) k dX2_findDeepest_44 rfl (by decide) hk (by show _ < 40; omega) ?_
    refine z_i2lT (pc := 45) dX2_findDeepest_45 rfl (fun v45 e45 => ?_)
    refine z_lconst (pc := 46) (v := 1) dX2_findDeepest_46 (by decide) ?_
    refine z_iv4 (pc := 47) dX2_findDeepest_47 kv_X2_63 rfl (by decide) (by decide) rfl rfl ?_
    obtain ⟨p, hp⟩ := prs_get (pt := pt) (n := n) (j := k) (by omega)
    have hxy := st_xy hSt hp
    have hok := st_ok hP hp
    have ex : v38.toInt = (pt p).1.toInt := by rw [e38, hxy.1]
    have ey : v45.toInt = (pt p).2.1.toInt := by rw [e45, hxy.2]
    have e1 : (1 : Int64).toInt = 1 := rfl
    have ecc : (v38.toInt, v45.toInt, (1 : Int64).toInt) = ((pt p).1.toInt, (pt p).2.1.toInt, 1) := by rw [ex, ey, e1]
    refine c_X2_consider (C := C1 n pt k) hSt hn hP hB (by rw [ecc]; unfold bnd; dsimp only; omega) (Or.inr (by rw [ecc]; exact depA_plant hP (List.mem_of_getElem? hp))) (fun υ hBu uE => ?_)
    rw [ecc] at hBu
    refine z_iincT (pc := 50) dX2_findDeepest_50 rfl rfl (by decide) (by decide) (by omega) (by omega) rfl rfl (fun v => by dsimp only [setI, setL, List.set]) (fun v50 e50 => ?_)
    refine z_goto (pc := 53) (tgt := 22) dX2_findDeepest_53 rfl ?_
    exact ih (k + 1) v50 υ (by omega) (by omega) (by omega) (BDC_congr (C1_succ hp) hBu) (eqX_tr hE uE)

theorem c_X2_findDeepest {l : Launch} {G : Gx} {d : Nat} {σ : Sg} {Q : Option Value → Sg → Prop} {n : Nat} {pt : Nat → Pt} (hS : okStand σ n pt) (hn : n ≤ 40) (hP : ∀ i, i < n → ptOk (pt i)) (hL : okLns σ n pt) (hm : 0 < (prs n pt).length) (h : ∀ τ, okDepths τ n pt → τ.1 26 2 = 1 → eqX 26 28 σ τ → Q none τ)  : Z l G M_X2_findDeepest (d + 5) 0 [some (.ref 26), some (.ref 11), some (.ref 18)] [] σ Q := by
  refine z_sub (L' := [some (.ref 26), some (.ref 11), some (.ref 18), none, none]) ⟨rfl, rfl, rfl, trivial⟩ ?_
  refine z_aload_n (pc := 0) dX2_findDeepest_0 rfl ?_
  refine z_iconst (pc := 1) (v := 0) dX2_findDeepest_1 (by decide) ?_
  refine z_putI (pc := 2) dX2_findDeepest_2 fk_X2_52 rfl (by decide) (by decide) (by decide) ?_
  refine z_aload_n (pc := 5) dX2_findDeepest_5 rfl ?_
  refine z_lconst (pc := 6) (v := 0) dX2_findDeepest_6 (by decide) ?_
  refine z_putJ (pc := 7) dX2_findDeepest_7 fk_X2_55 rfl (by decide) (by decide) (by decide) ?_
  refine z_aload_n (pc := 10) dX2_findDeepest_10 rfl ?_
  refine z_lconst (pc := 11) (v := 0) dX2_findDeepest_11 (by decide) ?_
  refine z_putJ (pc := 12) dX2_findDeepest_12 fk_X2_58 rfl (by decide) (by decide) (by decide) ?_
  refine z_aload_n (pc := 15) dX2_findDeepest_15 rfl ?_
  refine z_lconst (pc := 16) (v := 1) dX2_findDeepest_16 (by decide) ?_
  refine z_putJ (pc := 17) dX2_findDeepest_17 fk_X2_60 rfl (by decide) (by decide) (by decide) ?_
  refine z_iconst (pc := 20) (v := 0) dX2_findDeepest_20 (by decide) ?_
  refine z_istore_n (pc := 21) dX2_findDeepest_21 rfl rfl (by dsimp only [setI, setL, List.set]) ?_
  have hE : eqX 26 28 σ (uJ (uJ (uJ (uI σ 26 3 0) 26 4 0) 26 5 0) 26 6 1) := eqX_uJ (eqX_uJ (eqX_uJ (eqX_uI eqX_rf (by omega) (by omega)) (by omega) (by omega)) (by omega) (by omega)) (by omega) (by omega)
  have hSt : okStand (uJ (uJ (uJ (uI σ 26 3 0) 26 4 0) 26 5 0) 26 6 1) n pt := okStand_cong (c := True) (fun o h1 h3 => hE o (by omega)) (fun _ => hS) trivial
  have hLt : okLns (uJ (uJ (uJ (uI σ 26 3 0) 26 4 0) 26 5 0) 26 6 1) n pt := okLns_cong (by rw [(hE 18 (by omega)).1]) (by rw [(hE 18 (by omega)).1]) (by rw [(hE 18 (by omega)).1]) (fun o h1 h3 => (hE o (by omega)).1) hL
  refine c_fd_p hSt hn hP hLt hm (fun υ ho u2 uE => h υ ho u2 (eqX_tr hE uE)) ((prs n pt).length + 1) 0 0 _ (by decide) (by omega) (by omega) ?_ eqX_rf
  refine ⟨(by unfold bnd; decide : bnd (0, 0, 1)), fun c hc => ?_, Or.inl ⟨fun c hc => ?_, ?_⟩⟩
  · obtain ⟨j', i', h1, _⟩ := hc; omega
  · obtain ⟨j', i', h1, _⟩ := hc; omega
  · show -1 ≤ (0 : Int32).toInt ∧ (0 : Int32).toInt ≤ 0; decide

theorem c_X2_tell {l : Launch} {G : Gx} {d : Nat} {σ : Sg} {Q : Option Value → Sg → Prop} {n : Nat} {pt : Nat → Pt} {x1 : Int32} (hP : ∀ i, i < n → ptOk (pt i)) (hD : okDepths σ n pt) (hx : 0 ≤ x1.toInt ∧ x1.toInt < 5) (h : ∀ r : Int64, r.toInt = dTell x1.toInt (σ.1 26 3).toInt (dB σ) → Q (some (.long r)) σ) : Z l G M_X2_tell (d + 2) 0 [some (.ref 26), some (.int x1)] [] σ Q := by
  have hcb := cand_B hP hD.1
  have hd0 : 0 < (σ.2 26 6).toInt := by have := hcb.2.2.2.2.1; show 0 < (((σ.2 26 4).toInt, (σ.2 26 5).toInt, (σ.2 26 6).toInt) : Int × Int × Int).2.2; omega
  unfold bnd at hcb
  dsimp only at hcb
  have g1 := gg_pos (A := (σ.2 26 4).toInt) (B := (σ.2 26 6).toInt) (Or.inr (by omega))
  have g2 := gg_pos (A := (σ.2 26 5).toInt) (B := (σ.2 26 6).toInt) (Or.inr (by omega))
  have c1 : gg (σ.2 26 6).toInt (σ.2 26 4).toInt = gg (σ.2 26 4).toInt (σ.2 26 6).toInt := Nat.gcd_comm _ _
  have c2 : gg (σ.2 26 6).toInt (σ.2 26 5).toInt = gg (σ.2 26 5).toInt (σ.2 26 6).toInt := Nat.gcd_comm _ _
  have p40 : 500000000 < 2 ^ 40 := by decide
  refine z_sub (L' := [some (.ref 26), some (.int x1)]) ⟨rfl, rfl, trivial⟩ ?_
  refine z_iload_n (pc := 0) dX2_tell_0 rfl ?_
  rcases (show x1.toInt = 0 ∨ x1.toInt = 1 ∨ x1.toInt = 2 ∨ x1.toInt = 3 ∨ (x1.toInt < 0 ∨ 3 < x1.toInt) by omega) with ek | ek | ek | ek | ek
  · refine zq_swIn (pc := 1) (c := 0) (tgt := 32) dX2_tell_1 ek (by decide) (by decide) rfl rfl ?_
    refine z_aload_n (pc := 32) dX2_tell_32 rfl ?_
    refine z_getI (pc := 33) dX2_tell_33 fk_X2_52 rfl (by decide) (by decide) (by decide) ?_
    refine z_i2lT (pc := 36) dX2_tell_36 rfl (fun v36 e36 => ?_)
    refine z_lret (pc := 37) dX2_tell_37 rfl ?_
    exact h _ (by rw [show dTell x1.toInt (σ.1 26 3).toInt (dB σ) = _ from if_pos ek]; exact e36)
  · refine zq_swIn (pc := 1) (c := 1) (tgt := 38) dX2_tell_1 ek (by decide) (by decide) rfl rfl ?_
    refine z_aload_n (pc := 38) dX2_tell_38 rfl ?_
    refine z_getJ (pc := 39) dX2_tell_39 fk_X2_55 rfl (by decide) (by decide) (by decide) ?_
    refine z_aload_n (pc := 42) dX2_tell_42 rfl ?_
    refine z_getJ (pc := 43) dX2_tell_43 fk_X2_60 rfl (by decide) (by decide) (by decide) ?_
    refine z_is2 (pc := 46) dX2_tell_46 ks_X2_95 rfl rfl ?_
    refine c_without (by omega) (by omega) (by omega) (fun rw_ erw => ?_)
    refine z_lret (pc := 49) dX2_tell_49 rfl ?_
    exact h _ (by rw [show dTell x1.toInt (σ.1 26 3).toInt (dB σ) = _ from (if_neg (by omega)).trans (if_pos ek)]; exact erw)
  · refine zq_swIn (pc := 1) (c := 2) (tgt := 50) dX2_tell_1 ek (by decide) (by decide) rfl rfl ?_
    refine z_aload_n (pc := 50) dX2_tell_50 rfl ?_
    refine z_getJ (pc := 51) dX2_tell_51 fk_X2_60 rfl (by decide) (by decide) (by decide) ?_
    refine z_aload_n (pc := 54) dX2_tell_54 rfl ?_
    refine z_getJ (pc := 55) dX2_tell_55 fk_X2_55 rfl (by decide) (by decide) (by decide) ?_
    refine z_is2 (pc := 58) dX2_tell_58 ks_X2_95 rfl rfl ?_
    refine c_without (by omega) (by omega) (by omega) (fun rw_ erw => ?_)
    refine z_lret (pc := 61) dX2_tell_61 rfl ?_
    exact h _ (by rw [show dTell x1.toInt (σ.1 26 3).toInt (dB σ) = _ from (if_neg (by omega)).trans ((if_neg (by omega)).trans (if_pos ek))]; exact (by rw [c1] at erw; exact erw))
  · refine zq_swIn (pc := 1) (c := 3) (tgt := 62) dX2_tell_1 ek (by decide) (by decide) rfl rfl ?_
    refine z_aload_n (pc := 62) dX2_tell_62 rfl ?_
    refine z_getJ (pc := 63) dX2_tell_63 fk_X2_58 rfl (by decide) (by decide) (by decide) ?_
    refine z_aload_n (pc := 66) dX2_tell_66 rfl ?_
    refine z_getJ (pc := 67) dX2_tell_67 fk_X2_60 rfl (by decide) (by decide) (by decide) ?_
    refine z_is2 (pc := 70) dX2_tell_70 ks_X2_95 rfl rfl ?_
    refine c_without (by omega) (by omega) (by omega) (fun rw_ erw => ?_)
    refine z_lret (pc := 73) dX2_tell_73 rfl ?_
    exact h _ (by rw [show dTell x1.toInt (σ.1 26 3).toInt (dB σ) = _ from (if_neg (by omega)).trans ((if_neg (by omega)).trans ((if_neg (by omega)).trans (if_pos ek)))]; exact erw)
  · refine zq_swOut (pc := 1) (tgt := 74) dX2_tell_1 ek rfl ?_
    refine z_aload_n (pc := 74) dX2_tell_74 rfl ?_
    refine z_getJ (pc := 75) dX2_tell_75 fk_X2_60 rfl (by decide) (by decide) (by decide) ?_
    refine z_aload_n (pc := 78) dX2_tell_78 rfl ?_
    refine z_getJ (pc := 79) dX2_tell_79 fk_X2_58 rfl (by decide) (by decide) (by decide) ?_
    refine z_is2 (pc := 82) dX2_tell_82 ks_X2_95 rfl rfl ?_
    refine c_without (by omega) (by omega) (by omega) (fun rw_ erw => ?_)
    refine z_lret (pc := 85) dX2_tell_85 rfl ?_
    exact h _ (by rw [show dTell x1.toInt (σ.1 26 3).toInt (dB σ) = _ from (if_neg (by omega)).trans ((if_neg (by omega)).trans ((if_neg (by omega)).trans (if_neg (by omega))))]; exact (by rw [c2] at erw; exact erw))

theorem rC_deep {σ τ : Sg} {a : Ab} (h : rC σ a) (hE : eqX 26 28 σ τ) (hD : τ.1 26 2 ≠ 0 → okDepths τ a.1.1 a.1.2) : rC τ a := by
  obtain ⟨r1, r2, r3, r4, r5, r6, r7, r8⟩ := h
  refine ⟨rcP_cong (by rw [(hE 0 (by omega)).1]) (fun i hi => (hE _ (by omega)).1) r1, rcB_cong (fun o h1 h2 => hE o (by omega)) r2, by rw [(hE 0 (by omega)).1]; exact r3, rcT_cong (fun o h1 h2 => (hE o (by omega)).1) r4, rcL_cong (hE 10 (by omega)).1 r5, rcU_cong (hE 4 (by omega)).1 (hE 5 (by omega)).1 r6, ⟨?_, ?_, ?_, hD, ?_⟩, fun o h1 h2 => by rw [(hE o (by omega)).1]; exact r8 o h1 h2⟩
  · rw [(hE 11 (by omega)).1]; exact okStand_cong (fun o h1 h2 => hE o (by omega)) r7.1
  · rw [(hE 18 (by omega)).1]; exact okLines_cong (fun o h1 h2 => hE o (by omega)) r7.2.1
  · rw [(hE 24 (by omega)).1]; exact okLayers_cong (fun o h1 h2 => hE o (by omega)) r7.2.2.1
  · rw [(hE 29 (by omega)).1]; exact okStrips_cong (fun o h1 h2 => hE o (by omega)) r7.2.2.2.2

theorem c_X10_deepest {l : Launch} {G : Gx} {d : Nat} {σ : Sg} {Q : Option Value → Sg → Prop} {a : Ab} {x1 : Int32} (hr : rC σ a) (hk : abOk a) (h : ∀ (r : Int64) (τ : Sg), sDeepest a x1 r.toInt → rC τ a → eqM σ τ → Q (some (.long r)) τ) : Z l G M_X10_deepest (d + 6) 0 [some (.ref 0), some (.int x1)] [] σ Q := by
  refine z_sub (L' := [some (.ref 0), some (.int x1)]) ⟨rfl, rfl, trivial⟩ ?_
  refine z_iload_n (pc := 0) dX10_deepest_0 rfl ?_
  refine z_iconst (pc := 1) (v := 5) dX10_deepest_1 (by decide) ?_
  refine z_is2 (pc := 2) dX10_deepest_2 ks_X10_88 rfl rfl ?_
  refine c_X10_isBelow (b := 5) (fun q2 => ?_) (fun q2 => ?_)
  · skip
    refine z_if_ne (pc := 5) (tgt := 12) dX10_deepest_5 rfl (fun _ => ?_) (fun hc => absurd hc (by decide))
    refine z_aload_n (pc := 12) dX10_deepest_12 rfl ?_
    refine z_iv0 (pc := 13) dX10_deepest_13 kv_X10_165 rfl (by decide) (by decide) rfl rfl ?_
    refine c_X10_gathered hk.1 hr.1 hr.2.2.2.2.2.2.1.1 (fun τ hS hkn hE => ?_)
    have hrt := rC_gath hr hE hS
    have hSn := hS.1
    have h55 : (5 : Int32).toInt = 5 := rfl
    have eMt := eqX_M hE (by omega) (by omega)
    refine z_getI (pc := 16) dX10_deepest_16 fk_X10_169 rfl (by decide) (by decide) (by decide) ?_
    refine zq_if_ne (pc := 19) (tgt := 26) dX10_deepest_19 rfl rfl (fun h19 => ?_) (fun h19 => ?_)
    · skip
      refine z_aload_n (pc := 26) dX10_deepest_26 rfl ?_
      refine z_getR (pc := 27) (t := 11) dX10_deepest_27 fk_X10_52 rfl (by decide) (by decide) (by decide) rfl ?_
      refine z_getI (pc := 30) dX10_deepest_30 fk_X10_169 rfl (by decide) (by decide) (by decide) ?_
      refine z_bipush (pc := 33) (v := 12) dX10_deepest_33 (by decide) ?_
      refine zq_icmp_le (pc := 35) (cy := 12) (tgt := 42) dX10_deepest_35 rfl rfl (by decide) (fun h35 => ?_) (fun h35 => ?_)
      · skip
        refine z_aload_n (pc := 42) dX10_deepest_42 rfl ?_
        refine z_getR (pc := 43) (t := 26) dX10_deepest_43 fk_X10_73 rfl (by decide) (by decide) (by decide) rfl ?_
        refine z_getI (pc := 46) dX10_deepest_46 fk_X10_273 rfl (by decide) (by decide) (by decide) ?_
        refine zq_if_ne (pc := 49) (tgt := 67) dX10_deepest_49 rfl rfl (fun h49 => ?_) (fun h49 => ?_)
        · skip
          refine z_aload_n (pc := 67) dX10_deepest_67 rfl ?_
          refine z_getR (pc := 68) (t := 26) dX10_deepest_68 fk_X10_73 rfl (by decide) (by decide) (by decide) rfl ?_
          refine z_iload_n (pc := 71) dX10_deepest_71 rfl ?_
          refine z_iv1 (pc := 72) dX10_deepest_72 kv_X10_280 rfl (by decide) (by decide) rfl rfl ?_
          have hD := hrt.2.2.2.2.2.2.1.2.2.2.1 (fun z => h49 (by rw [z]; rfl))
          refine c_X2_tell hk.2.1 hD (by omega) (fun rt ert => ?_)
          refine z_lret (pc := 75) dX10_deepest_75 rfl ?_
          exact h _ _ (by unfold sDeepest; rw [if_neg (by omega), if_neg (by omega), if_neg (by omega)]; exact ⟨_, dB τ, hD, (by have := (cand_B hk.2.1 hD.1).2.2.2.2.1; show 0 < (((τ.2 26 4).toInt, (τ.2 26 5).toInt, (τ.2 26 6).toInt) : Int × Int × Int).2.2; omega), ert⟩) hrt eMt
        · skip
          refine z_aload_n (pc := 52) dX10_deepest_52 rfl ?_
          refine z_getR (pc := 53) (t := 26) dX10_deepest_53 fk_X10_73 rfl (by decide) (by decide) (by decide) rfl ?_
          refine z_aload_n (pc := 56) dX10_deepest_56 rfl ?_
          refine z_getR (pc := 57) (t := 11) dX10_deepest_57 fk_X10_52 rfl (by decide) (by decide) (by decide) rfl ?_
          refine z_aload_n (pc := 60) dX10_deepest_60 rfl ?_
          refine z_iv0 (pc := 61) dX10_deepest_61 kv_X10_253 rfl (by decide) (by decide) rfl rfl ?_
          have hca := hrt.2.2.2.2.2.2.1
          refine c_X10_joined hk.1 hrt.1 hk.2.1 hca.1 hca.2.1 (fun υ hl hl7 hst hkk uE => ?_)
          have hSu : okStand υ a.1.1 a.1.2 := hst (hkk hkn)
          have hru : rC υ a := rC_join hrt uE hst (fun _ => hl)
          refine z_iv2 (pc := 64) dX10_deepest_64 kv_X10_276 rfl (by decide) (by decide) rfl rfl ?_
          refine c_X2_findDeepest hSu hk.1 hk.2.1 hl.1 (by omega) (fun ω hD w2 wE => ?_)
          have hrw : rC ω a := rC_deep hru wE (fun _ => hD)
          have eMw : eqM σ ω := eqM_tr eMt (eqM_tr (eqX_M uE (by omega) (by omega)) (eqX_M wE (by omega) (by omega)))
          refine z_aload_n (pc := 67) dX10_deepest_67 rfl ?_
          refine z_getR (pc := 68) (t := 26) dX10_deepest_68 fk_X10_73 rfl (by decide) (by decide) (by decide) rfl ?_
          refine z_iload_n (pc := 71) dX10_deepest_71 rfl ?_
          refine z_iv1 (pc := 72) dX10_deepest_72 kv_X10_280 rfl (by decide) (by decide) rfl rfl ?_
          refine c_X2_tell hk.2.1 hD (by omega) (fun rt ert => ?_)
          refine z_lret (pc := 75) dX10_deepest_75 rfl ?_
          exact h _ _ (by unfold sDeepest; rw [if_neg (by omega), if_neg (by omega), if_neg (by omega)]; exact ⟨_, dB ω, hD, (by have := (cand_B hk.2.1 hD.1).2.2.2.2.1; show 0 < (((ω.2 26 4).toInt, (ω.2 26 5).toInt, (ω.2 26 6).toInt) : Int × Int × Int).2.2; omega), ert⟩) hrw eMw
      · skip
        refine z_ldc2 (pc := 38) dX10_deepest_38 kc_X10_271 ?_
        refine z_lret (pc := 41) dX10_deepest_41 rfl ?_
        exact h _ _ (by unfold sDeepest; rw [if_neg (by omega), if_neg (by omega), if_pos (by omega)]; rfl) hrt eMt
    · skip
      refine z_ldc2 (pc := 22) dX10_deepest_22 kc_X10_269 ?_
      refine z_lret (pc := 25) dX10_deepest_25 rfl ?_
      exact h _ _ (by unfold sDeepest; rw [if_neg (by omega), if_pos (by omega)]; rfl) hrt eMt
  · skip
    refine z_if_ne (pc := 5) (tgt := 12) dX10_deepest_5 rfl (fun hc => absurd hc (by decide)) (fun _ => ?_)
    refine z_ldc2 (pc := 8) dX10_deepest_8 kc_X10_104 ?_
    refine z_lret (pc := 11) dX10_deepest_11 rfl ?_
    have h55 : (5 : Int32).toInt = 5 := rfl
    exact h _ _ (by unfold sDeepest; rw [if_pos (by omega)]; rfl) hr eqM_rf
