/-! layers, told, count: what both sides answer -/
noncomputable def nLY (P : List Nat) (pt : Nat → Pt) : Nat := Classical.epsilon (isNL P pt)
theorem nLY_eq {P : List Nat} {pt : Nat → Pt} {r : Nat} (h : isNL P pt r) : nLY P pt = r := isNL_uniq (Classical.epsilon_spec ⟨r, h⟩) h
noncomputable def sLayer (a : Ab) (w : Int32) : Int := if w.toInt < 1 then -1000001 else (inLy (prs a.1.1 a.1.2) a.1.2 (nLY (prs a.1.1 a.1.2) a.1.2) w.toInt : Int)
noncomputable def toldV (a : Ab) (w : Int) (i : Nat) : Int := if w = 0 then (a.1.2 i).1.toInt else if w = 1 then (a.1.2 i).2.1.toInt else if w = 2 then (a.1.2 i).2.2.1.toInt else (LY (prs a.1.1 a.1.2) a.1.2 (nLY (prs a.1.1 a.1.2) a.1.2) i : Int)
noncomputable def sTold (a : Ab) (p w : Int32) : Int × Ab := sGiv a p (in03 w.toInt 4) (fun i => (toldV a w.toInt i, stat a 0))
def bdN (bd : Nat → Bd) : Nat → Nat
  | 0 => 0
  | k + 1 => bdN bd k + (if (bd k).1 = 0 then 0 else 1)
theorem bdN_le (bd : Nat → Bd) : ∀ k, bdN bd k ≤ k
  | 0 => Nat.le_refl _
  | k + 1 => by have := bdN_le bd k; unfold bdN; split <;> omega
noncomputable def sCount (a : Ab) (w : Int32) : Int := if w.toInt = 0 then ((prs a.1.1 a.1.2).length : Int) else if w.toInt = 1 then (a.1.1 : Int) else if w.toInt = 2 then (bdN a.2.1 8 : Int) else if w.toInt = 3 then (nLY (prs a.1.1 a.1.2) a.1.2 : Int) else if w.toInt = 4 then sumW a.1.1 a.1.2 0 else if w.toInt = 5 then sumW a.1.1 a.1.2 1 else if w.toInt = 6 then sumW a.1.1 a.1.2 2 else -1000001
theorem rC_peel {σ τ : Sg} {a : Ab} (h : rC σ a) (hE : eqX 24 25 σ τ) (hL : τ.1 24 1 ≠ 0 → okLayers τ a.1.1 a.1.2) : rC τ a := by
  obtain ⟨r1, r2, r3, r4, r5, r6, r7, r8⟩ := h
  refine ⟨rcP_cong (by rw [(hE 0 (by omega)).1]) (fun i hi => (hE _ (by omega)).1) r1, rcB_cong (fun o h1 h2 => hE o (by omega)) r2, by rw [(hE 0 (by omega)).1]; exact r3, rcT_cong (fun o h1 h2 => (hE o (by omega)).1) r4, rcL_cong (hE 10 (by omega)).1 r5, rcU_cong (hE 4 (by omega)).1 (hE 5 (by omega)).1 r6, ⟨?_, ?_, hL, ?_, ?_⟩, fun o h1 h2 => by rw [(hE o (by omega)).1]; exact r8 o h1 h2⟩
  · rw [(hE 11 (by omega)).1]; exact okStand_cong (fun o h1 h2 => hE o (by omega)) r7.1
  · rw [(hE 18 (by omega)).1]; exact okLines_cong (fun o h1 h2 => hE o (by omega)) r7.2.1
  · rw [(hE 26 (by omega)).1]; exact okDepths_cong (fun o h1 h2 => hE o (by omega)) r7.2.2.2.1
  · rw [(hE 29 (by omega)).1]; exact okStrips_cong (fun o h1 h2 => hE o (by omega)) r7.2.2.2.2

theorem c_X10_peeled {l : Launch} {G : Gx} {d : Nat} {σ : Sg} {Q : Option Value → Sg → Prop} {a : Ab} (hr : rC σ a) (hk : abOk a) (h : ∀ τ, rC τ a → okLayers τ a.1.1 a.1.2 → eqX 11 25 σ τ → Q (some (.ref 24)) τ) : Z l G M_X10_peeled (d + 5) 0 [some (.ref 0)] [] σ Q := by
  refine z_sub (L' := [some (.ref 0)]) ⟨rfl, trivial⟩ ?_
  refine z_aload_n (pc := 0) dX10_peeled_0 rfl ?_
  refine z_getR (pc := 1) (t := 24) dX10_peeled_1 fk_X10_66 rfl (by decide) (by decide) (by decide) rfl ?_
  refine z_getI (pc := 4) dX10_peeled_4 fk_X10_316 rfl (by decide) (by decide) (by decide) ?_
  refine zq_if_ne (pc := 7) (tgt := 21) dX10_peeled_7 rfl rfl (fun h7 => ?_) (fun h7 => ?_)
  · skip
    refine z_aload_n (pc := 21) dX10_peeled_21 rfl ?_
    refine z_getR (pc := 22) (t := 24) dX10_peeled_22 fk_X10_66 rfl (by decide) (by decide) (by decide) rfl ?_
    refine z_aret (pc := 25) dX10_peeled_25 rfl (by first | exact Or.inl ⟨_, rfl⟩ | exact Or.inr ⟨_, rfl⟩) ?_
    first | exact h _ hru hL (eqX_tr (eqX_wide hE (by omega) (by omega)) (eqX_wide uE (by omega) (by omega))) | exact h _ hr (hr.2.2.2.2.2.2.1.2.2.1 (fun z => h7 (by rw [z]; rfl))) eqX_rf
  · skip
    refine z_aload_n (pc := 10) dX10_peeled_10 rfl ?_
    refine z_getR (pc := 11) (t := 24) dX10_peeled_11 fk_X10_66 rfl (by decide) (by decide) (by decide) rfl ?_
    refine z_aload_n (pc := 14) dX10_peeled_14 rfl ?_
    refine z_iv0 (pc := 15) dX10_peeled_15 kv_X10_165 rfl (by decide) (by decide) rfl rfl ?_
    refine c_X10_gathered hk.1 hr.1 hr.2.2.2.2.2.2.1.1 (fun τ hS hkn hE => ?_)
    have hrt := rC_gath hr hE hS
    refine z_iv1 (pc := 18) dX10_peeled_18 kv_X10_324 rfl (by decide) (by decide) rfl rfl ?_
    refine c_X3_peel hS hk.2.1 hk.1 (fun υ hL h24 uE => ?_)
    have hru := rC_peel hrt uE (fun _ => hL)
    refine z_aload_n (pc := 21) dX10_peeled_21 rfl ?_
    refine z_getR (pc := 22) (t := 24) dX10_peeled_22 fk_X10_66 rfl (by decide) (by decide) (by decide) rfl ?_
    refine z_aret (pc := 25) dX10_peeled_25 rfl (by first | exact Or.inl ⟨_, rfl⟩ | exact Or.inr ⟨_, rfl⟩) ?_
    first | exact h _ hru hL (eqX_tr (eqX_wide hE (by omega) (by omega)) (eqX_wide uE (by omega) (by omega))) | exact h _ hr (hr.2.2.2.2.2.2.1.2.2.1 (fun z => h7 (by rw [z]; rfl))) eqX_rf

theorem c_placeOf_loop {l : Launch} {G : Gx} {d : Nat} {σ : Sg} {Q : Option Value → Sg → Prop} {n i j : Nat} {pt : Nat → Pt} {x1 : Int32} (hS : okStand σ n pt) (hn : n ≤ 40) (hj : (prs n pt)[j]? = some i) (hx : x1.toInt = (i : Int)) (h : ∀ r : Int32, r.toInt = (j : Int) → Q (some (.int r)) σ) : ∀ (f k : Nat) (x2 : Int32), x2.toInt = (k : Int) → k ≤ j → j - k < f → Z l G M_X7_placeOf d 2 [some (.ref 11), some (.int x1), some (.int x2)] [] σ Q := by
  intro f
  induction f with
  | zero => intro k x2 hk hkj hfu; omega
  | succ f ih =>
  intro k x2 hk hkj hfu
  have hSn := hS.1
  have hjl := (List.getElem?_eq_some_iff.mp hj).1
  have hpl := prs_len n pt
  refine z_iload_n (pc := 2) dX7_placeOf_2 rfl ?_
  refine z_aload_n (pc := 3) dX7_placeOf_3 rfl ?_
  refine z_getI (pc := 4) dX7_placeOf_4 fk_X7_30 rfl (by decide) (by decide) (by decide) ?_
  refine zq_icmp_ge (pc := 7) (tgt := 28) dX7_placeOf_7 rfl rfl rfl (fun h7 => ?_) (fun h7 => ?_)
  · skip
    refine z_iconst (pc := 28) (v := -1) dX7_placeOf_28 (by decide) ?_
    refine z_iret (pc := 29) dX7_placeOf_29 rfl ?_
    exfalso; omega
  · skip
    obtain ⟨s, hs⟩ := prs_get (pt := pt) (n := n) (j := k) (by omega)
    have hsk := (hS.2 k s hs).1
    have hix := (sorted_idx (prs_sorted n pt) hs hj).2
    refine z_aload_n (pc := 10) dX7_placeOf_10 rfl ?_
    refine z_getR (pc := 11) (t := 12) dX7_placeOf_11 fk_X7_9 rfl (by decide) (by decide) (by decide) rfl ?_
    refine z_iload_n (pc := 14) dX7_placeOf_14 rfl ?_
    refine z_ialdN (pc := 15) k dX7_placeOf_15 rfl (by decide) hk (by show _ < 40; omega) ?_
    refine z_iload_n (pc := 16) dX7_placeOf_16 rfl ?_
    refine zq_icmp_ne (pc := 17) (tgt := 22) dX7_placeOf_17 rfl rfl rfl (fun h17 => ?_) (fun h17 => ?_)
    · skip
      refine z_iincT (pc := 22) dX7_placeOf_22 rfl rfl (by decide) (by decide) (by omega) (by omega) rfl rfl (fun v => by dsimp only [setI, setL, List.set]) (fun v22 e22 => ?_)
      refine z_goto (pc := 25) (tgt := 2) dX7_placeOf_25 rfl ?_
      have hne : k ≠ j := fun z => by have := hix.mp z; omega
      exact ih (k + 1) v22 (by omega) (by omega) (by omega)
    · skip
      refine z_iload_n (pc := 20) dX7_placeOf_20 rfl ?_
      refine z_iret (pc := 21) dX7_placeOf_21 rfl ?_
      have e : k = j := hix.mpr (by omega)
      exact h _ (by omega)

theorem c_X7_placeOf {l : Launch} {G : Gx} {d : Nat} {σ : Sg} {Q : Option Value → Sg → Prop} {n i j : Nat} {pt : Nat → Pt} {x1 : Int32} (hS : okStand σ n pt) (hn : n ≤ 40) (hj : (prs n pt)[j]? = some i) (hx : x1.toInt = (i : Int)) (h : ∀ r : Int32, r.toInt = (j : Int) → Q (some (.int r)) σ) : Z l G M_X7_placeOf (d) 0 [some (.ref 11), some (.int x1)] [] σ Q := by
  refine z_sub (L' := [some (.ref 11), some (.int x1), none]) ⟨rfl, rfl, trivial⟩ ?_
  refine z_iconst (pc := 0) (v := 0) dX7_placeOf_0 (by decide) ?_
  refine z_istore_n (pc := 1) dX7_placeOf_1 rfl rfl (by dsimp only [setI, setL, List.set]) ?_
  exact c_placeOf_loop hS hn hj hx h (j + 1) 0 0 (by decide) (by omega) (by omega)

theorem c_X3_layerOf {l : Launch} {G : Gx} {d : Nat} {σ : Sg} {Q : Option Value → Sg → Prop} {j : Nat} {x1 : Int32} (hj : j < 40) (hx : x1.toInt = (j : Int)) (h : Q (some (.int (σ.1 25 j))) σ) : Z l G M_X3_layerOf (d + 1) 0 [some (.ref 24), some (.int x1)] [] σ Q := by
  refine z_sub (L' := [some (.ref 24), some (.int x1)]) ⟨rfl, rfl, trivial⟩ ?_
  refine z_iload_n (pc := 0) dX3_layerOf_0 rfl ?_
  refine z_bipush (pc := 1) (v := 40) dX3_layerOf_1 (by decide) ?_
  refine z_is2 (pc := 3) dX3_layerOf_3 ks_X3_49 rfl rfl ?_
  refine c_X10_isBelow (b := 40) (fun qb => ?_) (fun qb => absurd (show 0 ≤ x1.toInt ∧ x1.toInt < (40 : Int32).toInt by have : (40 : Int32).toInt = 40 := rfl; omega) qb)
  refine z_if_eq (pc := 6) (tgt := 18) dX3_layerOf_6 rfl (fun hc => absurd hc (by decide)) (fun _ => ?_)
  refine z_aload_n (pc := 9) dX3_layerOf_9 rfl ?_
  refine z_getR (pc := 10) (t := 25) dX3_layerOf_10 fk_X3_9 rfl (by decide) (by decide) (by decide) rfl ?_
  refine z_iload_n (pc := 13) dX3_layerOf_13 rfl ?_
  refine z_ialdN (pc := 14) j dX3_layerOf_14 rfl (by decide) hx (by show _ < 40; omega) ?_
  refine z_goto (pc := 15) (tgt := 19) dX3_layerOf_15 rfl ?_
  refine z_iret (pc := 19) dX3_layerOf_19 rfl ?_
  exact h

theorem c_sizeOf_loop {l : Launch} {G : Gx} {d : Nat} {σ : Sg} {Q : Option Value → Sg → Prop} {n r : Nat} {pt : Nat → Pt} {x1 : Int32} (hn : n ≤ 40) (h1 : 1 ≤ x1.toInt) (hl : ∀ (j i : Nat), (prs n pt)[j]? = some i → (σ.1 25 j).toInt = (LY (prs n pt) pt r i : Int)) (h0 : ∀ j, (prs n pt).length ≤ j → j < 40 → σ.1 25 j = 0) (h : ∀ x : Int32, x.toInt = (inLy (prs n pt) pt r x1.toInt : Int) → Q (some (.int x)) σ) : ∀ (f k : Nat) (x2 x3 : Int32), x3.toInt = (k : Int) → k ≤ 40 → 40 - k < f → x2.toInt = ((((prs n pt).take k).filter (fun p => decide ((LY (prs n pt) pt r p : Int) = x1.toInt))).length : Int) → Z l G M_X3_sizeOf d 4 [some (.ref 24), some (.int x1), some (.int x2), some (.int x3)] [] σ Q := by
  intro f
  induction f with
  | zero => intro k x2 x3 hk hk4 hfu h2; omega
  | succ f ih =>
  intro k x2 x3 hk hk4 hfu h2
  have hpl := prs_len n pt
  have hcl := List.length_filter_le (fun p => decide ((LY (prs n pt) pt r p : Int) = x1.toInt)) ((prs n pt).take k)
  rw [List.length_take] at hcl
  refine z_iload_n (pc := 4) dX3_sizeOf_4 rfl ?_
  refine z_bipush (pc := 5) (v := 40) dX3_sizeOf_5 (by decide) ?_
  refine zq_icmp_ge (pc := 7) (cy := 40) (tgt := 29) dX3_sizeOf_7 rfl rfl (by decide) (fun h7 => ?_) (fun h7 => ?_)
  · skip
    refine z_iload_n (pc := 29) dX3_sizeOf_29 rfl ?_
    refine z_iret (pc := 30) dX3_sizeOf_30 rfl ?_
    rw [take_all (by omega)] at h2
    exact h _ h2
  · skip
    refine z_aload_n (pc := 10) dX3_sizeOf_10 rfl ?_
    refine z_getR (pc := 11) (t := 25) dX3_sizeOf_11 fk_X3_9 rfl (by decide) (by decide) (by decide) rfl ?_
    refine z_iload_n (pc := 14) dX3_sizeOf_14 rfl ?_
    refine z_ialdN (pc := 15) k dX3_sizeOf_15 rfl (by decide) hk (by show _ < 40; omega) ?_
    refine z_iload_n (pc := 16) dX3_sizeOf_16 rfl ?_
    refine zq_icmp_ne (pc := 17) (tgt := 23) dX3_sizeOf_17 rfl rfl rfl (fun h17 => ?_) (fun h17 => ?_)
    · skip
      refine z_iincT (pc := 23) dX3_sizeOf_23 rfl rfl (by decide) (by decide) (by omega) (by omega) rfl rfl (fun v => by dsimp only [setI, setL, List.set]) (fun v23 e23 => ?_)
      refine z_goto (pc := 26) (tgt := 4) dX3_sizeOf_26 rfl ?_
      rcases Nat.lt_or_ge k (prs n pt).length with g | g
      · obtain ⟨p, hp⟩ := prs_get (pt := pt) (n := n) (j := k) g
        have e := hl k p hp
        have st := cnt_step (f := fun p => decide ((LY (prs n pt) pt r p : Int) = x1.toInt)) hp
        rw [if_neg (by rw [decide_eq_true_eq]; omega)] at st
        exact ih (k + 1) x2 v23 (by omega) (by omega) (by omega) (by rw [st]; omega)
      · exact ih (k + 1) x2 v23 (by omega) (by omega) (by omega) (by rw [take_all (by omega)]; rw [take_all (by omega)] at h2; exact h2)
    · skip
      refine z_iincT (pc := 20) dX3_sizeOf_20 rfl rfl (by decide) (by decide) (by omega) (by omega) rfl rfl (fun v => by dsimp only [setI, setL, List.set]) (fun v20 e20 => ?_)
      refine z_iincT (pc := 23) dX3_sizeOf_23 rfl rfl (by decide) (by decide) (by omega) (by omega) rfl rfl (fun v => by dsimp only [setI, setL, List.set]) (fun v23 e23 => ?_)
      refine z_goto (pc := 26) (tgt := 4) dX3_sizeOf_26 rfl ?_
      rcases Nat.lt_or_ge k (prs n pt).length with g | g
      · obtain ⟨p, hp⟩ := prs_get (pt := pt) (n := n) (j := k) g
        have e := hl k p hp
        have st := cnt_step (f := fun p => decide ((LY (prs n pt) pt r p : Int) = x1.toInt)) hp
        rw [if_pos (by rw [decide_eq_true_eq]; omega)] at st
        exact ih (k + 1) v20 v23 (by omega) (by omega) (by omega) (by rw [st]; omega)
      · exfalso
        rw [h0 k g (by omega)] at h17
        have : (0 : Int32).toInt = 0 := rfl
        omega

theorem c_X3_sizeOf {l : Launch} {G : Gx} {d : Nat} {σ : Sg} {Q : Option Value → Sg → Prop} {n r : Nat} {pt : Nat → Pt} {x1 : Int32} (hn : n ≤ 40) (h1 : 1 ≤ x1.toInt) (hl : ∀ (j i : Nat), (prs n pt)[j]? = some i → (σ.1 25 j).toInt = (LY (prs n pt) pt r i : Int)) (h0 : ∀ j, (prs n pt).length ≤ j → j < 40 → σ.1 25 j = 0) (h : ∀ x : Int32, x.toInt = (inLy (prs n pt) pt r x1.toInt : Int) → Q (some (.int x)) σ) : Z l G M_X3_sizeOf (d) 0 [some (.ref 24), some (.int x1)] [] σ Q := by
  refine z_sub (L' := [some (.ref 24), some (.int x1), none, none]) ⟨rfl, rfl, trivial⟩ ?_
  refine z_iconst (pc := 0) (v := 0) dX3_sizeOf_0 (by decide) ?_
  refine z_istore_n (pc := 1) dX3_sizeOf_1 rfl rfl (by dsimp only [setI, setL, List.set]) ?_
  refine z_iconst (pc := 2) (v := 0) dX3_sizeOf_2 (by decide) ?_
  refine z_istore_n (pc := 3) dX3_sizeOf_3 rfl rfl (by dsimp only [setI, setL, List.set]) ?_
  exact c_sizeOf_loop hn h1 hl h0 h 41 0 0 0 (by decide) (by omega) (by omega) rfl

theorem c_X10_layer {l : Launch} {G : Gx} {d : Nat} {σ : Sg} {Q : Option Value → Sg → Prop} {a : Ab} {x1 : Int32} (hr : rC σ a) (hk : abOk a) (h : ∀ (r : Int32) (τ : Sg), r.toInt = sLayer a x1 → rC τ a → eqM σ τ → Q (some (.int r)) τ) : Z l G M_X10_layer (d + 6) 0 [some (.ref 0), some (.int x1)] [] σ Q := by
  refine z_sub (L' := [some (.ref 0), some (.int x1)]) ⟨rfl, rfl, trivial⟩ ?_
  refine z_iload_n (pc := 0) dX10_layer_0 rfl ?_
  refine z_iconst (pc := 1) (v := 1) dX10_layer_1 (by decide) ?_
  refine zq_icmp_ge (pc := 2) (cy := 1) (tgt := 8) dX10_layer_2 rfl rfl (by decide) (fun h2 => ?_) (fun h2 => ?_)
  · skip
    refine z_aload_n (pc := 8) dX10_layer_8 rfl ?_
    refine z_iv0 (pc := 9) dX10_layer_9 kv_X10_182 rfl (by decide) (by decide) rfl rfl ?_
    refine c_X10_peeled hr hk (fun τ hrt hL hE => ?_)
    obtain ⟨nl, hN, hNn, hNl, hN0⟩ := hL
    have enl := nLY_eq hN
    refine z_iload_n (pc := 12) dX10_layer_12 rfl ?_
    refine z_iv1 (pc := 13) dX10_layer_13 kv_X10_284 rfl (by decide) (by decide) rfl rfl ?_
    refine c_X3_sizeOf hk.1 (by omega) hNl hN0 (fun rx erx => ?_)
    refine z_iret (pc := 16) dX10_layer_16 rfl ?_
    exact h _ _ (by rw [show sLayer a x1 = _ from if_neg (by omega), enl]; exact erx) hrt (eqX_M hE (by omega) (by omega))
  · skip
    refine z_ldc (pc := 5) dX10_layer_5 kc_X10_92 ?_
    refine z_iret (pc := 7) dX10_layer_7 rfl ?_
    exact h _ _ (if_pos (by omega) : sLayer a x1 = _).symm hr eqM_rf

theorem c_X10_told {l : Launch} {G : Gx} {d : Nat} {σ : Sg} {Q : Option Value → Sg → Prop} {a : Ab} {x1 x2 : Int32} (hr : rC σ a) (hk : abOk a) (h : ∀ (r : Int32) (τ : Sg), r.toInt = (sTold a x1 x2).1 → rC τ (sTold a x1 x2).2 → eqM σ τ → Q (some (.int r)) τ) : Z l G M_X10_told (d + 6) 0 [some (.ref 0), some (.int x1), some (.int x2)] [] σ Q := by
  have hg := hr.1.1
  have hn := hk.1
  refine z_sub (L' := [some (.ref 0), some (.int x1), some (.int x2), none]) ⟨rfl, rfl, rfl, trivial⟩ ?_
  refine z_aload_n (pc := 0) dX10_told_0 rfl ?_
  refine z_iload_n (pc := 1) dX10_told_1 rfl ?_
  refine z_iv1 (pc := 2) dX10_told_2 kv_X10_155 rfl (by decide) (by decide) rfl rfl ?_
  refine c_X10_isGiven (fun q2 => ?_) (fun q2 => ?_)
  · skip
    refine z_if_eq (pc := 5) (tgt := 16) dX10_told_5 rfl (fun hc => absurd hc (by decide)) (fun _ => ?_)
    refine z_iload_n (pc := 8) dX10_told_8 rfl ?_
    refine z_iconst (pc := 9) (v := 4) dX10_told_9 (by decide) ?_
    refine z_is2 (pc := 10) dX10_told_10 ks_X10_88 rfl rfl ?_
    refine c_X10_isBelow (b := 4) (fun q10 => ?_) (fun q10 => ?_)
    · skip
      refine z_if_ne (pc := 13) (tgt := 19) dX10_told_13 rfl (fun _ => ?_) (fun hc => absurd hc (by decide))
      obtain ⟨i, hi, hie⟩ : ∃ i : Nat, i < a.1.1 ∧ x1.toInt = (i : Int) := ⟨x1.toInt.toNat, by omega, by omega⟩
      have hp := hr.1.2 i hi
      have hpk := hk.2.1 i hi
      have h7 := hp.2.2.2.2.2.2.2
      have h44 : (4 : Int32).toInt = 4 := rfl
      have hgd : in03 x2.toInt 4 = true := decide_eq_true (by omega)
      refine z_aload_n (pc := 19) dX10_told_19 rfl ?_
      refine z_getR (pc := 20) (t := 3) dX10_told_20 fk_X10_18 rfl (by decide) (by decide) (by decide) rfl ?_
      refine z_iload_n (pc := 23) dX10_told_23 rfl ?_
      refine z_aaldN (pc := 24) i (t := (65 + i)) dX10_told_24 (Or.inr rfl) (by decide) hie (by show _ < 40; omega) rfl ?_
      refine z_astore_n (pc := 25) dX10_told_25 rfl rfl (by dsimp only [setI, setL, List.set]) ?_
      refine z_aload_n (pc := 26) dX10_told_26 rfl ?_
      refine z_getI (pc := 27) dX10_told_27 fk_X10_158 kd_plant (by omega) (by decide) (by decide) ?_
      refine zq_if_ne (pc := 30) (tgt := 39) dX10_told_30 rfl rfl (fun h30 => ?_) (fun h30 => ?_)
      · skip
        refine z_iload_n (pc := 39) dX10_told_39 rfl ?_
        rcases (show x2.toInt = 0 ∨ x2.toInt = 1 ∨ x2.toInt = 2 ∨ (x2.toInt < 0 ∨ 2 < x2.toInt) by omega) with ek | ek | ek | ek
        · refine zq_swIn (pc := 40) (c := 0) (tgt := 68) dX10_told_40 ek (by decide) (by decide) rfl rfl ?_
          refine z_aload_n (pc := 68) dX10_told_68 rfl ?_
          refine z_aload_n (pc := 69) dX10_told_69 rfl ?_
          refine z_getI (pc := 70) dX10_told_70 fk_X10_159 kd_plant (by omega) (by decide) (by decide) ?_
          refine z_iv1 (pc := 73) dX10_told_73 kv_X10_101 rfl (by decide) (by decide) rfl rfl ?_
          refine c_X10_done ?_
          refine z_iret (pc := 76) dX10_told_76 rfl ?_
          have e : sTold a x1 x2 = (toldV a x2.toInt i, stat a 0) := sGiv_3 hi hie hgd (there_of h7 h30)
          exact h _ _ (by rw [e, show toldV a x2.toInt i = _ from if_pos ek, hp.1]) (by rw [e]; exact rC_stat hr) (eqM_uI eqM_rf rfl)
        · refine zq_swIn (pc := 40) (c := 1) (tgt := 77) dX10_told_40 ek (by decide) (by decide) rfl rfl ?_
          refine z_aload_n (pc := 77) dX10_told_77 rfl ?_
          refine z_aload_n (pc := 78) dX10_told_78 rfl ?_
          refine z_getI (pc := 79) dX10_told_79 fk_X10_162 kd_plant (by omega) (by decide) (by decide) ?_
          refine z_iv1 (pc := 82) dX10_told_82 kv_X10_101 rfl (by decide) (by decide) rfl rfl ?_
          refine c_X10_done ?_
          refine z_iret (pc := 85) dX10_told_85 rfl ?_
          have e : sTold a x1 x2 = (toldV a x2.toInt i, stat a 0) := sGiv_3 hi hie hgd (there_of h7 h30)
          exact h _ _ (by rw [e, show toldV a x2.toInt i = _ from (if_neg (by omega)).trans (if_pos ek), hp.2.1]) (by rw [e]; exact rC_stat hr) (eqM_uI eqM_rf rfl)
        · refine zq_swIn (pc := 40) (c := 2) (tgt := 86) dX10_told_40 ek (by decide) (by decide) rfl rfl ?_
          refine z_aload_n (pc := 86) dX10_told_86 rfl ?_
          refine z_aload_n (pc := 87) dX10_told_87 rfl ?_
          refine z_getI (pc := 88) dX10_told_88 fk_X10_172 kd_plant (by omega) (by decide) (by decide) ?_
          refine z_iv1 (pc := 91) dX10_told_91 kv_X10_101 rfl (by decide) (by decide) rfl rfl ?_
          refine c_X10_done ?_
          refine z_iret (pc := 94) dX10_told_94 rfl ?_
          have e : sTold a x1 x2 = (toldV a x2.toInt i, stat a 0) := sGiv_3 hi hie hgd (there_of h7 h30)
          exact h _ _ (by rw [e, show toldV a x2.toInt i = _ from (if_neg (by omega)).trans ((if_neg (by omega)).trans (if_pos ek)), hp.2.2.1]) (by rw [e]; exact rC_stat hr) (eqM_uI eqM_rf rfl)
        · refine zq_swOut (pc := 40) (tgt := 95) dX10_told_40 ek rfl ?_
          refine z_aload_n (pc := 95) dX10_told_95 rfl ?_
          refine z_aload_n (pc := 96) dX10_told_96 rfl ?_
          refine z_iv0 (pc := 97) dX10_told_97 kv_X10_182 rfl (by decide) (by decide) rfl rfl ?_
          refine c_X10_peeled hr hk (fun τ hrt hL hE => ?_)
          refine z_aload_n (pc := 100) dX10_told_100 rfl ?_
          refine z_iv0 (pc := 101) dX10_told_101 kv_X10_165 rfl (by decide) (by decide) rfl rfl ?_
          refine c_X10_gathered hk.1 hrt.1 hrt.2.2.2.2.2.2.1.1 (fun υ hS hkn uE => ?_)
          have hru := rC_gath hrt uE hS
          obtain ⟨nl, hN, hNn, hNl, hN0⟩ := okLayers_cong (c := True) (τ := υ) (fun o h1 h3 => uE o (by omega)) (fun _ => hL) trivial
          have enl := nLY_eq hN
          obtain ⟨j, hj⟩ := List.getElem?_of_mem (prs_mem.mpr ⟨hi, there_of h7 h30⟩)
          refine z_iload_n (pc := 104) dX10_told_104 rfl ?_
          refine z_iv1 (pc := 105) dX10_told_105 kv_X10_186 rfl (by decide) (by decide) rfl rfl ?_
          refine c_X7_placeOf hS hn hj hie (fun rp erp => ?_)
          refine z_iv1 (pc := 108) dX10_told_108 kv_X10_189 rfl (by decide) (by decide) rfl rfl ?_
          refine c_X3_layerOf (st_lt hn hj) erp ?_
          refine z_iv1 (pc := 111) dX10_told_111 kv_X10_101 rfl (by decide) (by decide) rfl rfl ?_
          refine c_X10_done ?_
          refine z_iret (pc := 114) dX10_told_114 rfl ?_
          have e : sTold a x1 x2 = (toldV a x2.toInt i, stat a 0) := sGiv_3 hi hie hgd (there_of h7 h30)
          exact h _ _ (by rw [e, show toldV a x2.toInt i = _ from (if_neg (by omega)).trans ((if_neg (by omega)).trans (if_neg (by omega))), enl]; exact hNl j i hj) (by rw [e]; exact rC_stat hru) (eqM_uI (eqM_tr (eqX_M hE (by omega) (by omega)) (eqX_M uE (by omega) (by omega))) rfl)
      · skip
        refine z_aload_n (pc := 33) dX10_told_33 rfl ?_
        refine z_iconst (pc := 34) (v := 1) dX10_told_34 (by decide) ?_
        refine z_iv1 (pc := 35) dX10_told_35 kv_X10_93 rfl (by decide) (by decide) rfl rfl ?_
        refine c_X10_found (by decide) (by decide) (fun r er => ?_)
        refine z_iret (pc := 38) dX10_told_38 rfl ?_
        have e : sTold a x1 x2 = _ := sGiv_2 hi hie hgd (away_of h7 h30)
        exact h _ _ (by rw [e, er]; rfl) (by rw [e]; exact rC_stat hr) (eqM_uI eqM_rf rfl)
    · skip
      refine z_if_ne (pc := 13) (tgt := 19) dX10_told_13 rfl (fun hc => absurd hc (by decide)) (fun _ => ?_)
      refine z_ldc (pc := 16) dX10_told_16 kc_X10_92 ?_
      refine z_iret (pc := 18) dX10_told_18 rfl ?_
      have h44 : (4 : Int32).toInt = 4 := rfl
      have hor : ¬ (0 ≤ x1.toInt ∧ x1.toInt < (a.1.1 : Int)) ∨ in03 x2.toInt 4 = false := by first | exact Or.inl (by omega) | exact Or.inr (decide_eq_false (by omega))
      have e : sTold a x1 x2 = _ := sGiv_1 hor
      exact h _ _ (by rw [e]; rfl) (by rw [e]; exact hr) eqM_rf
  · skip
    refine z_if_eq (pc := 5) (tgt := 16) dX10_told_5 rfl (fun _ => ?_) (fun hc => absurd hc (by decide))
    refine z_ldc (pc := 16) dX10_told_16 kc_X10_92 ?_
    refine z_iret (pc := 18) dX10_told_18 rfl ?_
    have h44 : (4 : Int32).toInt = 4 := rfl
    have hor : ¬ (0 ≤ x1.toInt ∧ x1.toInt < (a.1.1 : Int)) ∨ in03 x2.toInt 4 = false := by first | exact Or.inl (by omega) | exact Or.inr (decide_eq_false (by omega))
    have e : sTold a x1 x2 = _ := sGiv_1 hor
    exact h _ _ (by rw [e]; rfl) (by rw [e]; exact hr) eqM_rf

theorem c_bedsThere_loop {l : Launch} {G : Gx} {d : Nat} {σ : Sg} {Q : Option Value → Sg → Prop} {bd : Nat → Bd} (hB : rcB σ bd) (h : ∀ x : Int32, x.toInt = (bdN bd 8 : Int) → Q (some (.int x)) σ) : ∀ (f k : Nat) (x1 x2 : Int32), x2.toInt = (k : Int) → k ≤ 8 → 8 - k < f → x1.toInt = (bdN bd k : Int) → Z l G M_X10_bedsThere d 4 [some (.ref 0), some (.int x1), some (.int x2)] [] σ Q := by
  intro f
  induction f with
  | zero => intro k x1 x2 hk hk8 hfu h1; omega
  | succ f ih =>
  intro k x1 x2 hk hk8 hfu h1
  have hle := bdN_le bd k
  refine z_iload_n (pc := 4) dX10_bedsThere_4 rfl ?_
  refine z_bipush (pc := 5) (v := 8) dX10_bedsThere_5 (by decide) ?_
  refine zq_icmp_ge (pc := 7) (cy := 8) (tgt := 31) dX10_bedsThere_7 rfl rfl (by decide) (fun h7 => ?_) (fun h7 => ?_)
  · skip
    refine z_iload_n (pc := 31) dX10_bedsThere_31 rfl ?_
    refine z_iret (pc := 32) dX10_bedsThere_32 rfl ?_
    have e : k = 8 := by omega
    subst e
    exact h _ h1
  · skip
    have hbk := (hB k (by omega)).1
    have hst : bdN bd (k + 1) = bdN bd k + (if (bd k).1 = 0 then 0 else 1) := rfl
    refine z_aload_n (pc := 10) dX10_bedsThere_10 rfl ?_
    refine z_getR (pc := 11) (t := 2) dX10_bedsThere_11 fk_X10_11 rfl (by decide) (by decide) (by decide) rfl ?_
    refine z_iload_n (pc := 14) dX10_bedsThere_14 rfl ?_
    refine z_aaldN (pc := 15) k (t := (49 + k)) dX10_bedsThere_15 (Or.inl rfl) (by decide) hk (by show _ < 8; omega) rfl ?_
    refine z_getI (pc := 16) dX10_bedsThere_16 fk_X10_106 (kd_bed (by omega)) (by omega) (by decide) (by decide) ?_
    refine zq_if_eq (pc := 19) (tgt := 25) dX10_bedsThere_19 rfl rfl (fun h19 => ?_) (fun h19 => ?_)
    · skip
      refine z_iincT (pc := 25) dX10_bedsThere_25 rfl rfl (by decide) (by decide) (by omega) (by omega) rfl rfl (fun v => by dsimp only [setI, setL, List.set]) (fun v25 e25 => ?_)
      refine z_goto (pc := 28) (tgt := 4) dX10_bedsThere_28 rfl ?_
      have hz : (bd k).1 = 0 := by
        by_cases hc : (bd k).1 = 0
        · exact hc
        · rw [hbk, if_neg hc] at h19; exact absurd h19 (by decide)
      rw [if_pos hz] at hst
      exact ih (k + 1) x1 v25 (by omega) (by omega) (by omega) (by rw [hst]; omega)
    · skip
      refine z_iincT (pc := 22) dX10_bedsThere_22 rfl rfl (by decide) (by decide) (by omega) (by omega) rfl rfl (fun v => by dsimp only [setI, setL, List.set]) (fun v22 e22 => ?_)
      refine z_iincT (pc := 25) dX10_bedsThere_25 rfl rfl (by decide) (by decide) (by omega) (by omega) rfl rfl (fun v => by dsimp only [setI, setL, List.set]) (fun v25 e25 => ?_)
      refine z_goto (pc := 28) (tgt := 4) dX10_bedsThere_28 rfl ?_
      have hz : ¬ (bd k).1 = 0 := fun hc => by rw [hbk, if_pos hc] at h19; exact h19 rfl
      rw [if_neg hz] at hst
      exact ih (k + 1) v22 v25 (by omega) (by omega) (by omega) (by rw [hst]; omega)

theorem c_X10_bedsThere {l : Launch} {G : Gx} {d : Nat} {σ : Sg} {Q : Option Value → Sg → Prop} {bd : Nat → Bd} (hB : rcB σ bd) (h : ∀ x : Int32, x.toInt = (bdN bd 8 : Int) → Q (some (.int x)) σ) : Z l G M_X10_bedsThere (d) 0 [some (.ref 0)] [] σ Q := by
  refine z_sub (L' := [some (.ref 0), none, none]) ⟨rfl, trivial⟩ ?_
  refine z_iconst (pc := 0) (v := 0) dX10_bedsThere_0 (by decide) ?_
  refine z_istore_n (pc := 1) dX10_bedsThere_1 rfl rfl (by dsimp only [setI, setL, List.set]) ?_
  refine z_iconst (pc := 2) (v := 0) dX10_bedsThere_2 (by decide) ?_
  refine z_istore_n (pc := 3) dX10_bedsThere_3 rfl rfl (by dsimp only [setI, setL, List.set]) ?_
  exact c_bedsThere_loop hB h 9 0 0 0 (by decide) (by omega) (by omega) rfl

theorem c_X10_count {l : Launch} {G : Gx} {d : Nat} {σ : Sg} {Q : Option Value → Sg → Prop} {a : Ab} {x1 : Int32} (hr : rC σ a) (hk : abOk a) (h : ∀ (r : Int32) (τ : Sg), r.toInt = sCount a x1 → rC τ a → eqM σ τ → Q (some (.int r)) τ) : Z l G M_X10_count (d + 6) 0 [some (.ref 0), some (.int x1)] [] σ Q := by
  refine z_sub (L' := [some (.ref 0), some (.int x1)]) ⟨rfl, rfl, trivial⟩ ?_
  refine z_iload_n (pc := 0) dX10_count_0 rfl ?_
  rcases (show x1.toInt = 0 ∨ x1.toInt = 1 ∨ x1.toInt = 2 ∨ x1.toInt = 3 ∨ x1.toInt = 4 ∨ x1.toInt = 5 ∨ x1.toInt = 6 ∨ (x1.toInt < 0 ∨ 6 < x1.toInt) by omega) with ek | ek | ek | ek | ek | ek | ek | ek
  · refine zq_swIn (pc := 1) (c := 0) (tgt := 44) dX10_count_1 ek (by decide) (by decide) rfl rfl ?_
    refine z_aload_n (pc := 44) dX10_count_44 rfl ?_
    refine z_iv0 (pc := 45) dX10_count_45 kv_X10_165 rfl (by decide) (by decide) rfl rfl ?_
    refine c_X10_gathered hk.1 hr.1 hr.2.2.2.2.2.2.1.1 (fun τ hS hkn hE => ?_)
    have hrt := rC_gath hr hE hS
    refine z_getI (pc := 48) dX10_count_48 fk_X10_169 rfl (by decide) (by decide) (by decide) ?_
    refine z_iret (pc := 51) dX10_count_51 rfl ?_
    exact h _ _ (by rw [(show sCount a x1 = _ from if_pos ek)]; exact hS.1) hrt (eqX_M hE (by omega) (by omega))
  · refine zq_swIn (pc := 1) (c := 1) (tgt := 52) dX10_count_1 ek (by decide) (by decide) rfl rfl ?_
    refine z_aload_n (pc := 52) dX10_count_52 rfl ?_
    refine z_getI (pc := 53) dX10_count_53 fk_X10_137 rfl (by decide) (by decide) (by decide) ?_
    refine z_iret (pc := 56) dX10_count_56 rfl ?_
    exact h _ _ (by rw [(show sCount a x1 = _ from (if_neg (by omega)).trans (if_pos ek))]; exact hr.1.1) hr eqM_rf
  · refine zq_swIn (pc := 1) (c := 2) (tgt := 57) dX10_count_1 ek (by decide) (by decide) rfl rfl ?_
    refine z_aload_n (pc := 57) dX10_count_57 rfl ?_
    refine z_iv0 (pc := 58) dX10_count_58 kv_X10_305 rfl (by decide) (by decide) rfl rfl ?_
    refine c_X10_bedsThere hr.2.1 (fun rb erb => ?_)
    refine z_iret (pc := 61) dX10_count_61 rfl ?_
    exact h _ _ (by rw [(show sCount a x1 = _ from (if_neg (by omega)).trans ((if_neg (by omega)).trans (if_pos ek)))]; exact erb) hr eqM_rf
  · refine zq_swIn (pc := 1) (c := 3) (tgt := 62) dX10_count_1 ek (by decide) (by decide) rfl rfl ?_
    refine z_aload_n (pc := 62) dX10_count_62 rfl ?_
    refine z_iv0 (pc := 63) dX10_count_63 kv_X10_182 rfl (by decide) (by decide) rfl rfl ?_
    refine c_X10_peeled hr hk (fun τ hrt hL hE => ?_)
    obtain ⟨nl, hN, hNn, hNl, hN0⟩ := hL
    have enl := nLY_eq hN
    refine z_getI (pc := 66) dX10_count_66 fk_X10_309 rfl (by decide) (by decide) (by decide) ?_
    refine z_iret (pc := 69) dX10_count_69 rfl ?_
    exact h _ _ (by rw [(show sCount a x1 = _ from (if_neg (by omega)).trans ((if_neg (by omega)).trans ((if_neg (by omega)).trans (if_pos ek)))), enl]; exact hNn) hrt (eqX_M hE (by omega) (by omega))
  · refine zq_swIn (pc := 1) (c := 4) (tgt := 70) dX10_count_1 ek (by decide) (by decide) rfl rfl ?_
    refine z_aload_n (pc := 70) dX10_count_70 rfl ?_
    refine z_iv0 (pc := 71) dX10_count_71 kv_X10_165 rfl (by decide) (by decide) rfl rfl ?_
    refine c_X10_gathered hk.1 hr.1 hr.2.2.2.2.2.2.1.1 (fun τ hS hkn hE => ?_)
    have hrt := rC_gath hr hE hS
    refine z_iconst (pc := 74) (v := 0) dX10_count_74 (by decide) ?_
    refine z_iv1 (pc := 75) dX10_count_75 kv_X10_310 rfl (by decide) (by decide) rfl rfl ?_
    refine c_X7_total (w := 0) (by decide) (by decide) hS hk.1 (fun rt ert => ?_)
    refine z_iret (pc := 78) dX10_count_78 rfl ?_
    exact h _ _ (by rw [(show sCount a x1 = _ from (if_neg (by omega)).trans ((if_neg (by omega)).trans ((if_neg (by omega)).trans ((if_neg (by omega)).trans (if_pos ek)))))]; exact ert) hrt (eqX_M hE (by omega) (by omega))
  · refine zq_swIn (pc := 1) (c := 5) (tgt := 79) dX10_count_1 ek (by decide) (by decide) rfl rfl ?_
    refine z_aload_n (pc := 79) dX10_count_79 rfl ?_
    refine z_iv0 (pc := 80) dX10_count_80 kv_X10_165 rfl (by decide) (by decide) rfl rfl ?_
    refine c_X10_gathered hk.1 hr.1 hr.2.2.2.2.2.2.1.1 (fun τ hS hkn hE => ?_)
    have hrt := rC_gath hr hE hS
    refine z_iconst (pc := 83) (v := 1) dX10_count_83 (by decide) ?_
    refine z_iv1 (pc := 84) dX10_count_84 kv_X10_310 rfl (by decide) (by decide) rfl rfl ?_
    refine c_X7_total (w := 1) (by decide) (by decide) hS hk.1 (fun rt ert => ?_)
    refine z_iret (pc := 87) dX10_count_87 rfl ?_
    exact h _ _ (by rw [(show sCount a x1 = _ from (if_neg (by omega)).trans ((if_neg (by omega)).trans ((if_neg (by omega)).trans ((if_neg (by omega)).trans ((if_neg (by omega)).trans (if_pos ek))))))]; exact ert) hrt (eqX_M hE (by omega) (by omega))
  · refine zq_swIn (pc := 1) (c := 6) (tgt := 88) dX10_count_1 ek (by decide) (by decide) rfl rfl ?_
    refine z_aload_n (pc := 88) dX10_count_88 rfl ?_
    refine z_iv0 (pc := 89) dX10_count_89 kv_X10_165 rfl (by decide) (by decide) rfl rfl ?_
    refine c_X10_gathered hk.1 hr.1 hr.2.2.2.2.2.2.1.1 (fun τ hS hkn hE => ?_)
    have hrt := rC_gath hr hE hS
    refine z_iconst (pc := 92) (v := 2) dX10_count_92 (by decide) ?_
    refine z_iv1 (pc := 93) dX10_count_93 kv_X10_310 rfl (by decide) (by decide) rfl rfl ?_
    refine c_X7_total (w := 2) (by decide) (by decide) hS hk.1 (fun rt ert => ?_)
    refine z_iret (pc := 96) dX10_count_96 rfl ?_
    exact h _ _ (by rw [(show sCount a x1 = _ from (if_neg (by omega)).trans ((if_neg (by omega)).trans ((if_neg (by omega)).trans ((if_neg (by omega)).trans ((if_neg (by omega)).trans ((if_neg (by omega)).trans (if_pos ek)))))))]; exact ert) hrt (eqX_M hE (by omega) (by omega))
  · refine zq_swOut (pc := 1) (tgt := 97) dX10_count_1 ek rfl ?_
    refine z_ldc (pc := 97) dX10_count_97 kc_X10_92 ?_
    refine z_iret (pc := 99) dX10_count_99 rfl ?_
    exact h _ _ (by rw [(show sCount a x1 = _ from (if_neg (by omega)).trans ((if_neg (by omega)).trans ((if_neg (by omega)).trans ((if_neg (by omega)).trans ((if_neg (by omega)).trans ((if_neg (by omega)).trans (if_neg (by omega))))))))]; rfl) hr eqM_rf

theorem c_mlayer_loop {l : Launch} {G : Gx} {d : Nat} {σ : Sg} {Q : Option Value → Sg → Prop} {n r : Nat} {pt : Nat → Pt} {x1 x2 : Int32} (hQ : rmQ σ n pt) (hm : mly σ n pt r) (h : ∀ x : Int32, x.toInt = (inLy (prs n pt) pt r x1.toInt : Int) → Q (some (.int x)) σ) : ∀ (f k : Nat) (x3 x4 : Int32), x4.toInt = (k : Int) → k ≤ n → n - k < f → x3.toInt = (((prs k pt).filter (fun p => decide ((LY (prs n pt) pt r p : Int) = x1.toInt))).length : Int) → Z l G M_X11_layer d 18 [some (.ref 1), some (.int x1), some (.int x2), some (.int x3), some (.int x4)] [] σ Q := by
  intro f
  induction f with
  | zero => intro k x3 x4 hk hkn hfu h3; omega
  | succ f ih =>
  intro k x3 x4 hk hkn hfu h3
  have hg := hQ.2.1.1
  have hn := hQ.1
  have hpl := prs_len k pt
  have hcl := List.length_filter_le (fun p => decide ((LY (prs n pt) pt r p : Int) = x1.toInt)) (prs k pt)
  have hps := prs_succ k pt
  refine z_iload (pc := 18) dX11_layer_18 rfl ?_
  refine z_aload_n (pc := 20) dX11_layer_20 rfl ?_
  refine z_getI (pc := 21) dX11_layer_21 fk_X11_101 rfl (by decide) (by decide) (by decide) ?_
  refine zq_icmp_ge (pc := 24) (tgt := 62) dX11_layer_24 rfl rfl rfl (fun h24 => ?_) (fun h24 => ?_)
  · skip
    refine z_iload_n (pc := 62) dX11_layer_62 rfl ?_
    refine z_iret (pc := 63) dX11_layer_63 rfl ?_
    have e : k = n := by omega
    subst e
    exact h _ h3
  · skip
    refine z_iload_n (pc := 27) dX11_layer_27 rfl ?_
    refine z_aload_n (pc := 28) dX11_layer_28 rfl ?_
    refine z_getR (pc := 29) (t := 35) dX11_layer_29 fk_X11_22 rfl (by decide) (by decide) (by decide) rfl ?_
    refine z_iload (pc := 32) dX11_layer_32 rfl ?_
    refine z_zaldN (pc := 34) k dX11_layer_34 rfl (by decide) hk (by show _ < 40; omega) ?_
    refine zq_if_ne (pc := 35) (tgt := 53) dX11_layer_35 rfl rfl (fun h35 => ?_) (fun h35 => ?_)
    · skip
      refine z_iconst (pc := 53) (v := 0) dX11_layer_53 (by decide) ?_
      refine z_iaddT (pc := 54) (cy := 0) dX11_layer_54 rfl (by decide) (by omega) (by omega) (fun v54 e54 => ?_)
      refine z_istore_n (pc := 55) dX11_layer_55 rfl rfl (by dsimp only [setI, setL, List.set]) ?_
      refine z_iincT (pc := 56) dX11_layer_56 rfl rfl (by decide) (by decide) (by omega) (by omega) rfl rfl (fun v => by dsimp only [setI, setL, List.set]) (fun v56 e56 => ?_)
      refine z_goto (pc := 59) (tgt := 18) dX11_layer_59 rfl ?_
      rw [if_pos (maway_of (hQ.2.1.2 k (by omega)).2.2.2.2 h35), List.append_nil] at hps
      exact ih (k + 1) v54 v56 (by omega) (by omega) (by omega) (by rw [hps]; omega)
    · skip
      refine z_aload_n (pc := 38) dX11_layer_38 rfl ?_
      refine z_getR (pc := 39) (t := 47) dX11_layer_39 fk_X11_69 rfl (by decide) (by decide) (by decide) rfl ?_
      refine z_iload (pc := 42) dX11_layer_42 rfl ?_
      refine z_ialdN (pc := 44) k dX11_layer_44 rfl (by decide) hk (by show _ < 40; omega) ?_
      refine z_iload_n (pc := 45) dX11_layer_45 rfl ?_
      refine zq_icmp_ne (pc := 46) (tgt := 53) dX11_layer_46 rfl rfl rfl (fun h46 => ?_) (fun h46 => ?_)
      · skip
        refine z_iconst (pc := 53) (v := 0) dX11_layer_53 (by decide) ?_
        refine z_iaddT (pc := 54) (cy := 0) dX11_layer_54 rfl (by decide) (by omega) (by omega) (fun v54 e54 => ?_)
        refine z_istore_n (pc := 55) dX11_layer_55 rfl rfl (by dsimp only [setI, setL, List.set]) ?_
        refine z_iincT (pc := 56) dX11_layer_56 rfl rfl (by decide) (by decide) (by omega) (by omega) rfl rfl (fun v => by dsimp only [setI, setL, List.set]) (fun v56 e56 => ?_)
        refine z_goto (pc := 59) (tgt := 18) dX11_layer_59 rfl ?_
        have ha := mthere_of (hQ.2.1.2 k (by omega)).2.2.2.2 h35
        have hz := hm k (prs_mem.mpr ⟨by omega, ha⟩)
        rw [if_neg (by rw [ha]; decide)] at hps
        exact ih (k + 1) v54 v56 (by omega) (by omega) (by omega) (by rw [hps, List.filter_append, List.length_append, List.filter_cons, if_neg (by rw [decide_eq_true_eq]; omega)]; simp only [List.filter_nil, List.length_nil]; omega)
      · skip
        refine z_iconst (pc := 49) (v := 1) dX11_layer_49 (by decide) ?_
        refine z_goto (pc := 50) (tgt := 54) dX11_layer_50 rfl ?_
        refine z_iaddT (pc := 54) (cy := 1) dX11_layer_54 rfl (by decide) (by omega) (by omega) (fun v54 e54 => ?_)
        refine z_istore_n (pc := 55) dX11_layer_55 rfl rfl (by dsimp only [setI, setL, List.set]) ?_
        refine z_iincT (pc := 56) dX11_layer_56 rfl rfl (by decide) (by decide) (by omega) (by omega) rfl rfl (fun v => by dsimp only [setI, setL, List.set]) (fun v56 e56 => ?_)
        refine z_goto (pc := 59) (tgt := 18) dX11_layer_59 rfl ?_
        have ha := mthere_of (hQ.2.1.2 k (by omega)).2.2.2.2 h35
        have hz := hm k (prs_mem.mpr ⟨by omega, ha⟩)
        rw [if_neg (by rw [ha]; decide)] at hps
        exact ih (k + 1) v54 v56 (by omega) (by omega) (by omega) (by rw [hps, List.filter_append, List.length_append, List.filter_cons, if_pos (by rw [decide_eq_true_eq]; omega)]; simp only [List.filter_nil, List.length_nil, List.length_cons]; omega)

theorem c_X11_layer {l : Launch} {G : Gx} {d : Nat} {σ : Sg} {Q : Option Value → Sg → Prop} {a : Ab} {x1 : Int32} (hr : rM σ a) (hk : abOk a) (h : ∀ (r : Int32) (τ : Sg), r.toInt = sLayer a x1 → rM τ a → eqC σ τ → Q (some (.int r)) τ) : Z l G M_X11_layer (d + 4) 0 [some (.ref 1), some (.int x1)] [] σ Q := by
  refine z_sub (L' := [some (.ref 1), some (.int x1), none, none, none]) ⟨rfl, rfl, trivial⟩ ?_
  refine z_iload_n (pc := 0) dX11_layer_0 rfl ?_
  refine z_iconst (pc := 1) (v := 1) dX11_layer_1 (by decide) ?_
  refine zq_icmp_ge (pc := 2) (cy := 1) (tgt := 8) dX11_layer_2 rfl rfl (by decide) (fun h2 => ?_) (fun h2 => ?_)
  · skip
    refine z_aload_n (pc := 8) dX11_layer_8 rfl ?_
    refine z_iv0 (pc := 9) dX11_layer_9 kv_X11_140 rfl (by decide) (by decide) rfl rfl ?_
    refine c_X11_findLayers (rmQ_of hr hk) (fun nl rl τ hN hNn hNl hF => ?_)
    have enl := nLY_eq hN
    have hrt := rM_FrQ hr hF
    have eCt := FrQ_C hF
    refine z_istore_n (pc := 12) dX11_layer_12 rfl rfl (by dsimp only [setI, setL, List.set]) ?_
    refine z_iconst (pc := 13) (v := 0) dX11_layer_13 (by decide) ?_
    refine z_istore_n (pc := 14) dX11_layer_14 rfl rfl (by dsimp only [setI, setL, List.set]) ?_
    refine z_iconst (pc := 15) (v := 0) dX11_layer_15 (by decide) ?_
    refine z_istore (pc := 16) dX11_layer_16 rfl rfl (by dsimp only [setI, setL, List.set]) ?_
    refine c_mlayer_loop (rmQ_of hrt hk) hNl (fun rx erx => ?_) (a.1.1 + 1) 0 0 0 (by decide) (by omega) (by omega) rfl
    exact h _ _ (by rw [show sLayer a x1 = _ from if_neg (by omega), enl]; exact erx) hrt eCt
  · skip
    refine z_ldc (pc := 5) dX11_layer_5 kc_X11_91 ?_
    refine z_iret (pc := 7) dX11_layer_7 rfl ?_
    exact h _ _ (if_pos (by omega) : sLayer a x1 = _).symm hr eqC_rf

theorem c_X11_told {l : Launch} {G : Gx} {d : Nat} {σ : Sg} {Q : Option Value → Sg → Prop} {a : Ab} {x1 x2 : Int32} (hr : rM σ a) (hk : abOk a) (h : ∀ (r : Int32) (τ : Sg), r.toInt = (sTold a x1 x2).1 → rM τ (sTold a x1 x2).2 → eqC σ τ → Q (some (.int r)) τ) : Z l G M_X11_told (d + 4) 0 [some (.ref 1), some (.int x1), some (.int x2)] [] σ Q := by
  have hg := hr.1.1
  have hn := hk.1
  refine z_sub (L' := [some (.ref 1), some (.int x1), some (.int x2), none]) ⟨rfl, rfl, rfl, trivial⟩ ?_
  refine z_aload_n (pc := 0) dX11_told_0 rfl ?_
  refine z_iload_n (pc := 1) dX11_told_1 rfl ?_
  refine z_iv1 (pc := 2) dX11_told_2 kv_X11_131 rfl (by decide) (by decide) rfl rfl ?_
  refine c_X11_isPlant (by omega) (fun q2 => ?_) (fun q2 => ?_)
  · skip
    refine z_if_eq (pc := 5) (tgt := 20) dX11_told_5 rfl (fun hc => absurd hc (by decide)) (fun _ => ?_)
    refine z_iload_n (pc := 8) dX11_told_8 rfl ?_
    refine z_i2lT (pc := 9) dX11_told_9 rfl (fun v9 e9 => ?_)
    refine z_lconst (pc := 10) (v := 0) dX11_told_10 (by decide) ?_
    refine z_ldc2 (pc := 11) dX11_told_11 kc_X11_138 ?_
    refine z_is3 (pc := 14) dX11_told_14 ks_X11_81 rfl rfl ?_
    refine c_X11_in (cl := 0) (cm := 3) (by first | assumption | rfl) (by decide) (by decide) (fun q14 => ?_) (fun q14 => ?_)
    · skip
      refine z_if_ne (pc := 17) (tgt := 23) dX11_told_17 rfl (fun _ => ?_) (fun hc => absurd hc (by decide))
      obtain ⟨i, hi, hie⟩ : ∃ i : Nat, i < a.1.1 ∧ x1.toInt = (i : Int) := ⟨x1.toInt.toNat, by omega, by omega⟩
      have hp : plM σ i (a.1.2 i) := hr.1.2 i hi
      have h7 := hp.2.2.2.2
      have hgd : in03 x2.toInt 4 = true := decide_eq_true (by omega)
      refine z_aload_n (pc := 23) dX11_told_23 rfl ?_
      refine z_getR (pc := 24) (t := 35) dX11_told_24 fk_X11_22 rfl (by decide) (by decide) (by decide) rfl ?_
      refine z_iload_n (pc := 27) dX11_told_27 rfl ?_
      refine z_zaldN (pc := 28) i dX11_told_28 rfl (by decide) hie (by show _ < 40; omega) ?_
      refine zq_if_eq (pc := 29) (tgt := 38) dX11_told_29 rfl rfl (fun h29 => ?_) (fun h29 => ?_)
      · skip
        refine z_iload_n (pc := 38) dX11_told_38 rfl ?_
        refine z_iconst (pc := 39) (v := 3) dX11_told_39 (by decide) ?_
        refine zq_icmp_ne (pc := 40) (cy := 3) (tgt := 48) dX11_told_40 rfl rfl (by decide) (fun h40 => ?_) (fun h40 => ?_)
        · skip
          refine z_aload_n (pc := 48) dX11_told_48 rfl ?_
          refine z_iload_n (pc := 49) dX11_told_49 rfl ?_
          refine zq_if_ne (pc := 50) (tgt := 62) dX11_told_50 rfl rfl (fun h50 => ?_) (fun h50 => ?_)
          · skip
            refine z_iload_n (pc := 62) dX11_told_62 rfl ?_
            refine z_iconst (pc := 63) (v := 1) dX11_told_63 (by decide) ?_
            refine zq_icmp_ne (pc := 64) (cy := 1) (tgt := 76) dX11_told_64 rfl rfl (by decide) (fun h64 => ?_) (fun h64 => ?_)
            · skip
              refine z_iload_n (pc := 76) dX11_told_76 rfl ?_
              refine z_iconst (pc := 77) (v := 2) dX11_told_77 (by decide) ?_
              refine zq_icmp_ne (pc := 78) (cy := 2) (tgt := 90) dX11_told_78 rfl rfl (by decide) (fun h78 => ?_) (fun h78 => ?_)
              · skip
                refine z_aload_n (pc := 90) dX11_told_90 rfl ?_
                refine z_getR (pc := 91) (t := 47) dX11_told_91 fk_X11_69 rfl (by decide) (by decide) (by decide) rfl ?_
                refine z_iload_n (pc := 94) dX11_told_94 rfl ?_
                refine z_ialdN (pc := 95) i dX11_told_95 rfl (by decide) hie (by show _ < 40; omega) ?_
                refine z_iv1 (pc := 96) dX11_told_96 kv_X11_96 rfl (by decide) (by decide) rfl rfl ?_
                refine c_X11_well ?_
                refine z_iret (pc := 99) dX11_told_99 rfl ?_
                exfalso; omega
              · skip
                refine z_aload_n (pc := 81) dX11_told_81 rfl ?_
                refine z_getR (pc := 82) (t := 33) dX11_told_82 fk_X11_16 rfl (by decide) (by decide) (by decide) rfl ?_
                refine z_iload_n (pc := 85) dX11_told_85 rfl ?_
                refine z_ialdN (pc := 86) i dX11_told_86 rfl (by decide) hie (by show _ < 40; omega) ?_
                refine z_goto (pc := 87) (tgt := 96) dX11_told_87 rfl ?_
                refine z_iv1 (pc := 96) dX11_told_96 kv_X11_96 rfl (by decide) (by decide) rfl rfl ?_
                refine c_X11_well ?_
                refine z_iret (pc := 99) dX11_told_99 rfl ?_
                have e : sTold a x1 x2 = (toldV a x2.toInt i, stat a 0) := sGiv_3 hi hie hgd (mthere_of h7 h29)
                exact h _ _ (by rw [e, show toldV a x2.toInt i = _ from (if_neg (by omega)).trans ((if_neg (by omega)).trans (if_pos (by omega))), hp.2.2.1]) (by rw [e]; exact rM_stat hr) (eqC_uI eqC_rf rfl)
            · skip
              refine z_aload_n (pc := 67) dX11_told_67 rfl ?_
              refine z_getR (pc := 68) (t := 32) dX11_told_68 fk_X11_13 rfl (by decide) (by decide) (by decide) rfl ?_
              refine z_iload_n (pc := 71) dX11_told_71 rfl ?_
              refine z_ialdN (pc := 72) i dX11_told_72 rfl (by decide) hie (by show _ < 40; omega) ?_
              refine z_goto (pc := 73) (tgt := 96) dX11_told_73 rfl ?_
              refine z_iv1 (pc := 96) dX11_told_96 kv_X11_96 rfl (by decide) (by decide) rfl rfl ?_
              refine c_X11_well ?_
              refine z_iret (pc := 99) dX11_told_99 rfl ?_
              have e : sTold a x1 x2 = (toldV a x2.toInt i, stat a 0) := sGiv_3 hi hie hgd (mthere_of h7 h29)
              exact h _ _ (by rw [e, show toldV a x2.toInt i = _ from (if_neg (by omega)).trans (if_pos (by omega)), hp.2.1]) (by rw [e]; exact rM_stat hr) (eqC_uI eqC_rf rfl)
          · skip
            refine z_aload_n (pc := 53) dX11_told_53 rfl ?_
            refine z_getR (pc := 54) (t := 31) dX11_told_54 fk_X11_7 rfl (by decide) (by decide) (by decide) rfl ?_
            refine z_iload_n (pc := 57) dX11_told_57 rfl ?_
            refine z_ialdN (pc := 58) i dX11_told_58 rfl (by decide) hie (by show _ < 40; omega) ?_
            refine z_goto (pc := 59) (tgt := 96) dX11_told_59 rfl ?_
            refine z_iv1 (pc := 96) dX11_told_96 kv_X11_96 rfl (by decide) (by decide) rfl rfl ?_
            refine c_X11_well ?_
            refine z_iret (pc := 99) dX11_told_99 rfl ?_
            have e : sTold a x1 x2 = (toldV a x2.toInt i, stat a 0) := sGiv_3 hi hie hgd (mthere_of h7 h29)
            exact h _ _ (by rw [e, show toldV a x2.toInt i = _ from if_pos (by omega), hp.1]) (by rw [e]; exact rM_stat hr) (eqC_uI eqC_rf rfl)
        · skip
          refine z_aload_n (pc := 43) dX11_told_43 rfl ?_
          refine z_iv0 (pc := 44) dX11_told_44 kv_X11_140 rfl (by decide) (by decide) rfl rfl ?_
          refine c_X11_findLayers (rmQ_of hr hk) (fun nl rl τ hN hNn hNl hF => ?_)
          have enl := nLY_eq hN
          have hrt := rM_FrQ hr hF
          have eCt := FrQ_C hF
          refine z_istore_n (pc := 47) dX11_told_47 rfl rfl (by dsimp only [setI, setL, List.set]) ?_
          refine z_aload_n (pc := 48) dX11_told_48 rfl ?_
          refine z_iload_n (pc := 49) dX11_told_49 rfl ?_
          refine zq_if_ne (pc := 50) (tgt := 62) dX11_told_50 rfl rfl (fun h50 => ?_) (fun h50 => ?_)
          · skip
            refine z_iload_n (pc := 62) dX11_told_62 rfl ?_
            refine z_iconst (pc := 63) (v := 1) dX11_told_63 (by decide) ?_
            refine zq_icmp_ne (pc := 64) (cy := 1) (tgt := 76) dX11_told_64 rfl rfl (by decide) (fun h64 => ?_) (fun h64 => ?_)
            · skip
              refine z_iload_n (pc := 76) dX11_told_76 rfl ?_
              refine z_iconst (pc := 77) (v := 2) dX11_told_77 (by decide) ?_
              refine zq_icmp_ne (pc := 78) (cy := 2) (tgt := 90) dX11_told_78 rfl rfl (by decide) (fun h78 => ?_) (fun h78 => ?_)
              · skip
                refine z_aload_n (pc := 90) dX11_told_90 rfl ?_
                refine z_getR (pc := 91) (t := 47) dX11_told_91 fk_X11_69 rfl (by decide) (by decide) (by decide) rfl ?_
                refine z_iload_n (pc := 94) dX11_told_94 rfl ?_
                refine z_ialdN (pc := 95) i dX11_told_95 rfl (by decide) hie (by show _ < 40; omega) ?_
                refine z_iv1 (pc := 96) dX11_told_96 kv_X11_96 rfl (by decide) (by decide) rfl rfl ?_
                refine c_X11_well ?_
                refine z_iret (pc := 99) dX11_told_99 rfl ?_
                have e : sTold a x1 x2 = (toldV a x2.toInt i, stat a 0) := sGiv_3 hi hie hgd (mthere_of h7 h29)
                exact h _ _ (by rw [e, show toldV a x2.toInt i = _ from (if_neg (by omega)).trans ((if_neg (by omega)).trans (if_neg (by omega))), enl]; exact hNl i (prs_mem.mpr ⟨hi, mthere_of h7 h29⟩)) (by rw [e]; exact rM_stat hrt) (eqC_uI eCt rfl)
              · skip
                refine z_aload_n (pc := 81) dX11_told_81 rfl ?_
                refine z_getR (pc := 82) (t := 33) dX11_told_82 fk_X11_16 rfl (by decide) (by decide) (by decide) rfl ?_
                refine z_iload_n (pc := 85) dX11_told_85 rfl ?_
                refine z_ialdN (pc := 86) i dX11_told_86 rfl (by decide) hie (by show _ < 40; omega) ?_
                refine z_goto (pc := 87) (tgt := 96) dX11_told_87 rfl ?_
                refine z_iv1 (pc := 96) dX11_told_96 kv_X11_96 rfl (by decide) (by decide) rfl rfl ?_
                refine c_X11_well ?_
                refine z_iret (pc := 99) dX11_told_99 rfl ?_
                exfalso; omega
            · skip
              refine z_aload_n (pc := 67) dX11_told_67 rfl ?_
              refine z_getR (pc := 68) (t := 32) dX11_told_68 fk_X11_13 rfl (by decide) (by decide) (by decide) rfl ?_
              refine z_iload_n (pc := 71) dX11_told_71 rfl ?_
              refine z_ialdN (pc := 72) i dX11_told_72 rfl (by decide) hie (by show _ < 40; omega) ?_
              refine z_goto (pc := 73) (tgt := 96) dX11_told_73 rfl ?_
              refine z_iv1 (pc := 96) dX11_told_96 kv_X11_96 rfl (by decide) (by decide) rfl rfl ?_
              refine c_X11_well ?_
              refine z_iret (pc := 99) dX11_told_99 rfl ?_
              exfalso; omega
          · skip
            refine z_aload_n (pc := 53) dX11_told_53 rfl ?_
            refine z_getR (pc := 54) (t := 31) dX11_told_54 fk_X11_7 rfl (by decide) (by decide) (by decide) rfl ?_
            refine z_iload_n (pc := 57) dX11_told_57 rfl ?_
            refine z_ialdN (pc := 58) i dX11_told_58 rfl (by decide) hie (by show _ < 40; omega) ?_
            refine z_goto (pc := 59) (tgt := 96) dX11_told_59 rfl ?_
            refine z_iv1 (pc := 96) dX11_told_96 kv_X11_96 rfl (by decide) (by decide) rfl rfl ?_
            refine c_X11_well ?_
            refine z_iret (pc := 99) dX11_told_99 rfl ?_
            exfalso; omega
      · skip
        refine z_aload_n (pc := 32) dX11_told_32 rfl ?_
        refine z_iconst (pc := 33) (v := 1) dX11_told_33 (by decide) ?_
        refine z_iv1 (pc := 34) dX11_told_34 kv_X11_92 rfl (by decide) (by decide) rfl rfl ?_
        refine c_X11_finds (by decide) (by decide) (fun r er => ?_)
        refine z_iret (pc := 37) dX11_told_37 rfl ?_
        have e : sTold a x1 x2 = _ := sGiv_2 hi hie hgd (maway_of h7 h29)
        exact h _ _ (by rw [e, er]; rfl) (by rw [e]; exact rM_stat hr) (eqC_uI eqC_rf rfl)
    · skip
      refine z_if_ne (pc := 17) (tgt := 23) dX11_told_17 rfl (fun hc => absurd hc (by decide)) (fun _ => ?_)
      refine z_ldc (pc := 20) dX11_told_20 kc_X11_91 ?_
      refine z_iret (pc := 22) dX11_told_22 rfl ?_
      have hor : ¬ (0 ≤ x1.toInt ∧ x1.toInt < (a.1.1 : Int)) ∨ in03 x2.toInt 4 = false := by first | exact Or.inl (by omega) | exact Or.inr (decide_eq_false (by omega))
      have e : sTold a x1 x2 = _ := sGiv_1 hor
      exact h _ _ (by rw [e]; rfl) (by rw [e]; exact hr) eqC_rf
  · skip
    refine z_if_eq (pc := 5) (tgt := 20) dX11_told_5 rfl (fun _ => ?_) (fun hc => absurd hc (by decide))
    refine z_ldc (pc := 20) dX11_told_20 kc_X11_91 ?_
    refine z_iret (pc := 22) dX11_told_22 rfl ?_
    have hor : ¬ (0 ≤ x1.toInt ∧ x1.toInt < (a.1.1 : Int)) ∨ in03 x2.toInt 4 = false := by first | exact Or.inl (by omega) | exact Or.inr (decide_eq_false (by omega))
    have e : sTold a x1 x2 = _ := sGiv_1 hor
    exact h _ _ (by rw [e]; rfl) (by rw [e]; exact hr) eqC_rf

theorem c_mcount_b {l : Launch} {G : Gx} {d : Nat} {σ : Sg} {Q : Option Value → Sg → Prop} {a : Ab} {x1 : Int32} (hr : rM σ a) (hk : abOk a) (h : ∀ x : Int32, x.toInt = (bdN a.2.1 8 : Int) → Q (some (.int x)) σ) : ∀ (f k : Nat) (x2 x3 : Int32), x3.toInt = (k : Int) → k ≤ 8 → 8 - k < f → x2.toInt = (bdN a.2.1 k : Int) → Z l G M_X11_count d 56 [some (.ref 1), some (.int x1), some (.int x2), some (.int x3)] [] σ Q := by
  intro f
  induction f with
  | zero => intro k x2 x3 hk8 hkl hfu h2; omega
  | succ f ih =>
  intro k x2 x3 hk8 hkl hfu h2
  have hle := bdN_le a.2.1 k
  refine z_iload_n (pc := 56) dX11_count_56 rfl ?_
  refine z_bipush (pc := 57) (v := 8) dX11_count_57 (by decide) ?_
  refine zq_icmp_ge (pc := 59) (cy := 8) (tgt := 85) dX11_count_59 rfl rfl (by decide) (fun h59 => ?_) (fun h59 => ?_)
  · skip
    refine z_iload_n (pc := 85) dX11_count_85 rfl ?_
    refine z_iret (pc := 86) dX11_count_86 rfl ?_
    have e : k = 8 := by omega
    subst e
    exact h _ h2
  · skip
    have hbk := (hr.2.1 k (by omega)).1
    have hbo := hk.2.2.1 k (by omega)
    have hst : bdN a.2.1 (k + 1) = bdN a.2.1 k + (if (a.2.1 k).1 = 0 then 0 else 1) := rfl
    refine z_iload_n (pc := 62) dX11_count_62 rfl ?_
    refine z_aload_n (pc := 63) dX11_count_63 rfl ?_
    refine z_getR (pc := 64) (t := 36) dX11_count_64 fk_X11_31 rfl (by decide) (by decide) (by decide) rfl ?_
    refine z_iload_n (pc := 67) dX11_count_67 rfl ?_
    refine z_ialdN (pc := 68) k dX11_count_68 rfl (by decide) hk8 (by show _ < 8; omega) ?_
    refine zq_if_le (pc := 69) (tgt := 76) dX11_count_69 rfl rfl (fun h69 => ?_) (fun h69 => ?_)
    · skip
      refine z_iconst (pc := 76) (v := 0) dX11_count_76 (by decide) ?_
      refine z_iaddT (pc := 77) (cy := 0) dX11_count_77 rfl (by decide) (by omega) (by omega) (fun v77 e77 => ?_)
      refine z_istore_n (pc := 78) dX11_count_78 rfl rfl (by dsimp only [setI, setL, List.set]) ?_
      refine z_iincT (pc := 79) dX11_count_79 rfl rfl (by decide) (by decide) (by omega) (by omega) rfl rfl (fun v => by dsimp only [setI, setL, List.set]) (fun v79 e79 => ?_)
      refine z_goto (pc := 82) (tgt := 56) dX11_count_82 rfl ?_
      have hz : (a.2.1 k).1 = 0 := Int32.toInt_inj.mp (by rw [hbk] at h69; have := hbo.1; show _ = (0 : Int); omega)
      rw [if_pos hz] at hst
      exact ih (k + 1) v77 v79 (by omega) (by omega) (by omega) (by rw [hst]; omega)
    · skip
      refine z_iconst (pc := 72) (v := 1) dX11_count_72 (by decide) ?_
      refine z_goto (pc := 73) (tgt := 77) dX11_count_73 rfl ?_
      refine z_iaddT (pc := 77) (cy := 1) dX11_count_77 rfl (by decide) (by omega) (by omega) (fun v77 e77 => ?_)
      refine z_istore_n (pc := 78) dX11_count_78 rfl rfl (by dsimp only [setI, setL, List.set]) ?_
      refine z_iincT (pc := 79) dX11_count_79 rfl rfl (by decide) (by decide) (by omega) (by omega) rfl rfl (fun v => by dsimp only [setI, setL, List.set]) (fun v79 e79 => ?_)
      refine z_goto (pc := 82) (tgt := 56) dX11_count_82 rfl ?_
      have hz : ¬ (a.2.1 k).1 = 0 := fun hc => by rw [hbk, hc] at h69; exact absurd h69 (by decide)
      rw [if_neg hz] at hst
      exact ih (k + 1) v77 v79 (by omega) (by omega) (by omega) (by rw [hst]; omega)

theorem c_mcount_s {l : Launch} {G : Gx} {d : Nat} {σ : Sg} {Q : Option Value → Sg → Prop} {w n : Nat} {pt : Nat → Pt} {x1 : Int32} (hQ : rmQ σ n pt) (hw : w < 3) (hx : x1.toInt = (w : Int) + 4) (h : ∀ x : Int32, x.toInt = sumW n pt w → Q (some (.int x)) σ) : ∀ (f k : Nat) (x2 x3 : Int32), x3.toInt = (k : Int) → k ≤ n → n - k < f → x2.toInt = smN pt (fun i => cnt w (pt i)) k → Z l G M_X11_count (d + 6) 94 [some (.ref 1), some (.int x1), some (.int x2), some (.int x3)] [] σ Q := by
  intro f
  induction f with
  | zero => intro k x2 x3 hk hkn hfu h2; omega
  | succ f ih =>
  intro k x2 x3 hk hkn hfu h2
  have hg := hQ.2.1.1
  have hn := hQ.1
  have hsr := smN_rng (pt := pt) (g := (fun i => cnt w (pt i))) (c := 4) (by omega) (fun i => cnt_rng _ _) k
  have hcr := cnt_rng w (pt k)
  have hst : smN pt (fun i => cnt w (pt i)) (k + 1) = smN pt (fun i => cnt w (pt i)) k + (if (pt k).2.2.2.2 then 0 else cnt w (pt k)) := rfl
  refine z_iload_n (pc := 94) dX11_count_94 rfl ?_
  refine z_aload_n (pc := 95) dX11_count_95 rfl ?_
  refine z_getI (pc := 96) dX11_count_96 fk_X11_101 rfl (by decide) (by decide) (by decide) ?_
  refine zq_icmp_ge (pc := 99) (tgt := 132) dX11_count_99 rfl rfl rfl (fun h99 => ?_) (fun h99 => ?_)
  · skip
    refine z_iload_n (pc := 132) dX11_count_132 rfl ?_
    refine z_iret (pc := 133) dX11_count_133 rfl ?_
    have e : k = n := by omega
    subst e
    exact h _ (by rw [h2, smN_eq]; rfl)
  · skip
    refine z_iload_n (pc := 102) dX11_count_102 rfl ?_
    refine z_aload_n (pc := 103) dX11_count_103 rfl ?_
    refine z_getR (pc := 104) (t := 35) dX11_count_104 fk_X11_22 rfl (by decide) (by decide) (by decide) rfl ?_
    refine z_iload_n (pc := 107) dX11_count_107 rfl ?_
    refine z_zaldN (pc := 108) k dX11_count_108 rfl (by decide) hk (by show _ < 40; omega) ?_
    refine zq_if_eq (pc := 109) (tgt := 116) dX11_count_109 rfl rfl (fun h109 => ?_) (fun h109 => ?_)
    · skip
      refine z_aload_n (pc := 116) dX11_count_116 rfl ?_
      refine z_iload_n (pc := 117) dX11_count_117 rfl ?_
      refine z_iload_n (pc := 118) dX11_count_118 rfl ?_
      refine z_iconst (pc := 119) (v := 4) dX11_count_119 (by decide) ?_
      refine z_isubT (pc := 120) (cy := 4) dX11_count_120 rfl (by decide) (by omega) (by omega) (fun v120 e120 => ?_)
      refine z_iv2 (pc := 121) dX11_count_121 kv_X11_172 rfl (by decide) (by decide) rfl rfl ?_
      have hpi := hQ.2.1.2 k (by omega)
      have hx4 : v120.toInt = (w : Int) := by omega
      refine c_masked (p := k) (by omega) hk hQ.2.2.2.2 (by rw [hpi.2.2.1]; exact (hQ.2.2.1 k (by omega)).2.2.2.2.1) (by rw [hpi.2.2.1]; exact (hQ.2.2.1 k (by omega)).2.2.2.2.2.1) (by omega) (by omega) (fun rv erv => ?_)
      rw [bgs_off _ _ hQ.2.2.2.1]
      rw [hpi.2.2.1, hpi.2.2.2.1, hx4, asV_cnt hw] at erv
      refine z_iaddT (pc := 124) dX11_count_124 rfl rfl (by omega) (by omega) (fun v124 e124 => ?_)
      refine z_istore_n (pc := 125) dX11_count_125 rfl rfl (by dsimp only [setI, setL, List.set]) ?_
      refine z_iincT (pc := 126) dX11_count_126 rfl rfl (by decide) (by decide) (by omega) (by omega) rfl rfl (fun v => by dsimp only [setI, setL, List.set]) (fun v126 e126 => ?_)
      refine z_goto (pc := 129) (tgt := 94) dX11_count_129 rfl ?_
      rw [if_neg (by rw [mthere_of (hQ.2.1.2 k (by omega)).2.2.2.2 h109]; decide)] at hst
      exact ih (k + 1) v124 v126 (by omega) (by omega) (by omega) (by rw [hst]; omega)
    · skip
      refine z_iconst (pc := 112) (v := 0) dX11_count_112 (by decide) ?_
      refine z_goto (pc := 113) (tgt := 124) dX11_count_113 rfl ?_
      refine z_iaddT (pc := 124) (cy := 0) dX11_count_124 rfl (by decide) (by omega) (by omega) (fun v124 e124 => ?_)
      refine z_istore_n (pc := 125) dX11_count_125 rfl rfl (by dsimp only [setI, setL, List.set]) ?_
      refine z_iincT (pc := 126) dX11_count_126 rfl rfl (by decide) (by decide) (by omega) (by omega) rfl rfl (fun v => by dsimp only [setI, setL, List.set]) (fun v126 e126 => ?_)
      refine z_goto (pc := 129) (tgt := 94) dX11_count_129 rfl ?_
      rw [if_pos (maway_of (hQ.2.1.2 k (by omega)).2.2.2.2 h109)] at hst
      exact ih (k + 1) v124 v126 (by omega) (by omega) (by omega) (by rw [hst]; omega)

theorem c_X11_count {l : Launch} {G : Gx} {d : Nat} {σ : Sg} {Q : Option Value → Sg → Prop} {a : Ab} {x1 : Int32} (hr : rM σ a) (hk : abOk a) (h : ∀ (r : Int32) (τ : Sg), r.toInt = sCount a x1 → rM τ a → eqC σ τ → Q (some (.int r)) τ) : Z l G M_X11_count (d + 7) 0 [some (.ref 1), some (.int x1)] [] σ Q := by
  refine z_sub (L' := [some (.ref 1), some (.int x1), none, none]) ⟨rfl, rfl, trivial⟩ ?_
  refine z_iconst (pc := 0) (v := 0) dX11_count_0 (by decide) ?_
  refine z_istore_n (pc := 1) dX11_count_1 rfl rfl (by dsimp only [setI, setL, List.set]) ?_
  refine z_iload_n (pc := 2) dX11_count_2 rfl ?_
  rcases (show x1.toInt = 0 ∨ x1.toInt = 1 ∨ x1.toInt = 2 ∨ x1.toInt = 3 ∨ x1.toInt = 4 ∨ x1.toInt = 5 ∨ x1.toInt = 6 ∨ (x1.toInt < 0 ∨ 6 < x1.toInt) by omega) with ek | ek | ek | ek | ek | ek | ek | ek
  · refine zq_swIn (pc := 3) (c := 0) (tgt := 44) dX11_count_3 ek (by decide) (by decide) rfl rfl ?_
    refine z_aload_n (pc := 44) dX11_count_44 rfl ?_
    refine z_iv0 (pc := 45) dX11_count_45 kv_X11_134 rfl (by decide) (by decide) rfl rfl ?_
    refine c_X11_there hk.1 hr.1.1 (fun i hi => (hr.1.2 i hi).2.2.2.2) (fun rt ert => ?_)
    refine z_iret (pc := 48) dX11_count_48 rfl ?_
    exact h _ _ (by rw [(show sCount a x1 = _ from if_pos ek)]; exact ert) hr eqC_rf
  · refine zq_swIn (pc := 3) (c := 1) (tgt := 49) dX11_count_3 ek (by decide) (by decide) rfl rfl ?_
    refine z_aload_n (pc := 49) dX11_count_49 rfl ?_
    refine z_getI (pc := 50) dX11_count_50 fk_X11_101 rfl (by decide) (by decide) (by decide) ?_
    refine z_iret (pc := 53) dX11_count_53 rfl ?_
    exact h _ _ (by rw [(show sCount a x1 = _ from (if_neg (by omega)).trans (if_pos ek))]; exact hr.1.1) hr eqC_rf
  · refine zq_swIn (pc := 3) (c := 2) (tgt := 54) dX11_count_3 ek (by decide) (by decide) rfl rfl ?_
    refine z_iconst (pc := 54) (v := 0) dX11_count_54 (by decide) ?_
    refine z_istore_n (pc := 55) dX11_count_55 rfl rfl (by dsimp only [setI, setL, List.set]) ?_
    refine c_mcount_b hr hk (fun rb erb => ?_) 9 0 0 0 (by decide) (by omega) (by omega) rfl
    exact h _ _ (by rw [(show sCount a x1 = _ from (if_neg (by omega)).trans ((if_neg (by omega)).trans (if_pos ek)))]; exact erb) hr eqC_rf
  · refine zq_swIn (pc := 3) (c := 3) (tgt := 87) dX11_count_3 ek (by decide) (by decide) rfl rfl ?_
    refine z_aload_n (pc := 87) dX11_count_87 rfl ?_
    refine z_iv0 (pc := 88) dX11_count_88 kv_X11_140 rfl (by decide) (by decide) rfl rfl ?_
    refine c_X11_findLayers (rmQ_of hr hk) (fun nl rl τ hN hNn hNl hF => ?_)
    have enl := nLY_eq hN
    have hrt := rM_FrQ hr hF
    have eCt := FrQ_C hF
    refine z_iret (pc := 91) dX11_count_91 rfl ?_
    exact h _ _ (by rw [(show sCount a x1 = _ from (if_neg (by omega)).trans ((if_neg (by omega)).trans ((if_neg (by omega)).trans (if_pos ek)))), enl]; exact hNn) hrt eCt
  · refine zq_swIn (pc := 3) (c := 4) (tgt := 92) dX11_count_3 ek (by decide) (by decide) rfl rfl ?_
    refine z_iconst (pc := 92) (v := 0) dX11_count_92 (by decide) ?_
    refine z_istore_n (pc := 93) dX11_count_93 rfl rfl (by dsimp only [setI, setL, List.set]) ?_
    refine c_mcount_s (w := 0) (rmQ_of hr hk) (by decide) (by omega) (fun rx erx => ?_) (a.1.1 + 1) 0 0 0 (by decide) (by omega) (by omega) rfl
    exact h _ _ (by rw [(show sCount a x1 = _ from (if_neg (by omega)).trans ((if_neg (by omega)).trans ((if_neg (by omega)).trans ((if_neg (by omega)).trans (if_pos ek)))))]; exact erx) hr eqC_rf
  · refine zq_swIn (pc := 3) (c := 5) (tgt := 92) dX11_count_3 ek (by decide) (by decide) rfl rfl ?_
    refine z_iconst (pc := 92) (v := 0) dX11_count_92 (by decide) ?_
    refine z_istore_n (pc := 93) dX11_count_93 rfl rfl (by dsimp only [setI, setL, List.set]) ?_
    refine c_mcount_s (w := 1) (rmQ_of hr hk) (by decide) (by omega) (fun rx erx => ?_) (a.1.1 + 1) 0 0 0 (by decide) (by omega) (by omega) rfl
    exact h _ _ (by rw [(show sCount a x1 = _ from (if_neg (by omega)).trans ((if_neg (by omega)).trans ((if_neg (by omega)).trans ((if_neg (by omega)).trans ((if_neg (by omega)).trans (if_pos ek))))))]; exact erx) hr eqC_rf
  · refine zq_swIn (pc := 3) (c := 6) (tgt := 92) dX11_count_3 ek (by decide) (by decide) rfl rfl ?_
    refine z_iconst (pc := 92) (v := 0) dX11_count_92 (by decide) ?_
    refine z_istore_n (pc := 93) dX11_count_93 rfl rfl (by dsimp only [setI, setL, List.set]) ?_
    refine c_mcount_s (w := 2) (rmQ_of hr hk) (by decide) (by omega) (fun rx erx => ?_) (a.1.1 + 1) 0 0 0 (by decide) (by omega) (by omega) rfl
    exact h _ _ (by rw [(show sCount a x1 = _ from (if_neg (by omega)).trans ((if_neg (by omega)).trans ((if_neg (by omega)).trans ((if_neg (by omega)).trans ((if_neg (by omega)).trans ((if_neg (by omega)).trans (if_pos ek)))))))]; exact erx) hr eqC_rf
  · refine zq_swOut (pc := 3) (tgt := 134) dX11_count_3 ek rfl ?_
    refine z_ldc (pc := 134) dX11_count_134 kc_X11_91 ?_
    refine z_iret (pc := 136) dX11_count_136 rfl ?_
    exact h _ _ (by rw [(show sCount a x1 = _ from (if_neg (by omega)).trans ((if_neg (by omega)).trans ((if_neg (by omega)).trans ((if_neg (by omega)).trans ((if_neg (by omega)).trans ((if_neg (by omega)).trans (if_neg (by omega))))))))]; rfl) hr eqC_rf
