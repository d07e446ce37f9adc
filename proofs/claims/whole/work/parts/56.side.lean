def lnI (a : Ab) : Int × Int × Int := (a.2.2.2.2.1.1.toInt, a.2.2.2.2.1.2.1.toInt, a.2.2.2.2.1.2.2.toInt)
theorem lnI_ok {a : Ab} (h : abOk a) : (lnI a).1.natAbs ≤ 1000000 ∧ (lnI a).2.1.natAbs ≤ 1000000 ∧ (lnI a).2.2.natAbs ≤ 1000000 := by
  have k1 := h.2.2.2.2.1
  have k2 := h.2.2.2.2.2.1
  have k3 := h.2.2.2.2.2.2.1
  unfold lnOk at k1 k2 k3
  unfold lnI
  dsimp only
  omega
def sSide (a : Ab) (w s : Int32) : Int := if ¬ (0 ≤ w.toInt ∧ w.toInt < 3 ∧ 0 ≤ s.toInt ∧ s.toInt < 3) then -1000001 else sumS a.1.1 a.1.2 w.toInt.toNat (lnI a) s
def sHalves (a : Ab) (w : Int32) : Int := if ¬ (0 ≤ w.toInt ∧ w.toInt < 3) then -1000001 else if hlv a.1.1 a.1.2 w.toInt.toNat (lnI a) then 1 else 0
theorem rC_isLn {σ : Sg} {a : Ab} (h : rC σ a) : isLn σ 10 (lnI a) := by
  obtain ⟨h1, h2, h3⟩ := h.2.2.2.2.1
  exact ⟨by rw [h1]; rfl, by rw [h2]; rfl, by rw [h3]; rfl⟩

theorem c_X10_side {l : Launch} {G : Gx} {d : Nat} {σ : Sg} {Q : Option Value → Sg → Prop} {a : Ab} {x1 x2 : Int32} (hr : rC σ a) (hk : abOk a) (h : ∀ (r : Int32) (τ : Sg), r.toInt = sSide a x1 x2 → rC τ a → eqM σ τ → Q (some (.int r)) τ) : Z l G M_X10_side (d + 3) 0 [some (.ref 0), some (.int x1), some (.int x2)] [] σ Q := by
  refine z_sub (L' := [some (.ref 0), some (.int x1), some (.int x2)]) ⟨rfl, rfl, rfl, trivial⟩ ?_
  refine z_iload_n (pc := 0) dX10_side_0 rfl ?_
  refine z_iconst (pc := 1) (v := 3) dX10_side_1 (by decide) ?_
  refine z_is2 (pc := 2) dX10_side_2 ks_X10_88 rfl rfl ?_
  refine c_X10_isBelow (b := 3) (fun q2 => ?_) (fun q2 => ?_)
  · skip
    refine z_if_eq (pc := 5) (tgt := 16) dX10_side_5 rfl (fun hc => absurd hc (by decide)) (fun _ => ?_)
    refine z_iload_n (pc := 8) dX10_side_8 rfl ?_
    refine z_iconst (pc := 9) (v := 3) dX10_side_9 (by decide) ?_
    refine z_is2 (pc := 10) dX10_side_10 ks_X10_88 rfl rfl ?_
    refine c_X10_isBelow (b := 3) (fun q10 => ?_) (fun q10 => ?_)
    · skip
      refine z_if_ne (pc := 13) (tgt := 19) dX10_side_13 rfl (fun _ => ?_) (fun hc => absurd hc (by decide))
      have h3 : (3 : Int32).toInt = 3 := rfl
      obtain ⟨w, hw, hwe⟩ : ∃ w : Nat, w < 3 ∧ x1.toInt = (w : Int) := ⟨x1.toInt.toNat, by omega, by omega⟩
      have hwn : x1.toInt.toNat = w := by omega
      refine z_aload_n (pc := 19) dX10_side_19 rfl ?_
      refine z_iv0 (pc := 20) dX10_side_20 kv_X10_165 rfl (by decide) (by decide) rfl rfl ?_
      refine c_X10_gathered hk.1 hr.1 hr.2.2.2.2.2.2.1.1 (fun τ hS hkn hE => ?_)
      have hrt := rC_gath hr hE hS
      refine z_aload_n (pc := 23) dX10_side_23 rfl ?_
      refine z_getR (pc := 24) (t := 10) dX10_side_24 fk_X10_45 rfl (by decide) (by decide) (by decide) rfl ?_
      refine z_iload_n (pc := 27) dX10_side_27 rfl ?_
      refine z_iload_n (pc := 28) dX10_side_28 rfl ?_
      refine z_iv3 (pc := 29) dX10_side_29 kv_X10_245 rfl (by decide) (by decide) rfl rfl ?_
      refine c_X7_sumAt (w := w) hwe hw hS hk.1 rfl (by decide) (rC_isLn hrt) (lnI_ok hk) hk.2.1 (fun r er => ?_)
      refine z_iret (pc := 32) dX10_side_32 rfl ?_
      exact h _ _ (by rw [sSide, if_neg (by omega), hwn]; exact er) hrt (eqX_M hE (by omega) (by omega))
    · skip
      refine z_if_ne (pc := 13) (tgt := 19) dX10_side_13 rfl (fun hc => absurd hc (by decide)) (fun _ => ?_)
      refine z_ldc (pc := 16) dX10_side_16 kc_X10_92 ?_
      refine z_iret (pc := 18) dX10_side_18 rfl ?_
      have h3 : (3 : Int32).toInt = 3 := rfl
      exact h _ _ (by rw [sSide, if_pos (by omega)]; rfl) hr eqM_rf
  · skip
    refine z_if_eq (pc := 5) (tgt := 16) dX10_side_5 rfl (fun _ => ?_) (fun hc => absurd hc (by decide))
    refine z_ldc (pc := 16) dX10_side_16 kc_X10_92 ?_
    refine z_iret (pc := 18) dX10_side_18 rfl ?_
    have h3 : (3 : Int32).toInt = 3 := rfl
    exact h _ _ (by rw [sSide, if_pos (by omega)]; rfl) hr eqM_rf

theorem c_X10_halves {l : Launch} {G : Gx} {d : Nat} {σ : Sg} {Q : Option Value → Sg → Prop} {a : Ab} {x1 : Int32} (hr : rC σ a) (hk : abOk a) (h : ∀ (r : Int32) (τ : Sg), r.toInt = sHalves a x1 → rC τ a → eqM σ τ → Q (some (.int r)) τ) : Z l G M_X10_halves (d + 3) 0 [some (.ref 0), some (.int x1)] [] σ Q := by
  refine z_sub (L' := [some (.ref 0), some (.int x1)]) ⟨rfl, rfl, trivial⟩ ?_
  refine z_iload_n (pc := 0) dX10_halves_0 rfl ?_
  refine z_iconst (pc := 1) (v := 3) dX10_halves_1 (by decide) ?_
  refine z_is2 (pc := 2) dX10_halves_2 ks_X10_88 rfl rfl ?_
  refine c_X10_isBelow (b := 3) (fun q2 => ?_) (fun q2 => ?_)
  · skip
    refine z_if_ne (pc := 5) (tgt := 11) dX10_halves_5 rfl (fun _ => ?_) (fun hc => absurd hc (by decide))
    have h3 : (3 : Int32).toInt = 3 := rfl
    obtain ⟨w, hw, hwe⟩ : ∃ w : Nat, w < 3 ∧ x1.toInt = (w : Int) := ⟨x1.toInt.toNat, by omega, by omega⟩
    have hwn : x1.toInt.toNat = w := by omega
    refine z_aload_n (pc := 11) dX10_halves_11 rfl ?_
    refine z_iv0 (pc := 12) dX10_halves_12 kv_X10_165 rfl (by decide) (by decide) rfl rfl ?_
    refine c_X10_gathered hk.1 hr.1 hr.2.2.2.2.2.2.1.1 (fun τ hS hkn hE => ?_)
    have hrt := rC_gath hr hE hS
    refine z_aload_n (pc := 15) dX10_halves_15 rfl ?_
    refine z_getR (pc := 16) (t := 10) dX10_halves_16 fk_X10_45 rfl (by decide) (by decide) (by decide) rfl ?_
    refine z_iload_n (pc := 19) dX10_halves_19 rfl ?_
    refine z_iv2 (pc := 20) dX10_halves_20 kv_X10_249 rfl (by decide) (by decide) rfl rfl ?_
    refine c_X7_isHalvedBy (w := w) hwe hw hS hk.1 rfl (by decide) (rC_isLn hrt) (lnI_ok hk) hk.2.1 (fun qh => ?_) (fun qh => ?_)
    · skip
      refine z_if_eq (pc := 23) (tgt := 30) dX10_halves_23 rfl (fun hc => absurd hc (by decide)) (fun _ => ?_)
      refine z_iconst (pc := 26) (v := 1) dX10_halves_26 (by decide) ?_
      refine z_goto (pc := 27) (tgt := 31) dX10_halves_27 rfl ?_
      refine z_iret (pc := 31) dX10_halves_31 rfl ?_
      exact h _ _ (by rw [sHalves, if_neg (by omega), hwn, qh]; rfl) hrt (eqX_M hE (by omega) (by omega))
    · skip
      refine z_if_eq (pc := 23) (tgt := 30) dX10_halves_23 rfl (fun _ => ?_) (fun hc => absurd hc (by decide))
      refine z_iconst (pc := 30) (v := 0) dX10_halves_30 (by decide) ?_
      refine z_iret (pc := 31) dX10_halves_31 rfl ?_
      exact h _ _ (by rw [sHalves, if_neg (by omega), hwn, qh]; rfl) hrt (eqX_M hE (by omega) (by omega))
  · skip
    refine z_if_ne (pc := 5) (tgt := 11) dX10_halves_5 rfl (fun hc => absurd hc (by decide)) (fun _ => ?_)
    refine z_ldc (pc := 8) dX10_halves_8 kc_X10_92 ?_
    refine z_iret (pc := 10) dX10_halves_10 rfl ?_
    have h3 : (3 : Int32).toInt = 3 := rfl
    exact h _ _ (by rw [sHalves, if_pos (by omega)]; rfl) hr eqM_rf

theorem asV_cnt {w : Nat} (hw : w < 3) (p : Pt) : asV (w : Int) p.2.2.1.toInt p.2.2.2.1.toInt = cnt w p := by
  rcases (show w = 0 ∨ w = 1 ∨ w = 2 by omega) with rfl | rfl | rfl <;> rfl
/-- the model's plants, as its walks read them -/
def rmQ (σ : Sg) (n : Nat) (pt : Nat → Pt) : Prop := n ≤ 40 ∧ rmP σ n pt ∧ (∀ i, i < n → ptOk (pt i)) ∧ σ.1 1 19 = 0 ∧ TM σ
theorem rmQ_of {σ : Sg} {a : Ab} (h : rM σ a) (hk : abOk a) : rmQ σ a.1.1 a.1.2 := ⟨hk.1, h.1, hk.2.1, h.2.2.2.1.2.2, by have := h.2.2.2.1.1; have := hk.2.2.2.1; unfold TM; omega⟩
theorem rmQ_Fr {σ τ : Sg} {n : Nat} {pt : Nat → Pt} (h : rmQ σ n pt) (hF : FrQ σ τ) : rmQ τ n pt := by
  obtain ⟨h0, h1, h2, h3, h4⟩ := h
  obtain ⟨f1, f2, f3⟩ := hF
  refine ⟨h0, ⟨by rw [f2 0 (by omega)]; exact h1.1, fun i hi => ?_⟩, h2, by rw [f2 19 (by omega)]; exact h3, by unfold TM; rw [f2 18 (by omega)]; exact h4⟩
  rw [(f1 31 (by omega) (by omega)).1, (f1 32 (by omega) (by omega)).1, (f1 33 (by omega) (by omega)).1, (f1 34 (by omega) (by omega)).1, (f1 35 (by omega) (by omega)).1]; exact h1.2 i hi
theorem rmQ_pt {σ : Sg} {n : Nat} {pt : Nat → Pt} (h : rmQ σ n pt) {i : Nat} (hi : i < n) : ptM σ i := by
  have h1 := h.2.1.2 i hi
  have h2 := h.2.2.1 i hi
  unfold ptM
  unfold ptOk at h2
  rw [h1.1, h1.2.1]
  omega

theorem c_sumOf_loop {l : Launch} {G : Gx} {d : Nat} {σ : Sg} {Q : Option Value → Sg → Prop} {w n : Nat} {pt : Nat → Pt} {t : Int × Int × Int} {x1 x2 : Int32} (hQ : rmQ σ n pt) (hL : isLnM σ t) (hb : t.1.natAbs ≤ 1000000 ∧ t.2.1.natAbs ≤ 1000000 ∧ t.2.2.natAbs ≤ 1000000) (hw : w < 3) (hx : x1.toInt = (w : Int)) (h : ∀ r : Int32, r.toInt = sumS n pt w t x2 → Q (some (.int r)) σ) : ∀ (k i : Nat) (y v : Int32), v.toInt = (i : Int) → i ≤ n → n - i < k → y.toInt = smN pt (fun i => cntS w t x2 (pt i)) i → Z l G M_X11_sumOf (d + 6) 5 [some (.ref 1), some (.int x1), some (.int x2), some (.int y), some (.int v), none, none, none] [] σ Q := by
  intro k
  induction k with
  | zero => intro i y v hv hi hk hy; omega
  | succ k ih =>
  intro i y v hv hi hk hy
  have hg := hQ.2.1.1
  have hn := hQ.1
  refine z_iload (pc := 5) dX11_sumOf_5 rfl ?_
  refine z_aload_n (pc := 7) dX11_sumOf_7 rfl ?_
  refine z_getI (pc := 8) dX11_sumOf_8 fk_X11_101 rfl (by decide) (by decide) (by decide) ?_
  refine zq_icmp_ge (pc := 11) (tgt := 83) dX11_sumOf_11 rfl rfl rfl (fun h11 => ?_) (fun h11 => ?_)
  · skip
    refine z_iload_n (pc := 83) dX11_sumOf_83 rfl ?_
    refine z_iret (pc := 84) dX11_sumOf_84 rfl ?_
    have e : i = n := by omega
    subst e
    refine h y ?_
    rw [hy, smN_eq]
    rfl
  · skip
    refine z_aload_n (pc := 14) dX11_sumOf_14 rfl ?_
    refine z_getR (pc := 15) (t := 35) dX11_sumOf_15 fk_X11_22 rfl (by decide) (by decide) (by decide) rfl ?_
    refine z_iload (pc := 18) dX11_sumOf_18 rfl ?_
    refine z_zaldN (pc := 20) i dX11_sumOf_20 rfl (by decide) hv (by show _ < 40; omega) ?_
    refine zq_if_ne (pc := 21) (tgt := 77) dX11_sumOf_21 rfl rfl (fun h21 => ?_) (fun h21 => ?_)
    · skip
      refine z_iincT (pc := 77) dX11_sumOf_77 rfl rfl (by decide) (by decide) (by omega) (by omega) rfl rfl (fun v => by dsimp only [setI, setL, List.set]) (fun v77 e77 => ?_)
      refine z_goto (pc := 80) (tgt := 5) dX11_sumOf_80 rfl ?_
      refine z_sub (L' := [some _, some _, some _, some _, some _, none, none, none]) ⟨rfl, rfl, rfl, rfl, rfl, trivial⟩ ?_
      have hs : smN pt (fun i => cntS w t x2 (pt i)) (i + 1) = smN pt (fun i => cntS w t x2 (pt i)) i + (if (pt i).2.2.2.2 then 0 else cntS w t x2 (pt i)) := rfl
      rw [if_pos (maway_of (hQ.2.1.2 i (by omega)).2.2.2.2 h21)] at hs
      exact ih (i + 1) y v77 (by omega) (by omega) (by omega) (by rw [hs]; omega)
    · skip
      have hsr := smN_rng (pt := pt) (g := (fun i => cntS w t x2 (pt i))) (c := 4) (by omega) (fun i => cntS_rng _ _ _ _) i
      have hcr := cnt_rng w (pt i)
      refine z_aload_n (pc := 24) dX11_sumOf_24 rfl ?_
      refine z_iload (pc := 25) dX11_sumOf_25 rfl ?_
      refine z_iv1 (pc := 27) dX11_sumOf_27 kv_X11_210 rfl (by decide) (by decide) rfl rfl ?_
      have hpi := hQ.2.1.2 i (by omega)
      refine c_X11_at (p := i) (by omega) hv (rmQ_pt hQ (by omega)) (by rw [hL.1]; omega) (by rw [hL.2.1]; omega) (by rw [hL.2.2]; omega) (fun ra era => ?_)
      rw [hL.1, hL.2.1, hL.2.2, hpi.1, hpi.2.1] at era
      change ra.toInt = lv t (pt i) at era
      refine z_lstore (pc := 30) dX11_sumOf_30 rfl rfl (by dsimp only [setI, setL, List.set]) ?_
      refine z_lload (pc := 32) dX11_sumOf_32 rfl ?_
      refine z_lconst (pc := 34) (v := 0) dX11_sumOf_34 (by decide) ?_
      refine zq_lc_le (pc := 35) (cy := 0) (tgt := 43) dX11_sumOf_35 dX11_sumOf_36 rfl rfl (by decide) (fun h35 => ?_) (fun h35 => ?_)
      · skip
        refine z_lload (pc := 43) dX11_sumOf_43 rfl ?_
        refine z_lconst (pc := 45) (v := 0) dX11_sumOf_45 (by decide) ?_
        refine zq_lc_ne (pc := 46) (cy := 0) (tgt := 54) dX11_sumOf_46 dX11_sumOf_47 rfl rfl (by decide) (fun h46 => ?_) (fun h46 => ?_)
        · skip
          refine z_iconst (pc := 54) (v := 2) dX11_sumOf_54 (by decide) ?_
          refine z_istore (pc := 55) dX11_sumOf_55 rfl rfl (by dsimp only [setI, setL, List.set]) ?_
          refine z_iload_n (pc := 57) dX11_sumOf_57 rfl ?_
          refine z_iload (pc := 58) dX11_sumOf_58 rfl ?_
          refine z_iload_n (pc := 60) dX11_sumOf_60 rfl ?_
          refine zq_icmp_ne (pc := 61) (cx := 2) (tgt := 74) dX11_sumOf_61 rfl (by decide) rfl (fun h61 => ?_) (fun h61 => ?_)
          · skip
            refine z_iconst (pc := 74) (v := 0) dX11_sumOf_74 (by decide) ?_
            refine z_iaddT (pc := 75) (cy := 0) dX11_sumOf_75 rfl (by decide) (by omega) (by omega) (fun v75 e75 => ?_)
            refine z_istore_n (pc := 76) dX11_sumOf_76 rfl rfl (by dsimp only [setI, setL, List.set]) ?_
            refine z_iincT (pc := 77) dX11_sumOf_77 rfl rfl (by decide) (by decide) (by omega) (by omega) rfl rfl (fun v => by dsimp only [setI, setL, List.set]) (fun v77 e77 => ?_)
            refine z_goto (pc := 80) (tgt := 5) dX11_sumOf_80 rfl ?_
            refine z_sub (L' := [some _, some _, some _, some _, some _, none, none, none]) ⟨rfl, rfl, rfl, rfl, rfl, trivial⟩ ?_
            have hs : smN pt (fun i => cntS w t x2 (pt i)) (i + 1) = smN pt (fun i => cntS w t x2 (pt i)) i + (if (pt i).2.2.2.2 then 0 else cntS w t x2 (pt i)) := rfl
            rw [if_neg (by rw [mthere_of (hQ.2.1.2 i (by omega)).2.2.2.2 h21]; decide)] at hs
            have esd : sd (lv t (pt i)) = 2 := by unfold sd; rw [if_neg (by omega), if_neg (by omega)]
            exact ih (i + 1) v75 v77 (by omega) (by omega) (by omega) (by
              rw [hs]
              first | (rw [show cntS w t x2 (pt i) = cnt w (pt i) from if_pos (Int32.toInt_inj.mp (by rw [esd]; exact h61))]; omega) | (rw [show cntS w t x2 (pt i) = 0 from if_neg (fun e => h61 (by rw [← e, esd]; rfl))]; omega))
          · skip
            refine z_aload_n (pc := 64) dX11_sumOf_64 rfl ?_
            refine z_iload (pc := 65) dX11_sumOf_65 rfl ?_
            refine z_iload_n (pc := 67) dX11_sumOf_67 rfl ?_
            refine z_iv2 (pc := 68) dX11_sumOf_68 kv_X11_172 rfl (by decide) (by decide) rfl rfl ?_
            refine c_masked (p := i) (by omega) hv hQ.2.2.2.2 (by rw [hpi.2.2.1]; exact (hQ.2.2.1 i (by omega)).2.2.2.2.1) (by rw [hpi.2.2.1]; exact (hQ.2.2.1 i (by omega)).2.2.2.2.2.1) (by omega) (by omega) (fun rv erv => ?_)
            rw [bgs_off _ _ hQ.2.2.2.1]
            rw [hpi.2.2.1, hpi.2.2.2.1, hx, asV_cnt hw] at erv
            refine z_goto (pc := 71) (tgt := 75) dX11_sumOf_71 rfl ?_
            refine z_iaddT (pc := 75) dX11_sumOf_75 rfl rfl (by omega) (by omega) (fun v75 e75 => ?_)
            refine z_istore_n (pc := 76) dX11_sumOf_76 rfl rfl (by dsimp only [setI, setL, List.set]) ?_
            refine z_iincT (pc := 77) dX11_sumOf_77 rfl rfl (by decide) (by decide) (by omega) (by omega) rfl rfl (fun v => by dsimp only [setI, setL, List.set]) (fun v77 e77 => ?_)
            refine z_goto (pc := 80) (tgt := 5) dX11_sumOf_80 rfl ?_
            refine z_sub (L' := [some _, some _, some _, some _, some _, none, none, none]) ⟨rfl, rfl, rfl, rfl, rfl, trivial⟩ ?_
            have hs : smN pt (fun i => cntS w t x2 (pt i)) (i + 1) = smN pt (fun i => cntS w t x2 (pt i)) i + (if (pt i).2.2.2.2 then 0 else cntS w t x2 (pt i)) := rfl
            rw [if_neg (by rw [mthere_of (hQ.2.1.2 i (by omega)).2.2.2.2 h21]; decide)] at hs
            have esd : sd (lv t (pt i)) = 2 := by unfold sd; rw [if_neg (by omega), if_neg (by omega)]
            exact ih (i + 1) v75 v77 (by omega) (by omega) (by omega) (by
              rw [hs]
              first | (rw [show cntS w t x2 (pt i) = cnt w (pt i) from if_pos (Int32.toInt_inj.mp (by rw [esd]; exact h61))]; omega) | (rw [show cntS w t x2 (pt i) = 0 from if_neg (fun e => h61 (by rw [← e, esd]; rfl))]; omega))
        · skip
          refine z_iconst (pc := 50) (v := 1) dX11_sumOf_50 (by decide) ?_
          refine z_goto (pc := 51) (tgt := 55) dX11_sumOf_51 rfl ?_
          refine z_istore (pc := 55) dX11_sumOf_55 rfl rfl (by dsimp only [setI, setL, List.set]) ?_
          refine z_iload_n (pc := 57) dX11_sumOf_57 rfl ?_
          refine z_iload (pc := 58) dX11_sumOf_58 rfl ?_
          refine z_iload_n (pc := 60) dX11_sumOf_60 rfl ?_
          refine zq_icmp_ne (pc := 61) (cx := 1) (tgt := 74) dX11_sumOf_61 rfl (by decide) rfl (fun h61 => ?_) (fun h61 => ?_)
          · skip
            refine z_iconst (pc := 74) (v := 0) dX11_sumOf_74 (by decide) ?_
            refine z_iaddT (pc := 75) (cy := 0) dX11_sumOf_75 rfl (by decide) (by omega) (by omega) (fun v75 e75 => ?_)
            refine z_istore_n (pc := 76) dX11_sumOf_76 rfl rfl (by dsimp only [setI, setL, List.set]) ?_
            refine z_iincT (pc := 77) dX11_sumOf_77 rfl rfl (by decide) (by decide) (by omega) (by omega) rfl rfl (fun v => by dsimp only [setI, setL, List.set]) (fun v77 e77 => ?_)
            refine z_goto (pc := 80) (tgt := 5) dX11_sumOf_80 rfl ?_
            refine z_sub (L' := [some _, some _, some _, some _, some _, none, none, none]) ⟨rfl, rfl, rfl, rfl, rfl, trivial⟩ ?_
            have hs : smN pt (fun i => cntS w t x2 (pt i)) (i + 1) = smN pt (fun i => cntS w t x2 (pt i)) i + (if (pt i).2.2.2.2 then 0 else cntS w t x2 (pt i)) := rfl
            rw [if_neg (by rw [mthere_of (hQ.2.1.2 i (by omega)).2.2.2.2 h21]; decide)] at hs
            have esd : sd (lv t (pt i)) = 1 := by unfold sd; rw [if_pos (by omega)]
            exact ih (i + 1) v75 v77 (by omega) (by omega) (by omega) (by
              rw [hs]
              first | (rw [show cntS w t x2 (pt i) = cnt w (pt i) from if_pos (Int32.toInt_inj.mp (by rw [esd]; exact h61))]; omega) | (rw [show cntS w t x2 (pt i) = 0 from if_neg (fun e => h61 (by rw [← e, esd]; rfl))]; omega))
          · skip
            refine z_aload_n (pc := 64) dX11_sumOf_64 rfl ?_
            refine z_iload (pc := 65) dX11_sumOf_65 rfl ?_
            refine z_iload_n (pc := 67) dX11_sumOf_67 rfl ?_
            refine z_iv2 (pc := 68) dX11_sumOf_68 kv_X11_172 rfl (by decide) (by decide) rfl rfl ?_
            refine c_masked (p := i) (by omega) hv hQ.2.2.2.2 (by rw [hpi.2.2.1]; exact (hQ.2.2.1 i (by omega)).2.2.2.2.1) (by rw [hpi.2.2.1]; exact (hQ.2.2.1 i (by omega)).2.2.2.2.2.1) (by omega) (by omega) (fun rv erv => ?_)
            rw [bgs_off _ _ hQ.2.2.2.1]
            rw [hpi.2.2.1, hpi.2.2.2.1, hx, asV_cnt hw] at erv
            refine z_goto (pc := 71) (tgt := 75) dX11_sumOf_71 rfl ?_
            refine z_iaddT (pc := 75) dX11_sumOf_75 rfl rfl (by omega) (by omega) (fun v75 e75 => ?_)
            refine z_istore_n (pc := 76) dX11_sumOf_76 rfl rfl (by dsimp only [setI, setL, List.set]) ?_
            refine z_iincT (pc := 77) dX11_sumOf_77 rfl rfl (by decide) (by decide) (by omega) (by omega) rfl rfl (fun v => by dsimp only [setI, setL, List.set]) (fun v77 e77 => ?_)
            refine z_goto (pc := 80) (tgt := 5) dX11_sumOf_80 rfl ?_
            refine z_sub (L' := [some _, some _, some _, some _, some _, none, none, none]) ⟨rfl, rfl, rfl, rfl, rfl, trivial⟩ ?_
            have hs : smN pt (fun i => cntS w t x2 (pt i)) (i + 1) = smN pt (fun i => cntS w t x2 (pt i)) i + (if (pt i).2.2.2.2 then 0 else cntS w t x2 (pt i)) := rfl
            rw [if_neg (by rw [mthere_of (hQ.2.1.2 i (by omega)).2.2.2.2 h21]; decide)] at hs
            have esd : sd (lv t (pt i)) = 1 := by unfold sd; rw [if_pos (by omega)]
            exact ih (i + 1) v75 v77 (by omega) (by omega) (by omega) (by
              rw [hs]
              first | (rw [show cntS w t x2 (pt i) = cnt w (pt i) from if_pos (Int32.toInt_inj.mp (by rw [esd]; exact h61))]; omega) | (rw [show cntS w t x2 (pt i) = 0 from if_neg (fun e => h61 (by rw [← e, esd]; rfl))]; omega))
      · skip
        refine z_iconst (pc := 39) (v := 0) dX11_sumOf_39 (by decide) ?_
        refine z_goto (pc := 40) (tgt := 55) dX11_sumOf_40 rfl ?_
        refine z_istore (pc := 55) dX11_sumOf_55 rfl rfl (by dsimp only [setI, setL, List.set]) ?_
        refine z_iload_n (pc := 57) dX11_sumOf_57 rfl ?_
        refine z_iload (pc := 58) dX11_sumOf_58 rfl ?_
        refine z_iload_n (pc := 60) dX11_sumOf_60 rfl ?_
        refine zq_icmp_ne (pc := 61) (cx := 0) (tgt := 74) dX11_sumOf_61 rfl (by decide) rfl (fun h61 => ?_) (fun h61 => ?_)
        · skip
          refine z_iconst (pc := 74) (v := 0) dX11_sumOf_74 (by decide) ?_
          refine z_iaddT (pc := 75) (cy := 0) dX11_sumOf_75 rfl (by decide) (by omega) (by omega) (fun v75 e75 => ?_)
          refine z_istore_n (pc := 76) dX11_sumOf_76 rfl rfl (by dsimp only [setI, setL, List.set]) ?_
          refine z_iincT (pc := 77) dX11_sumOf_77 rfl rfl (by decide) (by decide) (by omega) (by omega) rfl rfl (fun v => by dsimp only [setI, setL, List.set]) (fun v77 e77 => ?_)
          refine z_goto (pc := 80) (tgt := 5) dX11_sumOf_80 rfl ?_
          refine z_sub (L' := [some _, some _, some _, some _, some _, none, none, none]) ⟨rfl, rfl, rfl, rfl, rfl, trivial⟩ ?_
          have hs : smN pt (fun i => cntS w t x2 (pt i)) (i + 1) = smN pt (fun i => cntS w t x2 (pt i)) i + (if (pt i).2.2.2.2 then 0 else cntS w t x2 (pt i)) := rfl
          rw [if_neg (by rw [mthere_of (hQ.2.1.2 i (by omega)).2.2.2.2 h21]; decide)] at hs
          have esd : sd (lv t (pt i)) = 0 := by unfold sd; rw [if_neg (by omega), if_pos (by omega)]
          exact ih (i + 1) v75 v77 (by omega) (by omega) (by omega) (by
            rw [hs]
            first | (rw [show cntS w t x2 (pt i) = cnt w (pt i) from if_pos (Int32.toInt_inj.mp (by rw [esd]; exact h61))]; omega) | (rw [show cntS w t x2 (pt i) = 0 from if_neg (fun e => h61 (by rw [← e, esd]; rfl))]; omega))
        · skip
          refine z_aload_n (pc := 64) dX11_sumOf_64 rfl ?_
          refine z_iload (pc := 65) dX11_sumOf_65 rfl ?_
          refine z_iload_n (pc := 67) dX11_sumOf_67 rfl ?_
          refine z_iv2 (pc := 68) dX11_sumOf_68 kv_X11_172 rfl (by decide) (by decide) rfl rfl ?_
          refine c_masked (p := i) (by omega) hv hQ.2.2.2.2 (by rw [hpi.2.2.1]; exact (hQ.2.2.1 i (by omega)).2.2.2.2.1) (by rw [hpi.2.2.1]; exact (hQ.2.2.1 i (by omega)).2.2.2.2.2.1) (by omega) (by omega) (fun rv erv => ?_)
          rw [bgs_off _ _ hQ.2.2.2.1]
          rw [hpi.2.2.1, hpi.2.2.2.1, hx, asV_cnt hw] at erv
          refine z_goto (pc := 71) (tgt := 75) dX11_sumOf_71 rfl ?_
          refine z_iaddT (pc := 75) dX11_sumOf_75 rfl rfl (by omega) (by omega) (fun v75 e75 => ?_)
          refine z_istore_n (pc := 76) dX11_sumOf_76 rfl rfl (by dsimp only [setI, setL, List.set]) ?_
          refine z_iincT (pc := 77) dX11_sumOf_77 rfl rfl (by decide) (by decide) (by omega) (by omega) rfl rfl (fun v => by dsimp only [setI, setL, List.set]) (fun v77 e77 => ?_)
          refine z_goto (pc := 80) (tgt := 5) dX11_sumOf_80 rfl ?_
          refine z_sub (L' := [some _, some _, some _, some _, some _, none, none, none]) ⟨rfl, rfl, rfl, rfl, rfl, trivial⟩ ?_
          have hs : smN pt (fun i => cntS w t x2 (pt i)) (i + 1) = smN pt (fun i => cntS w t x2 (pt i)) i + (if (pt i).2.2.2.2 then 0 else cntS w t x2 (pt i)) := rfl
          rw [if_neg (by rw [mthere_of (hQ.2.1.2 i (by omega)).2.2.2.2 h21]; decide)] at hs
          have esd : sd (lv t (pt i)) = 0 := by unfold sd; rw [if_neg (by omega), if_pos (by omega)]
          exact ih (i + 1) v75 v77 (by omega) (by omega) (by omega) (by
            rw [hs]
            first | (rw [show cntS w t x2 (pt i) = cnt w (pt i) from if_pos (Int32.toInt_inj.mp (by rw [esd]; exact h61))]; omega) | (rw [show cntS w t x2 (pt i) = 0 from if_neg (fun e => h61 (by rw [← e, esd]; rfl))]; omega))

theorem c_X11_sumOf {l : Launch} {G : Gx} {d : Nat} {σ : Sg} {Q : Option Value → Sg → Prop} {w n : Nat} {pt : Nat → Pt} {t : Int × Int × Int} {x1 x2 : Int32} (hQ : rmQ σ n pt) (hL : isLnM σ t) (hb : t.1.natAbs ≤ 1000000 ∧ t.2.1.natAbs ≤ 1000000 ∧ t.2.2.natAbs ≤ 1000000) (hw : w < 3) (hx : x1.toInt = (w : Int)) (h : ∀ r : Int32, r.toInt = sumS n pt w t x2 → Q (some (.int r)) σ) : Z l G M_X11_sumOf (d + 6) 0 [some (.ref 1), some (.int x1), some (.int x2)] [] σ Q := by
  refine z_sub (L' := [some (.ref 1), some (.int x1), some (.int x2), none, none, none, none, none]) ⟨rfl, rfl, rfl, trivial⟩ ?_
  refine z_iconst (pc := 0) (v := 0) dX11_sumOf_0 (by decide) ?_
  refine z_istore_n (pc := 1) dX11_sumOf_1 rfl rfl (by dsimp only [setI, setL, List.set]) ?_
  refine z_iconst (pc := 2) (v := 0) dX11_sumOf_2 (by decide) ?_
  refine z_istore (pc := 3) dX11_sumOf_3 rfl rfl (by dsimp only [setI, setL, List.set]) ?_
  exact c_sumOf_loop hQ hL hb hw hx h (n + 1) 0 0 0 (by decide) (by omega) (by omega) rfl

theorem c_X11_isHalved {l : Launch} {G : Gx} {d : Nat} {σ : Sg} {Q : Option Value → Sg → Prop} {w n : Nat} {pt : Nat → Pt} {t : Int × Int × Int} {x1 : Int32} (hQ : rmQ σ n pt) (hL : isLnM σ t) (hb : t.1.natAbs ≤ 1000000 ∧ t.2.1.natAbs ≤ 1000000 ∧ t.2.2.natAbs ≤ 1000000) (hw : w < 3) (hx : x1.toInt = (w : Int)) (ht : hlv n pt w t = true → Q (some (.int 1)) σ) (hf : hlv n pt w t = false → Q (some (.int 0)) σ) : Z l G M_X11_isHalved (d + 7) 0 [some (.ref 1), some (.int x1)] [] σ Q := by
  have hl := prs_len n pt
  have hn := hQ.1
  have hs := sumS_all n pt w t
  have b0 : 0 ≤ sumS n pt w t 0 ∧ sumS n pt w t 0 ≤ 4 * (prs n pt).length := lsum_rng (fun i _ => cntS_rng _ _ _ _)
  have b1 : 0 ≤ sumS n pt w t 1 ∧ sumS n pt w t 1 ≤ 4 * (prs n pt).length := lsum_rng (fun i _ => cntS_rng _ _ _ _)
  have b2 : 0 ≤ sumS n pt w t 2 ∧ sumS n pt w t 2 ≤ 4 * (prs n pt).length := lsum_rng (fun i _ => cntS_rng _ _ _ _)
  refine z_sub (L' := [some (.ref 1), some (.int x1), none, none, none]) ⟨rfl, rfl, trivial⟩ ?_
  refine z_aload_n (pc := 0) dX11_isHalved_0 rfl ?_
  refine z_iload_n (pc := 1) dX11_isHalved_1 rfl ?_
  refine z_iconst (pc := 2) (v := 0) dX11_isHalved_2 (by decide) ?_
  refine z_iv2 (pc := 3) dX11_isHalved_3 kv_X11_214 rfl (by decide) (by decide) rfl rfl ?_
  refine c_X11_sumOf hQ hL hb hw hx (fun r0 er0 => ?_)
  refine z_istore_n (pc := 6) dX11_isHalved_6 rfl rfl (by dsimp only [setI, setL, List.set]) ?_
  refine z_aload_n (pc := 7) dX11_isHalved_7 rfl ?_
  refine z_iload_n (pc := 8) dX11_isHalved_8 rfl ?_
  refine z_iconst (pc := 9) (v := 2) dX11_isHalved_9 (by decide) ?_
  refine z_iv2 (pc := 10) dX11_isHalved_10 kv_X11_214 rfl (by decide) (by decide) rfl rfl ?_
  refine c_X11_sumOf hQ hL hb hw hx (fun r2 er2 => ?_)
  refine z_istore_n (pc := 13) dX11_isHalved_13 rfl rfl (by dsimp only [setI, setL, List.set]) ?_
  refine z_iload_n (pc := 14) dX11_isHalved_14 rfl ?_
  refine z_iload_n (pc := 15) dX11_isHalved_15 rfl ?_
  refine z_iaddT (pc := 16) dX11_isHalved_16 rfl rfl (by omega) (by omega) (fun v16 e16 => ?_)
  refine z_aload_n (pc := 17) dX11_isHalved_17 rfl ?_
  refine z_iload_n (pc := 18) dX11_isHalved_18 rfl ?_
  refine z_iconst (pc := 19) (v := 1) dX11_isHalved_19 (by decide) ?_
  refine z_iv2 (pc := 20) dX11_isHalved_20 kv_X11_214 rfl (by decide) (by decide) rfl rfl ?_
  refine c_X11_sumOf hQ hL hb hw hx (fun r1 er1 => ?_)
  refine z_iaddT (pc := 23) dX11_isHalved_23 rfl rfl (by omega) (by omega) (fun v23 e23 => ?_)
  refine z_istore (pc := 24) dX11_isHalved_24 rfl rfl (by dsimp only [setI, setL, List.set]) ?_
  refine z_iconst (pc := 26) (v := 2) dX11_isHalved_26 (by decide) ?_
  refine z_iload_n (pc := 27) dX11_isHalved_27 rfl ?_
  refine z_imulT (pc := 28) (cx := 2) dX11_isHalved_28 (by decide) rfl (by omega) (by omega) (fun v28 e28 => ?_)
  refine z_iload (pc := 29) dX11_isHalved_29 rfl ?_
  refine zq_icmp_gt (pc := 31) (tgt := 46) dX11_isHalved_31 rfl rfl rfl (fun h31 => ?_) (fun h31 => ?_)
  · skip
    refine z_iconst (pc := 46) (v := 0) dX11_isHalved_46 (by decide) ?_
    refine z_zret (pc := 47) dX11_isHalved_47 rfl (by decide) ?_
    exact hf (decide_eq_false (by omega))
  · skip
    refine z_iconst (pc := 34) (v := 2) dX11_isHalved_34 (by decide) ?_
    refine z_iload_n (pc := 35) dX11_isHalved_35 rfl ?_
    refine z_imulT (pc := 36) (cx := 2) dX11_isHalved_36 (by decide) rfl (by omega) (by omega) (fun v36 e36 => ?_)
    refine z_iload (pc := 37) dX11_isHalved_37 rfl ?_
    refine zq_icmp_gt (pc := 39) (tgt := 46) dX11_isHalved_39 rfl rfl rfl (fun h39 => ?_) (fun h39 => ?_)
    · skip
      refine z_iconst (pc := 46) (v := 0) dX11_isHalved_46 (by decide) ?_
      refine z_zret (pc := 47) dX11_isHalved_47 rfl (by decide) ?_
      exact hf (decide_eq_false (by omega))
    · skip
      refine z_iconst (pc := 42) (v := 1) dX11_isHalved_42 (by decide) ?_
      refine z_goto (pc := 43) (tgt := 47) dX11_isHalved_43 rfl ?_
      refine z_zret (pc := 47) dX11_isHalved_47 rfl (by decide) ?_
      exact ht (decide_eq_true (by omega))

theorem c_X11_side {l : Launch} {G : Gx} {d : Nat} {σ : Sg} {Q : Option Value → Sg → Prop} {a : Ab} {x1 x2 : Int32} (hr : rM σ a) (hk : abOk a) (h : ∀ (r : Int32) (τ : Sg), r.toInt = sSide a x1 x2 → rM τ a → eqC σ τ → Q (some (.int r)) τ) : Z l G M_X11_side (d + 7) 0 [some (.ref 1), some (.int x1), some (.int x2)] [] σ Q := by
  refine z_sub (L' := [some (.ref 1), some (.int x1), some (.int x2)]) ⟨rfl, rfl, rfl, trivial⟩ ?_
  refine z_iload_n (pc := 0) dX11_side_0 rfl ?_
  refine z_i2lT (pc := 1) dX11_side_1 rfl (fun v1 e1 => ?_)
  refine z_lconst (pc := 2) (v := 0) dX11_side_2 (by decide) ?_
  refine z_ldc2 (pc := 3) dX11_side_3 kc_X11_89 ?_
  refine z_is3 (pc := 6) dX11_side_6 ks_X11_81 rfl rfl ?_
  refine c_X11_in (cl := 0) (cm := 2) (by first | assumption | rfl) (by decide) (by decide) (fun q6 => ?_) (fun q6 => ?_)
  · skip
    refine z_if_eq (pc := 9) (tgt := 24) dX11_side_9 rfl (fun hc => absurd hc (by decide)) (fun _ => ?_)
    refine z_iload_n (pc := 12) dX11_side_12 rfl ?_
    refine z_i2lT (pc := 13) dX11_side_13 rfl (fun v13 e13 => ?_)
    refine z_lconst (pc := 14) (v := 0) dX11_side_14 (by decide) ?_
    refine z_ldc2 (pc := 15) dX11_side_15 kc_X11_89 ?_
    refine z_is3 (pc := 18) dX11_side_18 ks_X11_81 rfl rfl ?_
    refine c_X11_in (cl := 0) (cm := 2) (by first | assumption | rfl) (by decide) (by decide) (fun q18 => ?_) (fun q18 => ?_)
    · skip
      refine z_if_ne (pc := 21) (tgt := 27) dX11_side_21 rfl (fun _ => ?_) (fun hc => absurd hc (by decide))
      obtain ⟨w, hw, hwe⟩ : ∃ w : Nat, w < 3 ∧ x1.toInt = (w : Int) := ⟨x1.toInt.toNat, by omega, by omega⟩
      have hwn : x1.toInt.toNat = w := by omega
      refine z_aload_n (pc := 27) dX11_side_27 rfl ?_
      refine z_iv0 (pc := 28) dX11_side_28 kv_X11_217 rfl (by decide) (by decide) rfl rfl ?_
      have hLm := hr.2.2.2.2.1
      refine c_X11_lookAtLine (t := lnI a) hLm.1 hLm.2.1 hLm.2.2 (fun τ hL hF => ?_)
      have hrt := rM_FrQ hr hF
      refine z_aload_n (pc := 31) dX11_side_31 rfl ?_
      refine z_iload_n (pc := 32) dX11_side_32 rfl ?_
      refine z_iload_n (pc := 33) dX11_side_33 rfl ?_
      refine z_iv2 (pc := 34) dX11_side_34 kv_X11_214 rfl (by decide) (by decide) rfl rfl ?_
      refine c_X11_sumOf (rmQ_of hrt hk) hL (lnI_ok hk) hw hwe (fun r er => ?_)
      refine z_iret (pc := 37) dX11_side_37 rfl ?_
      exact h _ _ (by rw [sSide, if_neg (by omega), hwn]; exact er) hrt (FrQ_C hF)
    · skip
      refine z_if_ne (pc := 21) (tgt := 27) dX11_side_21 rfl (fun hc => absurd hc (by decide)) (fun _ => ?_)
      refine z_ldc (pc := 24) dX11_side_24 kc_X11_91 ?_
      refine z_iret (pc := 26) dX11_side_26 rfl ?_
      exact h _ _ (by rw [sSide, if_pos (by omega)]; rfl) hr eqC_rf
  · skip
    refine z_if_eq (pc := 9) (tgt := 24) dX11_side_9 rfl (fun _ => ?_) (fun hc => absurd hc (by decide))
    refine z_ldc (pc := 24) dX11_side_24 kc_X11_91 ?_
    refine z_iret (pc := 26) dX11_side_26 rfl ?_
    exact h _ _ (by rw [sSide, if_pos (by omega)]; rfl) hr eqC_rf

theorem c_X11_halves {l : Launch} {G : Gx} {d : Nat} {σ : Sg} {Q : Option Value → Sg → Prop} {a : Ab} {x1 : Int32} (hr : rM σ a) (hk : abOk a) (h : ∀ (r : Int32) (τ : Sg), r.toInt = sHalves a x1 → rM τ a → eqC σ τ → Q (some (.int r)) τ) : Z l G M_X11_halves (d + 8) 0 [some (.ref 1), some (.int x1)] [] σ Q := by
  refine z_sub (L' := [some (.ref 1), some (.int x1)]) ⟨rfl, rfl, trivial⟩ ?_
  refine z_iload_n (pc := 0) dX11_halves_0 rfl ?_
  refine z_i2lT (pc := 1) dX11_halves_1 rfl (fun v1 e1 => ?_)
  refine z_lconst (pc := 2) (v := 0) dX11_halves_2 (by decide) ?_
  refine z_ldc2 (pc := 3) dX11_halves_3 kc_X11_89 ?_
  refine z_is3 (pc := 6) dX11_halves_6 ks_X11_81 rfl rfl ?_
  refine c_X11_in (cl := 0) (cm := 2) (by first | assumption | rfl) (by decide) (by decide) (fun q6 => ?_) (fun q6 => ?_)
  · skip
    refine z_if_ne (pc := 9) (tgt := 15) dX11_halves_9 rfl (fun _ => ?_) (fun hc => absurd hc (by decide))
    obtain ⟨w, hw, hwe⟩ : ∃ w : Nat, w < 3 ∧ x1.toInt = (w : Int) := ⟨x1.toInt.toNat, by omega, by omega⟩
    have hwn : x1.toInt.toNat = w := by omega
    refine z_aload_n (pc := 15) dX11_halves_15 rfl ?_
    refine z_iv0 (pc := 16) dX11_halves_16 kv_X11_217 rfl (by decide) (by decide) rfl rfl ?_
    have hLm := hr.2.2.2.2.1
    refine c_X11_lookAtLine (t := lnI a) hLm.1 hLm.2.1 hLm.2.2 (fun τ hL hF => ?_)
    have hrt := rM_FrQ hr hF
    refine z_aload_n (pc := 19) dX11_halves_19 rfl ?_
    refine z_iload_n (pc := 20) dX11_halves_20 rfl ?_
    refine z_iv1 (pc := 21) dX11_halves_21 kv_X11_220 rfl (by decide) (by decide) rfl rfl ?_
    refine c_X11_isHalved (rmQ_of hrt hk) hL (lnI_ok hk) hw hwe (fun qh => ?_) (fun qh => ?_)
    · skip
      refine z_if_eq (pc := 24) (tgt := 31) dX11_halves_24 rfl (fun hc => absurd hc (by decide)) (fun _ => ?_)
      refine z_iconst (pc := 27) (v := 1) dX11_halves_27 (by decide) ?_
      refine z_goto (pc := 28) (tgt := 32) dX11_halves_28 rfl ?_
      refine z_iret (pc := 32) dX11_halves_32 rfl ?_
      exact h _ _ (by rw [sHalves, if_neg (by omega), hwn, qh]; rfl) hrt (FrQ_C hF)
    · skip
      refine z_if_eq (pc := 24) (tgt := 31) dX11_halves_24 rfl (fun _ => ?_) (fun hc => absurd hc (by decide))
      refine z_iconst (pc := 31) (v := 0) dX11_halves_31 (by decide) ?_
      refine z_iret (pc := 32) dX11_halves_32 rfl ?_
      exact h _ _ (by rw [sHalves, if_neg (by omega), hwn, qh]; rfl) hrt (FrQ_C hF)
  · skip
    refine z_if_ne (pc := 9) (tgt := 15) dX11_halves_9 rfl (fun hc => absurd hc (by decide)) (fun _ => ?_)
    refine z_ldc (pc := 12) dX11_halves_12 kc_X11_91 ?_
    refine z_iret (pc := 14) dX11_halves_14 rfl ?_
    exact h _ _ (by rw [sHalves, if_pos (by omega)]; rfl) hr eqC_rf
