theorem c_X7_row {l : Launch} {G : Gx} {d : Nat} {σ : Sg} {Q : Option Value → Sg → Prop} {w : Nat} {x1 : Int32} (hw : w < 3) (hx : x1.toInt = (w : Int)) (h : Q (some (.ref (15 + w))) σ) : Z l G M_X7_row (d) 0 [some (.ref 11), some (.int x1)] [] σ Q := by
  refine z_sub (L' := [some (.ref 11), some (.int x1)]) ⟨rfl, rfl, trivial⟩ ?_
  refine z_iload_n (pc := 0) dX7_row_0 rfl ?_
  refine zq_if_ne (pc := 1) (tgt := 9) dX7_row_1 rfl rfl (fun h1 => ?_) (fun h1 => ?_)
  · skip
    refine z_iload_n (pc := 9) dX7_row_9 rfl ?_
    refine z_iconst (pc := 10) (v := 1) dX7_row_10 (by decide) ?_
    refine zq_icmp_ne (pc := 11) (cy := 1) (tgt := 21) dX7_row_11 rfl rfl (by decide) (fun h11 => ?_) (fun h11 => ?_)
    · skip
      refine z_aload_n (pc := 21) dX7_row_21 rfl ?_
      refine z_getR (pc := 22) (t := 17) dX7_row_22 fk_X7_27 rfl (by decide) (by decide) (by decide) rfl ?_
      refine z_aret (pc := 25) dX7_row_25 rfl (by first | exact Or.inl ⟨_, rfl⟩ | exact Or.inr ⟨_, rfl⟩) ?_
      first | (rw [show w = 0 by omega] at h; exact h) | (rw [show w = 1 by omega] at h; exact h) | (rw [show w = 2 by omega] at h; exact h)
    · skip
      refine z_aload_n (pc := 14) dX7_row_14 rfl ?_
      refine z_getR (pc := 15) (t := 16) dX7_row_15 fk_X7_24 rfl (by decide) (by decide) (by decide) rfl ?_
      refine z_goto (pc := 18) (tgt := 25) dX7_row_18 rfl ?_
      refine z_aret (pc := 25) dX7_row_25 rfl (by first | exact Or.inl ⟨_, rfl⟩ | exact Or.inr ⟨_, rfl⟩) ?_
      first | (rw [show w = 0 by omega] at h; exact h) | (rw [show w = 1 by omega] at h; exact h) | (rw [show w = 2 by omega] at h; exact h)
  · skip
    refine z_aload_n (pc := 4) dX7_row_4 rfl ?_
    refine z_getR (pc := 5) (t := 15) dX7_row_5 fk_X7_21 rfl (by decide) (by decide) (by decide) rfl ?_
    refine z_aret (pc := 8) dX7_row_8 rfl (by first | exact Or.inl ⟨_, rfl⟩ | exact Or.inr ⟨_, rfl⟩) ?_
    first | (rw [show w = 0 by omega] at h; exact h) | (rw [show w = 1 by omega] at h; exact h) | (rw [show w = 2 by omega] at h; exact h)

theorem c_total_loop {l : Launch} {G : Gx} {d : Nat} {σ : Sg} {Q : Option Value → Sg → Prop} {w n : Nat} {pt : Nat → Pt} {x1 : Int32} (hw : w < 3) (hS : okStand σ n pt) (hn : n ≤ 40) (h : ∀ r : Int32, r.toInt = sumW n pt w → Q (some (.int r)) σ) : ∀ (k j : Nat) (y v : Int32), v.toInt = (j : Int) → j ≤ (prs n pt).length → (prs n pt).length - j < k → y.toInt = lsum ((prs n pt).take j) (fun i => cnt w (pt i)) → Z l G M_X7_total d 11 [some (.ref 11), some (.int x1), some (.ref (15 + w)), some (.int y), some (.int v)] [] σ Q := by
  intro k
  induction k with
  | zero => intro j y v hv hj hk hy; omega
  | succ k ih =>
  intro j y v hv hj hk hy
  have hl := prs_len n pt
  have hm := hS.1
  refine z_iload (pc := 11) dX7_total_11 rfl ?_
  refine z_aload_n (pc := 13) dX7_total_13 rfl ?_
  refine z_getI (pc := 14) dX7_total_14 fk_X7_30 rfl (by decide) (by decide) (by decide) ?_
  refine zq_icmp_ge (pc := 17) (tgt := 33) dX7_total_17 rfl rfl rfl (fun h17 => ?_) (fun h17 => ?_)
  · skip
    refine z_iload_n (pc := 33) dX7_total_33 rfl ?_
    refine z_iret (pc := 34) dX7_total_34 rfl ?_
    refine h y ?_
    rw [hy, take_all (by omega)]
    rfl
  · skip
    obtain ⟨i, hi⟩ := prs_get (pt := pt) (n := n) (j := j) (by omega)
    have hrow := st_row hS hw hi
    have hc := cnt_rng w (pt i)
    have hr1 := lsum_rng (l := (prs n pt).take j) (g := (fun i => cnt w (pt i))) (c := 4) (fun i _ => cnt_rng w (pt i))
    have hlt : (((prs n pt).take j).length : Int) ≤ 40 := by rw [List.length_take]; omega
    refine z_iload_n (pc := 20) dX7_total_20 rfl ?_
    refine z_aload_n (pc := 21) dX7_total_21 rfl ?_
    refine z_iload (pc := 22) dX7_total_22 rfl ?_
    refine z_ialdN (pc := 24) j dX7_total_24 (kd_row hw) (by omega) hv (by rw [ln_row hw]; omega) ?_
    refine z_iaddT (pc := 25) dX7_total_25 rfl rfl (by omega) (by omega) (fun v25 e25 => ?_)
    refine z_istore_n (pc := 26) dX7_total_26 rfl rfl (by dsimp only [setI, setL, List.set]) ?_
    refine z_iincT (pc := 27) dX7_total_27 rfl rfl (by decide) (by decide) (by omega) (by omega) rfl rfl (fun v => by dsimp only [setI, setL, List.set]) (fun v27 e27 => ?_)
    refine z_goto (pc := 30) (tgt := 11) dX7_total_30 rfl ?_
    exact ih (j + 1) v25 v27 (by omega) (by omega) (by omega) (by rw [lsum_take hi]; omega)

theorem c_X7_total {l : Launch} {G : Gx} {d : Nat} {σ : Sg} {Q : Option Value → Sg → Prop} {w n : Nat} {pt : Nat → Pt} {x1 : Int32} (hx : x1.toInt = (w : Int)) (hw : w < 3) (hS : okStand σ n pt) (hn : n ≤ 40) (h : ∀ r : Int32, r.toInt = sumW n pt w → Q (some (.int r)) σ) : Z l G M_X7_total (d + 1) 0 [some (.ref 11), some (.int x1)] [] σ Q := by
  refine z_sub (L' := [some (.ref 11), some (.int x1), none, none, none]) ⟨rfl, rfl, trivial⟩ ?_
  refine z_aload_n (pc := 0) dX7_total_0 rfl ?_
  refine z_iload_n (pc := 1) dX7_total_1 rfl ?_
  refine z_iv1 (pc := 2) dX7_total_2 kv_X7_57 rfl (by decide) (by decide) rfl rfl ?_
  refine c_X7_row hw hx ?_
  refine z_astore_n (pc := 5) dX7_total_5 rfl rfl (by dsimp only [setI, setL, List.set]) ?_
  refine z_iconst (pc := 6) (v := 0) dX7_total_6 (by decide) ?_
  refine z_istore_n (pc := 7) dX7_total_7 rfl rfl (by dsimp only [setI, setL, List.set]) ?_
  refine z_iconst (pc := 8) (v := 0) dX7_total_8 (by decide) ?_
  refine z_istore (pc := 9) dX7_total_9 rfl rfl (by dsimp only [setI, setL, List.set]) ?_
  exact c_total_loop hw hS hn h ((prs n pt).length + 1) 0 0 0 (by decide) (by omega) (by omega) rfl

theorem c_sumAt_loop {l : Launch} {G : Gx} {d : Nat} {σ : Sg} {Q : Option Value → Sg → Prop} {o w n : Nat} {pt : Nat → Pt} {t : Int × Int × Int} {x2 x3 : Int32} (hw : w < 3) (hS : okStand σ n pt) (hn : n ≤ 40) (ho : kd o = 4) (hno : o < 105) (hL : isLn σ o t) (hb : t.1.natAbs ≤ 1000000 ∧ t.2.1.natAbs ≤ 1000000 ∧ t.2.2.natAbs ≤ 1000000) (hP : ∀ i, i < n → ptOk (pt i)) (h : ∀ r : Int32, r.toInt = sumS n pt w t x3 → Q (some (.int r)) σ) : ∀ (k j : Nat) (y v : Int32), v.toInt = (j : Int) → j ≤ (prs n pt).length → (prs n pt).length - j < k → y.toInt = lsum ((prs n pt).take j) (fun i => cntS w t x3 (pt i)) → Z l G M_X7_sumAt (d + 1) 13 [some (.ref 11), some (.ref o), some (.int x2), some (.int x3), some (.ref (15 + w)), some (.int y), some (.int v)] [] σ Q := by
  intro k
  induction k with
  | zero => intro j y v hv hj hk hy; omega
  | succ k ih =>
  intro j y v hv hj hk hy
  have hl := prs_len n pt
  have hm := hS.1
  refine z_iload (pc := 13) dX7_sumAt_13 rfl ?_
  refine z_aload_n (pc := 15) dX7_sumAt_15 rfl ?_
  refine z_getI (pc := 16) dX7_sumAt_16 fk_X7_30 rfl (by decide) (by decide) (by decide) ?_
  refine zq_icmp_ge (pc := 19) (tgt := 60) dX7_sumAt_19 rfl rfl rfl (fun h19 => ?_) (fun h19 => ?_)
  · skip
    refine z_iload (pc := 60) dX7_sumAt_60 rfl ?_
    refine z_iret (pc := 62) dX7_sumAt_62 rfl ?_
    refine h y ?_
    rw [hy, take_all (by omega)]
    rfl
  · skip
    obtain ⟨i, hi⟩ := prs_get (pt := pt) (n := n) (j := j) (by omega)
    have hrow := st_row hS hw hi
    have hc := cnt_rng w (pt i)
    have hr1 := lsum_rng (l := (prs n pt).take j) (g := (fun i => cntS w t x3 (pt i))) (c := 4) (fun i _ => cntS_rng _ _ _ _)
    have hlt : (((prs n pt).take j).length : Int) ≤ 40 := by rw [List.length_take]; omega
    refine z_aload_n (pc := 22) dX7_sumAt_22 rfl ?_
    refine z_aload_n (pc := 23) dX7_sumAt_23 rfl ?_
    refine z_getR (pc := 24) (t := 13) dX7_sumAt_24 fk_X7_15 rfl (by decide) (by decide) (by decide) rfl ?_
    refine z_iload (pc := 27) dX7_sumAt_27 rfl ?_
    refine z_ialdN (pc := 29) j dX7_sumAt_29 rfl (by decide) hv (by show _ < 40; omega) ?_
    refine z_aload_n (pc := 30) dX7_sumAt_30 rfl ?_
    refine z_getR (pc := 31) (t := 14) dX7_sumAt_31 fk_X7_18 rfl (by decide) (by decide) (by decide) rfl ?_
    refine z_iload (pc := 34) dX7_sumAt_34 rfl ?_
    refine z_ialdN (pc := 36) j dX7_sumAt_36 rfl (by decide) hv (by show _ < 40; omega) ?_
    refine z_iv2 (pc := 37) dX7_sumAt_37 kv_X7_61 ho hno (by decide) rfl rfl ?_
    have hst := hS.2 j i hi
    have hpi := hP i (prs_at hi).1
    unfold ptOk at hpi
    refine c_X4_sideOf ho hno (by rw [hst.2.1]; omega) (by rw [hst.2.2.1]; omega) (by rw [hL.1]; omega) (by rw [hL.2.1]; omega) (by rw [hL.2.2]; omega) ?_
    rw [hL.1, hL.2.1, hL.2.2, hst.2.1, hst.2.2.1]
    change Z l G _ _ _ _ (psh (some (.int (sd (lv t (pt i))))) _) _ _
    refine z_iload_n (pc := 40) dX7_sumAt_40 rfl ?_
    refine zq_icmp_ne (pc := 41) (tgt := 54) dX7_sumAt_41 rfl rfl rfl (fun h41 => ?_) (fun h41 => ?_)
    · skip
      refine z_iincT (pc := 54) dX7_sumAt_54 rfl rfl (by decide) (by decide) (by omega) (by omega) rfl rfl (fun v => by dsimp only [setI, setL, List.set]) (fun v54 e54 => ?_)
      refine z_goto (pc := 57) (tgt := 13) dX7_sumAt_57 rfl ?_
      first | exact ih (j + 1) v51 v54 (by omega) (by omega) (by omega) (by rw [lsum_take hi]; show _ = _ + cntS w t x3 (pt i); rw [show cntS w t x3 (pt i) = cnt w (pt i) from if_pos (Int32.toInt_inj.mp h41)]; omega) | exact ih (j + 1) y v54 (by omega) (by omega) (by omega) (by rw [lsum_take hi]; show _ = _ + cntS w t x3 (pt i); rw [show cntS w t x3 (pt i) = 0 from if_neg (fun e => h41 (by rw [e]))]; omega)
    · skip
      refine z_iload (pc := 44) dX7_sumAt_44 rfl ?_
      refine z_aload (pc := 46) dX7_sumAt_46 rfl ?_
      refine z_iload (pc := 48) dX7_sumAt_48 rfl ?_
      refine z_ialdN (pc := 50) j dX7_sumAt_50 (kd_row hw) (by omega) hv (by rw [ln_row hw]; omega) ?_
      refine z_iaddT (pc := 51) dX7_sumAt_51 rfl rfl (by omega) (by omega) (fun v51 e51 => ?_)
      refine z_istore (pc := 52) dX7_sumAt_52 rfl rfl (by dsimp only [setI, setL, List.set]) ?_
      refine z_iincT (pc := 54) dX7_sumAt_54 rfl rfl (by decide) (by decide) (by omega) (by omega) rfl rfl (fun v => by dsimp only [setI, setL, List.set]) (fun v54 e54 => ?_)
      refine z_goto (pc := 57) (tgt := 13) dX7_sumAt_57 rfl ?_
      first | exact ih (j + 1) v51 v54 (by omega) (by omega) (by omega) (by rw [lsum_take hi]; show _ = _ + cntS w t x3 (pt i); rw [show cntS w t x3 (pt i) = cnt w (pt i) from if_pos (Int32.toInt_inj.mp h41)]; omega) | exact ih (j + 1) y v54 (by omega) (by omega) (by omega) (by rw [lsum_take hi]; show _ = _ + cntS w t x3 (pt i); rw [show cntS w t x3 (pt i) = 0 from if_neg (fun e => h41 (by rw [e]))]; omega)

theorem c_X7_sumAt {l : Launch} {G : Gx} {d : Nat} {σ : Sg} {Q : Option Value → Sg → Prop} {o w n : Nat} {pt : Nat → Pt} {t : Int × Int × Int} {x2 x3 : Int32} (hx : x2.toInt = (w : Int)) (hw : w < 3) (hS : okStand σ n pt) (hn : n ≤ 40) (ho : kd o = 4) (hno : o < 105) (hL : isLn σ o t) (hb : t.1.natAbs ≤ 1000000 ∧ t.2.1.natAbs ≤ 1000000 ∧ t.2.2.natAbs ≤ 1000000) (hP : ∀ i, i < n → ptOk (pt i)) (h : ∀ r : Int32, r.toInt = sumS n pt w t x3 → Q (some (.int r)) σ) : Z l G M_X7_sumAt (d + 1) 0 [some (.ref 11), some (.ref o), some (.int x2), some (.int x3)] [] σ Q := by
  refine z_sub (L' := [some (.ref 11), some (.ref o), some (.int x2), some (.int x3), none, none, none]) ⟨rfl, rfl, rfl, rfl, trivial⟩ ?_
  refine z_aload_n (pc := 0) dX7_sumAt_0 rfl ?_
  refine z_iload_n (pc := 1) dX7_sumAt_1 rfl ?_
  refine z_iv1 (pc := 2) dX7_sumAt_2 kv_X7_57 rfl (by decide) (by decide) rfl rfl ?_
  refine c_X7_row hw hx ?_
  refine z_astore (pc := 5) dX7_sumAt_5 rfl rfl (by dsimp only [setI, setL, List.set]) ?_
  refine z_iconst (pc := 7) (v := 0) dX7_sumAt_7 (by decide) ?_
  refine z_istore (pc := 8) dX7_sumAt_8 rfl rfl (by dsimp only [setI, setL, List.set]) ?_
  refine z_iconst (pc := 10) (v := 0) dX7_sumAt_10 (by decide) ?_
  refine z_istore (pc := 11) dX7_sumAt_11 rfl rfl (by dsimp only [setI, setL, List.set]) ?_
  exact c_sumAt_loop hw hS hn ho hno hL hb hP h ((prs n pt).length + 1) 0 0 0 (by decide) (by omega) (by omega) rfl

theorem c_halved_loop {l : Launch} {G : Gx} {d : Nat} {σ : Sg} {Q : Option Value → Sg → Prop} {o w n : Nat} {pt : Nat → Pt} {t : Int × Int × Int} {x2 : Int32} (hw : w < 3) (hS : okStand σ n pt) (hn : n ≤ 40) (ho : kd o = 4) (hno : o < 105) (hL : isLn σ o t) (hb : t.1.natAbs ≤ 1000000 ∧ t.2.1.natAbs ≤ 1000000 ∧ t.2.2.natAbs ≤ 1000000) (hP : ∀ i, i < n → ptOk (pt i)) (ht : hlv n pt w t = true → Q (some (.int 1)) σ) (hf : hlv n pt w t = false → Q (some (.int 0)) σ) : ∀ (k j : Nat) (y yl yr v : Int32), v.toInt = (j : Int) → j ≤ (prs n pt).length → (prs n pt).length - j < k → y.toInt = lsum ((prs n pt).take j) (fun i => cnt w (pt i)) → yl.toInt = lsum ((prs n pt).take j) (fun i => cntS w t 0 (pt i)) → yr.toInt = lsum ((prs n pt).take j) (fun i => cntS w t 2 (pt i)) → Z l G M_X7_isHalvedBy (d + 1) 18 [some (.ref 11), some (.ref o), some (.int x2), some (.ref (15 + w)), some (.int y), some (.int yl), some (.int yr), some (.int v), none] [] σ Q := by
  intro k
  induction k with
  | zero => intro j y yl yr v hv hj hk hy hyl hyr; omega
  | succ k ih =>
  intro j y yl yr v hv hj hk hy hyl hyr
  have hl := prs_len n pt
  have hm := hS.1
  refine z_iload (pc := 18) dX7_isHalvedBy_18 rfl ?_
  refine z_aload_n (pc := 20) dX7_isHalvedBy_20 rfl ?_
  refine z_getI (pc := 21) dX7_isHalvedBy_21 fk_X7_30 rfl (by decide) (by decide) (by decide) ?_
  refine zq_icmp_ge (pc := 24) (tgt := 99) dX7_isHalvedBy_24 rfl rfl rfl (fun h24 => ?_) (fun h24 => ?_)
  · skip
    have hr1 := lsum_rng (l := (prs n pt).take j) (g := (fun i => cnt w (pt i))) (c := 4) (fun i _ => cnt_rng w (pt i))
    have hlt : (((prs n pt).take j).length : Int) ≤ 40 := by rw [List.length_take]; omega
    have hr2 := lsum_rng (l := (prs n pt).take j) (g := (fun i => cntS w t 0 (pt i))) (c := 4) (fun i _ => cntS_rng _ _ _ _)
    have hlt2 : (((prs n pt).take j).length : Int) ≤ 40 := by rw [List.length_take]; omega
    have hr3 := lsum_rng (l := (prs n pt).take j) (g := (fun i => cntS w t 2 (pt i))) (c := 4) (fun i _ => cntS_rng _ _ _ _)
    have hlt3 : (((prs n pt).take j).length : Int) ≤ 40 := by rw [List.length_take]; omega
    have e0 : sumW n pt w = y.toInt := by rw [hy, take_all (by omega)]; rfl
    have e1 : sumS n pt w t 0 = yl.toInt := by rw [hyl, take_all (by omega)]; rfl
    have e2 : sumS n pt w t 2 = yr.toInt := by rw [hyr, take_all (by omega)]; rfl
    refine z_iconst (pc := 99) (v := 2) dX7_isHalvedBy_99 (by decide) ?_
    refine z_iload (pc := 100) dX7_isHalvedBy_100 rfl ?_
    refine z_imulT (pc := 102) (cx := 2) dX7_isHalvedBy_102 (by decide) rfl (by omega) (by omega) (fun v102 e102 => ?_)
    refine z_iload (pc := 103) dX7_isHalvedBy_103 rfl ?_
    refine zq_icmp_gt (pc := 105) (tgt := 121) dX7_isHalvedBy_105 rfl rfl rfl (fun h105 => ?_) (fun h105 => ?_)
    · skip
      refine z_iconst (pc := 121) (v := 0) dX7_isHalvedBy_121 (by decide) ?_
      refine z_zret (pc := 122) dX7_isHalvedBy_122 rfl (by decide) ?_
      exact hf (decide_eq_false (by omega))
    · skip
      refine z_iconst (pc := 108) (v := 2) dX7_isHalvedBy_108 (by decide) ?_
      refine z_iload (pc := 109) dX7_isHalvedBy_109 rfl ?_
      refine z_imulT (pc := 111) (cx := 2) dX7_isHalvedBy_111 (by decide) rfl (by omega) (by omega) (fun v111 e111 => ?_)
      refine z_iload (pc := 112) dX7_isHalvedBy_112 rfl ?_
      refine zq_icmp_gt (pc := 114) (tgt := 121) dX7_isHalvedBy_114 rfl rfl rfl (fun h114 => ?_) (fun h114 => ?_)
      · skip
        refine z_iconst (pc := 121) (v := 0) dX7_isHalvedBy_121 (by decide) ?_
        refine z_zret (pc := 122) dX7_isHalvedBy_122 rfl (by decide) ?_
        exact hf (decide_eq_false (by omega))
      · skip
        refine z_iconst (pc := 117) (v := 1) dX7_isHalvedBy_117 (by decide) ?_
        refine z_goto (pc := 118) (tgt := 122) dX7_isHalvedBy_118 rfl ?_
        refine z_zret (pc := 122) dX7_isHalvedBy_122 rfl (by decide) ?_
        exact ht (decide_eq_true (by omega))
  · skip
    obtain ⟨i, hi⟩ := prs_get (pt := pt) (n := n) (j := j) (by omega)
    have hrow := st_row hS hw hi
    have hc := cnt_rng w (pt i)
    have hr1 := lsum_rng (l := (prs n pt).take j) (g := (fun i => cnt w (pt i))) (c := 4) (fun i _ => cnt_rng w (pt i))
    have hlt : (((prs n pt).take j).length : Int) ≤ 40 := by rw [List.length_take]; omega
    have hr2 := lsum_rng (l := (prs n pt).take j) (g := (fun i => cntS w t 0 (pt i))) (c := 4) (fun i _ => cntS_rng _ _ _ _)
    have hlt2 : (((prs n pt).take j).length : Int) ≤ 40 := by rw [List.length_take]; omega
    have hr3 := lsum_rng (l := (prs n pt).take j) (g := (fun i => cntS w t 2 (pt i))) (c := 4) (fun i _ => cntS_rng _ _ _ _)
    have hlt3 : (((prs n pt).take j).length : Int) ≤ 40 := by rw [List.length_take]; omega
    refine z_aload_n (pc := 27) dX7_isHalvedBy_27 rfl ?_
    refine z_aload_n (pc := 28) dX7_isHalvedBy_28 rfl ?_
    refine z_getR (pc := 29) (t := 13) dX7_isHalvedBy_29 fk_X7_15 rfl (by decide) (by decide) (by decide) rfl ?_
    refine z_iload (pc := 32) dX7_isHalvedBy_32 rfl ?_
    refine z_ialdN (pc := 34) j dX7_isHalvedBy_34 rfl (by decide) hv (by show _ < 40; omega) ?_
    refine z_aload_n (pc := 35) dX7_isHalvedBy_35 rfl ?_
    refine z_getR (pc := 36) (t := 14) dX7_isHalvedBy_36 fk_X7_18 rfl (by decide) (by decide) (by decide) rfl ?_
    refine z_iload (pc := 39) dX7_isHalvedBy_39 rfl ?_
    refine z_ialdN (pc := 41) j dX7_isHalvedBy_41 rfl (by decide) hv (by show _ < 40; omega) ?_
    refine z_iv2 (pc := 42) dX7_isHalvedBy_42 kv_X7_61 ho hno (by decide) rfl rfl ?_
    have hst := hS.2 j i hi
    have hpi := hP i (prs_at hi).1
    unfold ptOk at hpi
    refine c_X4_sideOf ho hno (by rw [hst.2.1]; omega) (by rw [hst.2.2.1]; omega) (by rw [hL.1]; omega) (by rw [hL.2.1]; omega) (by rw [hL.2.2]; omega) ?_
    rw [hL.1, hL.2.1, hL.2.2, hst.2.1, hst.2.2.1]
    change Z l G _ _ _ _ (psh (some (.int (sd (lv t (pt i))))) _) _ _
    refine z_istore (pc := 45) dX7_isHalvedBy_45 rfl rfl (by dsimp only [setI, setL, List.set]) ?_
    refine z_iload (pc := 47) dX7_isHalvedBy_47 rfl ?_
    refine z_aload_n (pc := 49) dX7_isHalvedBy_49 rfl ?_
    refine z_iload (pc := 50) dX7_isHalvedBy_50 rfl ?_
    refine z_ialdN (pc := 52) j dX7_isHalvedBy_52 (kd_row hw) (by omega) hv (by rw [ln_row hw]; omega) ?_
    refine z_iaddT (pc := 53) dX7_isHalvedBy_53 rfl rfl (by omega) (by omega) (fun v53 e53 => ?_)
    refine z_istore (pc := 54) dX7_isHalvedBy_54 rfl rfl (by dsimp only [setI, setL, List.set]) ?_
    refine z_iload (pc := 56) dX7_isHalvedBy_56 rfl ?_
    refine z_iload (pc := 58) dX7_isHalvedBy_58 rfl ?_
    refine zq_if_ne (pc := 60) (tgt := 70) dX7_isHalvedBy_60 rfl rfl (fun h60 => ?_) (fun h60 => ?_)
    · skip
      refine z_iconst (pc := 70) (v := 0) dX7_isHalvedBy_70 (by decide) ?_
      refine z_iaddT (pc := 71) (cy := 0) dX7_isHalvedBy_71 rfl (by decide) (by omega) (by omega) (fun v71 e71 => ?_)
      refine z_istore (pc := 72) dX7_isHalvedBy_72 rfl rfl (by dsimp only [setI, setL, List.set]) ?_
      refine z_iload (pc := 74) dX7_isHalvedBy_74 rfl ?_
      refine z_iload (pc := 76) dX7_isHalvedBy_76 rfl ?_
      refine z_iconst (pc := 78) (v := 2) dX7_isHalvedBy_78 (by decide) ?_
      refine zq_icmp_ne (pc := 79) (cy := 2) (tgt := 89) dX7_isHalvedBy_79 rfl rfl (by decide) (fun h79 => ?_) (fun h79 => ?_)
      · skip
        refine z_iconst (pc := 89) (v := 0) dX7_isHalvedBy_89 (by decide) ?_
        refine z_iaddT (pc := 90) (cy := 0) dX7_isHalvedBy_90 rfl (by decide) (by omega) (by omega) (fun v90 e90 => ?_)
        refine z_istore (pc := 91) dX7_isHalvedBy_91 rfl rfl (by dsimp only [setI, setL, List.set]) ?_
        refine z_iincT (pc := 93) dX7_isHalvedBy_93 rfl rfl (by decide) (by decide) (by omega) (by omega) rfl rfl (fun v => by dsimp only [setI, setL, List.set]) (fun v93 e93 => ?_)
        refine z_goto (pc := 96) (tgt := 18) dX7_isHalvedBy_96 rfl ?_
        refine z_sub (L' := [some _, some _, some _, some _, some _, some _, some _, some _, none]) ⟨rfl, rfl, rfl, rfl, rfl, rfl, rfl, rfl, trivial⟩ ?_
        have s0 : lsum ((prs n pt).take (j + 1)) (fun i => cnt w (pt i)) = v53.toInt := by rw [lsum_take hi]; omega
        have s1 : lsum ((prs n pt).take (j + 1)) (fun i => cntS w t 0 (pt i)) = v71.toInt := by
          rw [lsum_take hi]
          show _ + cntS w t 0 (pt i) = _
          first | (rw [show cntS w t 0 (pt i) = cnt w (pt i) from if_pos (Int32.toInt_inj.mp (h60.trans rfl))]; omega) | (rw [show cntS w t 0 (pt i) = 0 from if_neg (fun e => h60 (by rw [e]; rfl))]; omega)
        have s2 : lsum ((prs n pt).take (j + 1)) (fun i => cntS w t 2 (pt i)) = v90.toInt := by
          rw [lsum_take hi]
          show _ + cntS w t 2 (pt i) = _
          first | (rw [show cntS w t 2 (pt i) = cnt w (pt i) from if_pos (Int32.toInt_inj.mp (h79.trans rfl))]; omega) | (rw [show cntS w t 2 (pt i) = 0 from if_neg (fun e => h79 (by rw [e]; rfl))]; omega)
        exact ih (j + 1) v53 v71 v90 v93 (by omega) (by omega) (by omega) s0.symm s1.symm s2.symm
      · skip
        refine z_aload_n (pc := 82) dX7_isHalvedBy_82 rfl ?_
        refine z_iload (pc := 83) dX7_isHalvedBy_83 rfl ?_
        refine z_ialdN (pc := 85) j dX7_isHalvedBy_85 (kd_row hw) (by omega) hv (by rw [ln_row hw]; omega) ?_
        refine z_goto (pc := 86) (tgt := 90) dX7_isHalvedBy_86 rfl ?_
        refine z_iaddT (pc := 90) dX7_isHalvedBy_90 rfl rfl (by omega) (by omega) (fun v90 e90 => ?_)
        refine z_istore (pc := 91) dX7_isHalvedBy_91 rfl rfl (by dsimp only [setI, setL, List.set]) ?_
        refine z_iincT (pc := 93) dX7_isHalvedBy_93 rfl rfl (by decide) (by decide) (by omega) (by omega) rfl rfl (fun v => by dsimp only [setI, setL, List.set]) (fun v93 e93 => ?_)
        refine z_goto (pc := 96) (tgt := 18) dX7_isHalvedBy_96 rfl ?_
        refine z_sub (L' := [some _, some _, some _, some _, some _, some _, some _, some _, none]) ⟨rfl, rfl, rfl, rfl, rfl, rfl, rfl, rfl, trivial⟩ ?_
        have s0 : lsum ((prs n pt).take (j + 1)) (fun i => cnt w (pt i)) = v53.toInt := by rw [lsum_take hi]; omega
        have s1 : lsum ((prs n pt).take (j + 1)) (fun i => cntS w t 0 (pt i)) = v71.toInt := by
          rw [lsum_take hi]
          show _ + cntS w t 0 (pt i) = _
          first | (rw [show cntS w t 0 (pt i) = cnt w (pt i) from if_pos (Int32.toInt_inj.mp (h60.trans rfl))]; omega) | (rw [show cntS w t 0 (pt i) = 0 from if_neg (fun e => h60 (by rw [e]; rfl))]; omega)
        have s2 : lsum ((prs n pt).take (j + 1)) (fun i => cntS w t 2 (pt i)) = v90.toInt := by
          rw [lsum_take hi]
          show _ + cntS w t 2 (pt i) = _
          first | (rw [show cntS w t 2 (pt i) = cnt w (pt i) from if_pos (Int32.toInt_inj.mp (h79.trans rfl))]; omega) | (rw [show cntS w t 2 (pt i) = 0 from if_neg (fun e => h79 (by rw [e]; rfl))]; omega)
        exact ih (j + 1) v53 v71 v90 v93 (by omega) (by omega) (by omega) s0.symm s1.symm s2.symm
    · skip
      refine z_aload_n (pc := 63) dX7_isHalvedBy_63 rfl ?_
      refine z_iload (pc := 64) dX7_isHalvedBy_64 rfl ?_
      refine z_ialdN (pc := 66) j dX7_isHalvedBy_66 (kd_row hw) (by omega) hv (by rw [ln_row hw]; omega) ?_
      refine z_goto (pc := 67) (tgt := 71) dX7_isHalvedBy_67 rfl ?_
      refine z_iaddT (pc := 71) dX7_isHalvedBy_71 rfl rfl (by omega) (by omega) (fun v71 e71 => ?_)
      refine z_istore (pc := 72) dX7_isHalvedBy_72 rfl rfl (by dsimp only [setI, setL, List.set]) ?_
      refine z_iload (pc := 74) dX7_isHalvedBy_74 rfl ?_
      refine z_iload (pc := 76) dX7_isHalvedBy_76 rfl ?_
      refine z_iconst (pc := 78) (v := 2) dX7_isHalvedBy_78 (by decide) ?_
      refine zq_icmp_ne (pc := 79) (cy := 2) (tgt := 89) dX7_isHalvedBy_79 rfl rfl (by decide) (fun h79 => ?_) (fun h79 => ?_)
      · skip
        refine z_iconst (pc := 89) (v := 0) dX7_isHalvedBy_89 (by decide) ?_
        refine z_iaddT (pc := 90) (cy := 0) dX7_isHalvedBy_90 rfl (by decide) (by omega) (by omega) (fun v90 e90 => ?_)
        refine z_istore (pc := 91) dX7_isHalvedBy_91 rfl rfl (by dsimp only [setI, setL, List.set]) ?_
        refine z_iincT (pc := 93) dX7_isHalvedBy_93 rfl rfl (by decide) (by decide) (by omega) (by omega) rfl rfl (fun v => by dsimp only [setI, setL, List.set]) (fun v93 e93 => ?_)
        refine z_goto (pc := 96) (tgt := 18) dX7_isHalvedBy_96 rfl ?_
        refine z_sub (L' := [some _, some _, some _, some _, some _, some _, some _, some _, none]) ⟨rfl, rfl, rfl, rfl, rfl, rfl, rfl, rfl, trivial⟩ ?_
        have s0 : lsum ((prs n pt).take (j + 1)) (fun i => cnt w (pt i)) = v53.toInt := by rw [lsum_take hi]; omega
        have s1 : lsum ((prs n pt).take (j + 1)) (fun i => cntS w t 0 (pt i)) = v71.toInt := by
          rw [lsum_take hi]
          show _ + cntS w t 0 (pt i) = _
          first | (rw [show cntS w t 0 (pt i) = cnt w (pt i) from if_pos (Int32.toInt_inj.mp (h60.trans rfl))]; omega) | (rw [show cntS w t 0 (pt i) = 0 from if_neg (fun e => h60 (by rw [e]; rfl))]; omega)
        have s2 : lsum ((prs n pt).take (j + 1)) (fun i => cntS w t 2 (pt i)) = v90.toInt := by
          rw [lsum_take hi]
          show _ + cntS w t 2 (pt i) = _
          first | (rw [show cntS w t 2 (pt i) = cnt w (pt i) from if_pos (Int32.toInt_inj.mp (h79.trans rfl))]; omega) | (rw [show cntS w t 2 (pt i) = 0 from if_neg (fun e => h79 (by rw [e]; rfl))]; omega)
        exact ih (j + 1) v53 v71 v90 v93 (by omega) (by omega) (by omega) s0.symm s1.symm s2.symm
      · skip
        refine z_aload_n (pc := 82) dX7_isHalvedBy_82 rfl ?_
        refine z_iload (pc := 83) dX7_isHalvedBy_83 rfl ?_
        refine z_ialdN (pc := 85) j dX7_isHalvedBy_85 (kd_row hw) (by omega) hv (by rw [ln_row hw]; omega) ?_
        refine z_goto (pc := 86) (tgt := 90) dX7_isHalvedBy_86 rfl ?_
        refine z_iaddT (pc := 90) dX7_isHalvedBy_90 rfl rfl (by omega) (by omega) (fun v90 e90 => ?_)
        refine z_istore (pc := 91) dX7_isHalvedBy_91 rfl rfl (by dsimp only [setI, setL, List.set]) ?_
        refine z_iincT (pc := 93) dX7_isHalvedBy_93 rfl rfl (by decide) (by decide) (by omega) (by omega) rfl rfl (fun v => by dsimp only [setI, setL, List.set]) (fun v93 e93 => ?_)
        refine z_goto (pc := 96) (tgt := 18) dX7_isHalvedBy_96 rfl ?_
        refine z_sub (L' := [some _, some _, some _, some _, some _, some _, some _, some _, none]) ⟨rfl, rfl, rfl, rfl, rfl, rfl, rfl, rfl, trivial⟩ ?_
        have s0 : lsum ((prs n pt).take (j + 1)) (fun i => cnt w (pt i)) = v53.toInt := by rw [lsum_take hi]; omega
        have s1 : lsum ((prs n pt).take (j + 1)) (fun i => cntS w t 0 (pt i)) = v71.toInt := by
          rw [lsum_take hi]
          show _ + cntS w t 0 (pt i) = _
          first | (rw [show cntS w t 0 (pt i) = cnt w (pt i) from if_pos (Int32.toInt_inj.mp (h60.trans rfl))]; omega) | (rw [show cntS w t 0 (pt i) = 0 from if_neg (fun e => h60 (by rw [e]; rfl))]; omega)
        have s2 : lsum ((prs n pt).take (j + 1)) (fun i => cntS w t 2 (pt i)) = v90.toInt := by
          rw [lsum_take hi]
          show _ + cntS w t 2 (pt i) = _
          first | (rw [show cntS w t 2 (pt i) = cnt w (pt i) from if_pos (Int32.toInt_inj.mp (h79.trans rfl))]; omega) | (rw [show cntS w t 2 (pt i) = 0 from if_neg (fun e => h79 (by rw [e]; rfl))]; omega)
        exact ih (j + 1) v53 v71 v90 v93 (by omega) (by omega) (by omega) s0.symm s1.symm s2.symm

theorem c_X7_isHalvedBy {l : Launch} {G : Gx} {d : Nat} {σ : Sg} {Q : Option Value → Sg → Prop} {o w n : Nat} {pt : Nat → Pt} {t : Int × Int × Int} {x2 : Int32} (hx : x2.toInt = (w : Int)) (hw : w < 3) (hS : okStand σ n pt) (hn : n ≤ 40) (ho : kd o = 4) (hno : o < 105) (hL : isLn σ o t) (hb : t.1.natAbs ≤ 1000000 ∧ t.2.1.natAbs ≤ 1000000 ∧ t.2.2.natAbs ≤ 1000000) (hP : ∀ i, i < n → ptOk (pt i)) (ht : hlv n pt w t = true → Q (some (.int 1)) σ) (hf : hlv n pt w t = false → Q (some (.int 0)) σ) : Z l G M_X7_isHalvedBy (d + 1) 0 [some (.ref 11), some (.ref o), some (.int x2)] [] σ Q := by
  refine z_sub (L' := [some (.ref 11), some (.ref o), some (.int x2), none, none, none, none, none, none]) ⟨rfl, rfl, rfl, trivial⟩ ?_
  refine z_aload_n (pc := 0) dX7_isHalvedBy_0 rfl ?_
  refine z_iload_n (pc := 1) dX7_isHalvedBy_1 rfl ?_
  refine z_iv1 (pc := 2) dX7_isHalvedBy_2 kv_X7_57 rfl (by decide) (by decide) rfl rfl ?_
  refine c_X7_row hw hx ?_
  refine z_astore_n (pc := 5) dX7_isHalvedBy_5 rfl rfl (by dsimp only [setI, setL, List.set]) ?_
  refine z_iconst (pc := 6) (v := 0) dX7_isHalvedBy_6 (by decide) ?_
  refine z_istore (pc := 7) dX7_isHalvedBy_7 rfl rfl (by dsimp only [setI, setL, List.set]) ?_
  refine z_iconst (pc := 9) (v := 0) dX7_isHalvedBy_9 (by decide) ?_
  refine z_istore (pc := 10) dX7_isHalvedBy_10 rfl rfl (by dsimp only [setI, setL, List.set]) ?_
  refine z_iconst (pc := 12) (v := 0) dX7_isHalvedBy_12 (by decide) ?_
  refine z_istore (pc := 13) dX7_isHalvedBy_13 rfl rfl (by dsimp only [setI, setL, List.set]) ?_
  refine z_iconst (pc := 15) (v := 0) dX7_isHalvedBy_15 (by decide) ?_
  refine z_istore (pc := 16) dX7_isHalvedBy_16 rfl rfl (by dsimp only [setI, setL, List.set]) ?_
  exact c_halved_loop hw hS hn ho hno hL hb hP ht hf ((prs n pt).length + 1) 0 0 0 0 0 (by decide) (by omega) (by omega) rfl rfl rfl
