theorem c_X11_isPlant {l : Launch} {G : Gx} {d : Nat} {σ : Sg} {Q : Option Value → Sg → Prop} {v : Int32} (h0 : 0 ≤ (σ.1 1 0).toInt) (ht : 0 ≤ v.toInt ∧ v.toInt < (σ.1 1 0).toInt → Q (some (.int 1)) σ) (hf : ¬ (0 ≤ v.toInt ∧ v.toInt < (σ.1 1 0).toInt) → Q (some (.int 0)) σ) : Z l G M_X11_isPlant (d + 1) 0 [some (.ref 1), some (.int v)] [] σ Q := by
  have hlt := (σ.1 1 0).toInt_lt
  refine z_sub (L' := [some (.ref 1), some (.int v)]) ⟨rfl, rfl, trivial⟩ ?_
  refine z_iload_n (pc := 0) dX11_isPlant_0 rfl ?_
  refine z_i2lT (pc := 1) dX11_isPlant_1 rfl (fun v1 e1 => ?_)
  refine z_lconst (pc := 2) (v := 0) dX11_isPlant_2 (by decide) ?_
  refine z_aload_n (pc := 3) dX11_isPlant_3 rfl ?_
  refine z_getI (pc := 4) dX11_isPlant_4 fk_X11_101 rfl (by decide) (by decide) (by decide) ?_
  refine z_iconst (pc := 7) (v := 1) dX11_isPlant_7 (by decide) ?_
  refine z_isubT (pc := 8) (cy := 1) dX11_isPlant_8 rfl (by decide) (by omega) (by omega) (fun v8 e8 => ?_)
  refine z_i2lT (pc := 9) dX11_isPlant_9 rfl (fun v9 e9 => ?_)
  refine z_is3 (pc := 10) dX11_isPlant_10 ks_X11_81 rfl rfl ?_
  refine c_X11_in (cl := 0) (by first | assumption | rfl) (by decide) (by first | assumption | rfl) (fun q10 => ?_) (fun q10 => ?_)
  · skip
    refine z_zret (pc := 13) dX11_isPlant_13 rfl (by decide) ?_
    exact ht (by omega)
  · skip
    refine z_zret (pc := 13) dX11_isPlant_13 rfl (by decide) ?_
    exact hf (by omega)

theorem c_X11_keep {l : Launch} {G : Gx} {d : Nat} {σ : Sg} {Q : Option Value → Sg → Prop} {i : Nat} {v w : Int32} (hi : i < 40) (hv : v.toInt = (i : Int)) (hw : w = 0 ∨ w = 1) (hb : σ.1 35 i = 0 ∨ σ.1 35 i = 1) (h : Q none (km σ i v w)) : Z l G M_X11_keep (d) 0 [some (.ref 1), some (.int v), some (.int w)] [] σ Q := by
  refine z_sub (L' := [some (.ref 1), some (.int v), some (.int w)]) ⟨rfl, rfl, rfl, trivial⟩ ?_
  refine z_aload_n (pc := 0) dX11_keep_0 rfl ?_
  refine z_iload_n (pc := 1) dX11_keep_1 rfl ?_
  refine z_putI (pc := 2) dX11_keep_2 fk_X11_27 rfl (by decide) (by decide) (by decide) ?_
  refine z_aload_n (pc := 5) dX11_keep_5 rfl ?_
  refine z_iload_n (pc := 6) dX11_keep_6 rfl ?_
  refine z_putB (pc := 7) dX11_keep_7 fk_X11_104 rfl (by decide) (by decide) (by decide) hw ?_
  refine z_aload_n (pc := 10) dX11_keep_10 rfl ?_
  refine z_aload_n (pc := 11) dX11_keep_11 rfl ?_
  refine z_getR (pc := 12) (t := 31) dX11_keep_12 fk_X11_7 rfl (by decide) (by decide) (by decide) rfl ?_
  refine z_iload_n (pc := 15) dX11_keep_15 rfl ?_
  refine z_ialdN (pc := 16) i dX11_keep_16 rfl (by decide) hv (by show _ < 40; omega) ?_
  rw [uI_no (by omega), uI_no (by omega)]
  refine z_putI (pc := 17) dX11_keep_17 fk_X11_108 rfl (by decide) (by decide) (by decide) ?_
  refine z_aload_n (pc := 20) dX11_keep_20 rfl ?_
  refine z_aload_n (pc := 21) dX11_keep_21 rfl ?_
  refine z_getR (pc := 22) (t := 32) dX11_keep_22 fk_X11_13 rfl (by decide) (by decide) (by decide) rfl ?_
  refine z_iload_n (pc := 25) dX11_keep_25 rfl ?_
  refine z_ialdN (pc := 26) i dX11_keep_26 rfl (by decide) hv (by show _ < 40; omega) ?_
  simp (disch := omega) only [uI_no]
  refine z_putI (pc := 27) dX11_keep_27 fk_X11_111 rfl (by decide) (by decide) (by decide) ?_
  refine z_aload_n (pc := 30) dX11_keep_30 rfl ?_
  refine z_aload_n (pc := 31) dX11_keep_31 rfl ?_
  refine z_getR (pc := 32) (t := 34) dX11_keep_32 fk_X11_19 rfl (by decide) (by decide) (by decide) rfl ?_
  refine z_iload_n (pc := 35) dX11_keep_35 rfl ?_
  refine z_ialdN (pc := 36) i dX11_keep_36 rfl (by decide) hv (by show _ < 40; omega) ?_
  simp (disch := omega) only [uI_no]
  refine z_putI (pc := 37) dX11_keep_37 fk_X11_114 rfl (by decide) (by decide) (by decide) ?_
  refine z_aload_n (pc := 40) dX11_keep_40 rfl ?_
  refine z_aload_n (pc := 41) dX11_keep_41 rfl ?_
  refine z_getR (pc := 42) (t := 35) dX11_keep_42 fk_X11_22 rfl (by decide) (by decide) (by decide) rfl ?_
  refine z_iload_n (pc := 45) dX11_keep_45 rfl ?_
  refine z_zaldN (pc := 46) i dX11_keep_46 rfl (by decide) hv (by show _ < 40; omega) ?_
  simp (disch := omega) only [uI_no]
  refine z_putB (pc := 47) dX11_keep_47 fk_X11_117 rfl (by decide) (by decide) (by decide) hb ?_
  refine z_vret (pc := 50) dX11_keep_50 rfl ?_
  exact h

theorem c_X11_move {l : Launch} {G : Gx} {d : Nat} {σ : Sg} {Q : Option Value → Sg → Prop} {a : Ab} {x1 x2 x3 : Int32} (hr : rM σ a) (hk : abOk a) (h : ∀ (r : Int32) (τ : Sg), r.toInt = (sMove a x1 x2 x3).1 → rM τ (sMove a x1 x2 x3).2 → eqC σ τ → Q (some (.int r)) τ) : Z l G M_X11_move (d + 2) 0 [some (.ref 1), some (.int x1), some (.int x2), some (.int x3)] [] σ Q := by
  have hg := hr.1.1
  have hn := hk.1
  refine z_sub (L' := [some (.ref 1), some (.int x1), some (.int x2), some (.int x3)]) ⟨rfl, rfl, rfl, rfl, trivial⟩ ?_
  refine z_aload_n (pc := 0) dX11_move_0 rfl ?_
  refine z_iload_n (pc := 1) dX11_move_1 rfl ?_
  refine z_iv1 (pc := 2) dX11_move_2 kv_X11_131 rfl (by decide) (by decide) rfl rfl ?_
  refine c_X11_isPlant (by omega) (fun q2 => ?_) (fun q2 => ?_)
  · skip
    refine z_if_ne (pc := 5) (tgt := 11) dX11_move_5 rfl (fun _ => ?_) (fun hc => absurd hc (by decide))
    obtain ⟨i, hi, hie⟩ : ∃ i : Nat, i < a.1.1 ∧ x1.toInt = (i : Int) := ⟨x1.toInt.toNat, by omega, by omega⟩
    have hp : plM σ i (a.1.2 i) := hr.1.2 i hi
    have hpk := hk.2.1 i hi
    have h7 := hp.2.2.2.2
    refine z_aload_n (pc := 11) dX11_move_11 rfl ?_
    refine z_getR (pc := 12) (t := 35) dX11_move_12 fk_X11_22 rfl (by decide) (by decide) (by decide) rfl ?_
    refine z_iload_n (pc := 15) dX11_move_15 rfl ?_
    refine z_zaldN (pc := 16) i dX11_move_16 rfl (by decide) hie (by show _ < 40; omega) ?_
    refine zq_if_eq (pc := 17) (tgt := 26) dX11_move_17 rfl rfl (fun h17 => ?_) (fun h17 => ?_)
    · skip
      have ha := mthere_of h7 h17
      have b1 := x2.toInt_lt
      have b2 := x2.le_toInt
      have b3 := x3.toInt_lt
      have b4 := x3.le_toInt
      have ex : (σ.1 31 i).toInt = (a.1.2 i).1.toInt := by rw [hp.1]
      have ey : (σ.1 32 i).toInt = (a.1.2 i).2.1.toInt := by rw [hp.2.1]
      have hq := hpk
      refine z_aload_n (pc := 26) dX11_move_26 rfl ?_
      refine z_getR (pc := 27) (t := 31) dX11_move_27 fk_X11_7 rfl (by decide) (by decide) (by decide) rfl ?_
      refine z_iload_n (pc := 30) dX11_move_30 rfl ?_
      refine z_ialdN (pc := 31) i dX11_move_31 rfl (by decide) hie (by show _ < 40; omega) ?_
      refine z_i2lT (pc := 32) dX11_move_32 rfl (fun v32 e32 => ?_)
      refine z_iload_n (pc := 33) dX11_move_33 rfl ?_
      refine z_i2lT (pc := 34) dX11_move_34 rfl (fun v34 e34 => ?_)
      refine z_laddT (pc := 35) dX11_move_35 rfl rfl (by unfold ptOk at hq; omega) (by unfold ptOk at hq; omega) (fun v35 e35 => ?_)
      refine z_ldc2 (pc := 36) dX11_move_36 kc_X11_123 ?_
      refine z_ldc2 (pc := 39) dX11_move_39 kc_X11_125 ?_
      refine z_is3 (pc := 42) dX11_move_42 ks_X11_81 rfl rfl ?_
      refine c_X11_in (cl := -300) (cm := 300) (by first | assumption | rfl) (by decide) (by decide) (fun q42 => ?_) (fun q42 => ?_)
      · skip
        refine z_if_eq (pc := 45) (tgt := 70) dX11_move_45 rfl (fun hc => absurd hc (by decide)) (fun _ => ?_)
        refine z_aload_n (pc := 48) dX11_move_48 rfl ?_
        refine z_getR (pc := 49) (t := 32) dX11_move_49 fk_X11_13 rfl (by decide) (by decide) (by decide) rfl ?_
        refine z_iload_n (pc := 52) dX11_move_52 rfl ?_
        refine z_ialdN (pc := 53) i dX11_move_53 rfl (by decide) hie (by show _ < 40; omega) ?_
        refine z_i2lT (pc := 54) dX11_move_54 rfl (fun v54 e54 => ?_)
        refine z_iload_n (pc := 55) dX11_move_55 rfl ?_
        refine z_i2lT (pc := 56) dX11_move_56 rfl (fun v56 e56 => ?_)
        refine z_laddT (pc := 57) dX11_move_57 rfl rfl (by unfold ptOk at hq; omega) (by unfold ptOk at hq; omega) (fun v57 e57 => ?_)
        refine z_ldc2 (pc := 58) dX11_move_58 kc_X11_123 ?_
        refine z_ldc2 (pc := 61) dX11_move_61 kc_X11_125 ?_
        refine z_is3 (pc := 64) dX11_move_64 ks_X11_81 rfl rfl ?_
        refine c_X11_in (cl := -300) (cm := 300) (by first | assumption | rfl) (by decide) (by decide) (fun q64 => ?_) (fun q64 => ?_)
        · skip
          refine z_if_ne (pc := 67) (tgt := 73) dX11_move_67 rfl (fun _ => ?_) (fun hc => absurd hc (by decide))
          refine z_aload_n (pc := 73) dX11_move_73 rfl ?_
          refine z_iload_n (pc := 74) dX11_move_74 rfl ?_
          refine z_iconst (pc := 75) (v := 0) dX11_move_75 (by decide) ?_
          refine z_iv2 (pc := 76) dX11_move_76 kv_X11_127 rfl (by decide) (by decide) rfl rfl ?_
          refine c_X11_keep (i := i) (by omega) hie (by decide) (plM_b hp) ?_
          change Z l G _ _ _ _ _ (km σ i x1 0) Q
          refine z_aload_n (pc := 79) dX11_move_79 rfl ?_
          refine z_getR (pc := 80) (t := 31) dX11_move_80 fk_X11_7 rfl (by decide) (by decide) (by decide) rfl ?_
          refine z_iload_n (pc := 83) dX11_move_83 rfl ?_
          refine z_dup2 (pc := 84) dX11_move_84 rfl rfl ?_
          refine z_ialdN (pc := 85) i dX11_move_85 rfl (by decide) hie (by show _ < 40; omega) ?_
          rw [km_row (by omega)]
          refine z_iload_n (pc := 86) dX11_move_86 rfl ?_
          refine z_iadd (pc := 87) dX11_move_87 ?_
          refine z_iastN (pc := 88) i dX11_move_88 rfl (by decide) hie (by show _ < 40; omega) ?_
          refine z_aload_n (pc := 89) dX11_move_89 rfl ?_
          refine z_getR (pc := 90) (t := 32) dX11_move_90 fk_X11_13 rfl (by decide) (by decide) (by decide) rfl ?_
          refine z_iload_n (pc := 93) dX11_move_93 rfl ?_
          refine z_dup2 (pc := 94) dX11_move_94 rfl rfl ?_
          refine z_ialdN (pc := 95) i dX11_move_95 rfl (by decide) hie (by show _ < 40; omega) ?_
          rw [uI_row (by omega), km_row (by omega)]
          refine z_iload_n (pc := 96) dX11_move_96 rfl ?_
          refine z_iadd (pc := 97) dX11_move_97 ?_
          refine z_iastN (pc := 98) i dX11_move_98 rfl (by decide) hie (by show _ < 40; omega) ?_
          refine z_aload_n (pc := 99) dX11_move_99 rfl ?_
          refine z_iconst (pc := 100) (v := 1) dX11_move_100 (by decide) ?_
          refine z_iv1 (pc := 101) dX11_move_101 kv_X11_96 rfl (by decide) (by decide) rfl rfl ?_
          refine c_X11_well ?_
          refine z_iret (pc := 104) dX11_move_104 rfl ?_
          have e : sMove a x1 x2 x3 = _ := (sGiv_3 hi hie rfl ha).trans (if_neg (by omega))
          refine h _ _ (by rw [e]; rfl) (by
            rw [e]
            refine rM_chg (x := x1) hr hn hi hie (p := ((a.1.2 i).1 + x2, (a.1.2 i).2.1 + x3, (a.1.2 i).2.2)) ?_ ⟨?_, ?_, ?_, ?_, ?_⟩ (fun o j h1 h2 hj => ?_) (fun o h1 h2 => ?_) rfl
            · rw [uI_row (by omega), uI_row (by omega)]
            · simp (disch := omega) only [uI_row, uI_2, uI_nk, uI_no, uI_eq]; rw [hp.1]
            · simp (disch := omega) only [uI_row, uI_2, uI_nk, uI_no, uI_eq]; rw [hp.2.1]
            · simp (disch := omega) only [uI_row, uI_2, uI_nk, uI_no, uI_eq]; rw [km_row (by omega)]; exact hp.2.2.1
            · simp (disch := omega) only [uI_row, uI_2, uI_nk, uI_no, uI_eq]; rw [km_row (by omega)]; exact hp.2.2.2.1
            · simp (disch := omega) only [uI_row, uI_2, uI_nk, uI_no, uI_eq]; rw [km_row (by omega)]; exact hp.2.2.2.2
            · rw [uI_nk hj, uI_nk hj, km_row (by omega)]
            · rw [uI_row (by omega), uI_row (by omega), km_row (by omega)]) (eqC_uI (eqC_uI (eqC_uI (eqC_km eqC_rf) rfl) rfl) rfl)
        · skip
          refine z_if_ne (pc := 67) (tgt := 73) dX11_move_67 rfl (fun hc => absurd hc (by decide)) (fun _ => ?_)
          refine z_ldc (pc := 70) dX11_move_70 kc_X11_91 ?_
          refine z_iret (pc := 72) dX11_move_72 rfl ?_
          have e : sMove a x1 x2 x3 = _ := (sGiv_3 hi hie rfl ha).trans (if_pos (by omega))
          exact h _ _ (by rw [e]; rfl) (by rw [e]; exact hr) eqC_rf
      · skip
        refine z_if_eq (pc := 45) (tgt := 70) dX11_move_45 rfl (fun _ => ?_) (fun hc => absurd hc (by decide))
        refine z_ldc (pc := 70) dX11_move_70 kc_X11_91 ?_
        refine z_iret (pc := 72) dX11_move_72 rfl ?_
        have e : sMove a x1 x2 x3 = _ := (sGiv_3 hi hie rfl ha).trans (if_pos (by omega))
        exact h _ _ (by rw [e]; rfl) (by rw [e]; exact hr) eqC_rf
    · skip
      refine z_aload_n (pc := 20) dX11_move_20 rfl ?_
      refine z_iconst (pc := 21) (v := 1) dX11_move_21 (by decide) ?_
      refine z_iv1 (pc := 22) dX11_move_22 kv_X11_92 rfl (by decide) (by decide) rfl rfl ?_
      refine c_X11_finds (by decide) (by decide) (fun r er => ?_)
      refine z_iret (pc := 25) dX11_move_25 rfl ?_
      have e : sMove a x1 x2 x3 = _ := sGiv_2 hi hie rfl (maway_of h7 h17)
      exact h _ _ (by rw [e, er]; rfl) (by rw [e]; exact rM_stat hr) (eqC_uI eqC_rf rfl)
  · skip
    refine z_if_ne (pc := 5) (tgt := 11) dX11_move_5 rfl (fun hc => absurd hc (by decide)) (fun _ => ?_)
    refine z_ldc (pc := 8) dX11_move_8 kc_X11_91 ?_
    refine z_iret (pc := 10) dX11_move_10 rfl ?_
    have e : sMove a x1 x2 x3 = _ := sGiv_1 (Or.inl (by omega))
    exact h _ _ (by rw [e]; rfl) (by rw [e]; exact hr) eqC_rf

theorem c_there_loop {l : Launch} {G : Gx} {d : Nat} {σ : Sg} {Q : Option Value → Sg → Prop} {n : Nat} {pt : Nat → Pt} (hn : n ≤ 40) (hg : (σ.1 1 0).toInt = (n : Int)) (hP : ∀ i, i < n → σ.1 35 i = (if (pt i).2.2.2.2 then 1 else 0)) (h : ∀ r : Int32, r.toInt = ((prs n pt).length : Int) → Q (some (.int r)) σ) : ∀ (k i : Nat) (y v : Int32), v.toInt = (i : Int) → i ≤ n → n - i < k → y.toInt = ((prs i pt).length : Int) → Z l G M_X11_there d 4 [some (.ref 1), some (.int y), some (.int v)] [] σ Q := by
  intro k
  induction k with
  | zero => intro i y v hv hi hk hy; omega
  | succ k ih =>
  intro i y v hv hi hk hy
  refine z_iload_n (pc := 4) dX11_there_4 rfl ?_
  refine z_aload_n (pc := 5) dX11_there_5 rfl ?_
  refine z_getI (pc := 6) dX11_there_6 fk_X11_101 rfl (by decide) (by decide) (by decide) ?_
  refine zq_icmp_ge (pc := 9) (tgt := 35) dX11_there_9 rfl rfl rfl (fun h9 => ?_) (fun h9 => ?_)
  · skip
    refine z_iload_n (pc := 35) dX11_there_35 rfl ?_
    refine z_iret (pc := 36) dX11_there_36 rfl ?_
    have e : i = n := by omega
    subst e
    exact h y hy
  · skip
    refine z_iload_n (pc := 12) dX11_there_12 rfl ?_
    refine z_aload_n (pc := 13) dX11_there_13 rfl ?_
    refine z_getR (pc := 14) (t := 35) dX11_there_14 fk_X11_22 rfl (by decide) (by decide) (by decide) rfl ?_
    refine z_iload_n (pc := 17) dX11_there_17 rfl ?_
    refine z_zaldN (pc := 18) i dX11_there_18 rfl (by decide) hv (by show _ < 40; omega) ?_
    refine zq_if_eq (pc := 19) (tgt := 26) dX11_there_19 rfl rfl (fun h19 => ?_) (fun h19 => ?_)
    · skip
      refine z_iconst (pc := 26) (v := 1) dX11_there_26 (by decide) ?_
      have hl := prs_len i pt
      refine z_iaddT (pc := 27) (cy := 1) dX11_there_27 rfl (by decide) (by omega) (by omega) (fun v27 e27 => ?_)
      refine z_istore_n (pc := 28) dX11_there_28 rfl rfl (by dsimp only [setI, setL, List.set]) ?_
      refine z_iincT (pc := 29) dX11_there_29 rfl rfl (by decide) (by decide) (by omega) (by omega) rfl rfl (fun v => by dsimp only [setI, setL, List.set]) (fun v29 e29 => ?_)
      refine z_goto (pc := 32) (tgt := 4) dX11_there_32 rfl ?_
      exact ih (i + 1) v27 v29 (by omega) (by omega) (by omega) (by
        have hs := prs_succ i pt
        have hl := prs_len i pt
        first | (rw [if_pos (maway_of (hP i (by omega)) h19), List.append_nil] at hs; rw [hs]; omega) | (rw [if_neg (by rw [mthere_of (hP i (by omega)) h19]; decide)] at hs; rw [hs, List.length_append]; simp; omega))
    · skip
      refine z_iconst (pc := 22) (v := 0) dX11_there_22 (by decide) ?_
      refine z_goto (pc := 23) (tgt := 27) dX11_there_23 rfl ?_
      have hl := prs_len i pt
      refine z_iaddT (pc := 27) (cy := 0) dX11_there_27 rfl (by decide) (by omega) (by omega) (fun v27 e27 => ?_)
      refine z_istore_n (pc := 28) dX11_there_28 rfl rfl (by dsimp only [setI, setL, List.set]) ?_
      refine z_iincT (pc := 29) dX11_there_29 rfl rfl (by decide) (by decide) (by omega) (by omega) rfl rfl (fun v => by dsimp only [setI, setL, List.set]) (fun v29 e29 => ?_)
      refine z_goto (pc := 32) (tgt := 4) dX11_there_32 rfl ?_
      exact ih (i + 1) v27 v29 (by omega) (by omega) (by omega) (by
        have hs := prs_succ i pt
        have hl := prs_len i pt
        first | (rw [if_pos (maway_of (hP i (by omega)) h19), List.append_nil] at hs; rw [hs]; omega) | (rw [if_neg (by rw [mthere_of (hP i (by omega)) h19]; decide)] at hs; rw [hs, List.length_append]; simp; omega))

theorem c_X11_there {l : Launch} {G : Gx} {d : Nat} {σ : Sg} {Q : Option Value → Sg → Prop} {n : Nat} {pt : Nat → Pt} (hn : n ≤ 40) (hg : (σ.1 1 0).toInt = (n : Int)) (hP : ∀ i, i < n → σ.1 35 i = (if (pt i).2.2.2.2 then 1 else 0)) (h : ∀ r : Int32, r.toInt = ((prs n pt).length : Int) → Q (some (.int r)) σ) : Z l G M_X11_there (d) 0 [some (.ref 1)] [] σ Q := by
  refine z_sub (L' := [some (.ref 1), none, none]) ⟨rfl, trivial⟩ ?_
  refine z_iconst (pc := 0) (v := 0) dX11_there_0 (by decide) ?_
  refine z_istore_n (pc := 1) dX11_there_1 rfl rfl (by dsimp only [setI, setL, List.set]) ?_
  refine z_iconst (pc := 2) (v := 0) dX11_there_2 (by decide) ?_
  refine z_istore_n (pc := 3) dX11_there_3 rfl rfl (by dsimp only [setI, setL, List.set]) ?_
  exact c_there_loop hn hg hP h (n + 1) 0 0 0 (by decide) (by omega) (by omega) rfl

theorem c_X11_away {l : Launch} {G : Gx} {d : Nat} {σ : Sg} {Q : Option Value → Sg → Prop} {a : Ab} {x1 : Int32} (hr : rM σ a) (hk : abOk a) (h : ∀ (r : Int32) (τ : Sg), r.toInt = (sAway a x1).1 → rM τ (sAway a x1).2 → eqC σ τ → Q (some (.int r)) τ) : Z l G M_X11_away (d + 2) 0 [some (.ref 1), some (.int x1)] [] σ Q := by
  have hg := hr.1.1
  have hn := hk.1
  refine z_sub (L' := [some (.ref 1), some (.int x1)]) ⟨rfl, rfl, trivial⟩ ?_
  refine z_aload_n (pc := 0) dX11_away_0 rfl ?_
  refine z_iload_n (pc := 1) dX11_away_1 rfl ?_
  refine z_iv1 (pc := 2) dX11_away_2 kv_X11_131 rfl (by decide) (by decide) rfl rfl ?_
  refine c_X11_isPlant (by omega) (fun q2 => ?_) (fun q2 => ?_)
  · skip
    refine z_if_ne (pc := 5) (tgt := 11) dX11_away_5 rfl (fun _ => ?_) (fun hc => absurd hc (by decide))
    obtain ⟨i, hi, hie⟩ : ∃ i : Nat, i < a.1.1 ∧ x1.toInt = (i : Int) := ⟨x1.toInt.toNat, by omega, by omega⟩
    have hp : plM σ i (a.1.2 i) := hr.1.2 i hi
    have hpk := hk.2.1 i hi
    have h7 := hp.2.2.2.2
    refine z_aload_n (pc := 11) dX11_away_11 rfl ?_
    refine z_getR (pc := 12) (t := 35) dX11_away_12 fk_X11_22 rfl (by decide) (by decide) (by decide) rfl ?_
    refine z_iload_n (pc := 15) dX11_away_15 rfl ?_
    refine z_zaldN (pc := 16) i dX11_away_16 rfl (by decide) hie (by show _ < 40; omega) ?_
    refine zq_if_eq (pc := 17) (tgt := 26) dX11_away_17 rfl rfl (fun h17 => ?_) (fun h17 => ?_)
    · skip
      refine z_aload_n (pc := 26) dX11_away_26 rfl ?_
      refine z_iload_n (pc := 27) dX11_away_27 rfl ?_
      refine z_iconst (pc := 28) (v := 0) dX11_away_28 (by decide) ?_
      refine z_iv2 (pc := 29) dX11_away_29 kv_X11_127 rfl (by decide) (by decide) rfl rfl ?_
      refine c_X11_keep (i := i) (by omega) hie (by decide) (plM_b hp) ?_
      change Z l G _ _ _ _ _ (km σ i x1 0) Q
      refine z_aload_n (pc := 32) dX11_away_32 rfl ?_
      refine z_getR (pc := 33) (t := 35) dX11_away_33 fk_X11_22 rfl (by decide) (by decide) (by decide) rfl ?_
      refine z_iload_n (pc := 36) dX11_away_36 rfl ?_
      refine z_iconst (pc := 37) (v := 1) dX11_away_37 (by decide) ?_
      refine z_zastN (pc := 38) i dX11_away_38 rfl (by decide) hie (by show _ < 40; omega) (by decide) ?_
      refine z_aload_n (pc := 39) dX11_away_39 rfl ?_
      refine z_aload_n (pc := 40) dX11_away_40 rfl ?_
      refine z_iv0 (pc := 41) dX11_away_41 kv_X11_134 rfl (by decide) (by decide) rfl rfl ?_
      have hrm : rM (uI (uI (km σ i x1 0) 35 i 1) 1 16 0) (plTo a a.1.1 (va_up a.1.2 i ((a.1.2 i).1, (a.1.2 i).2.1, (a.1.2 i).2.2.1, (a.1.2 i).2.2.2.1, true)) 0 (some (i, false, a.1.2 i))) := by
        refine rM_chg (x := x1) hr hn hi hie (p := ((a.1.2 i).1, (a.1.2 i).2.1, (a.1.2 i).2.2.1, (a.1.2 i).2.2.2.1, true)) ?_ ⟨?_, ?_, ?_, ?_, ?_⟩ (fun o j h1 h2 hj => ?_) (fun o h1 h2 => ?_) rfl
        · rw [uI_row (by omega)]
        · simp (disch := omega) only [uI_row, uI_2, uI_nk, uI_no, uI_eq]; rw [km_row (by omega)]; exact hp.1
        · simp (disch := omega) only [uI_row, uI_2, uI_nk, uI_no, uI_eq]; rw [km_row (by omega)]; exact hp.2.1
        · simp (disch := omega) only [uI_row, uI_2, uI_nk, uI_no, uI_eq]; rw [km_row (by omega)]; exact hp.2.2.1
        · simp (disch := omega) only [uI_row, uI_2, uI_nk, uI_no, uI_eq]; rw [km_row (by omega)]; exact hp.2.2.2.1
        · simp (disch := omega) only [uI_row, uI_2, uI_nk, uI_no, uI_eq]; rfl
        · rw [uI_nk hj, km_row (by omega)]
        · rw [uI_row (by omega), km_row (by omega)]
      refine c_X11_there (n := a.1.1) (pt := va_up a.1.2 i ((a.1.2 i).1, (a.1.2 i).2.1, (a.1.2 i).2.2.1, (a.1.2 i).2.2.2.1, true)) hn (by rw [uI_row (by omega), km_1 (by omega)]; exact hg) (fun j hj => by have := (hrm.1.2 j hj).2.2.2.2; rw [uI_row (by omega)] at this; exact this) (fun rt ert => ?_)
      refine z_iv1 (pc := 44) dX11_away_44 kv_X11_96 rfl (by decide) (by decide) rfl rfl ?_
      refine c_X11_well ?_
      refine z_iret (pc := 47) dX11_away_47 rfl ?_
      have e : sAway a x1 = _ := sGiv_3 hi hie rfl (mthere_of h7 h17)
      exact h _ _ (by rw [e]; exact ert) (by rw [e]; exact hrm) (eqC_uI (eqC_uI (eqC_km eqC_rf) rfl) rfl)
    · skip
      refine z_aload_n (pc := 20) dX11_away_20 rfl ?_
      refine z_iconst (pc := 21) (v := 1) dX11_away_21 (by decide) ?_
      refine z_iv1 (pc := 22) dX11_away_22 kv_X11_92 rfl (by decide) (by decide) rfl rfl ?_
      refine c_X11_finds (by decide) (by decide) (fun r er => ?_)
      refine z_iret (pc := 25) dX11_away_25 rfl ?_
      have e : sAway a x1 = _ := sGiv_2 hi hie rfl (maway_of h7 h17)
      exact h _ _ (by rw [e, er]; rfl) (by rw [e]; exact rM_stat hr) (eqC_uI eqC_rf rfl)
  · skip
    refine z_if_ne (pc := 5) (tgt := 11) dX11_away_5 rfl (fun hc => absurd hc (by decide)) (fun _ => ?_)
    refine z_ldc (pc := 8) dX11_away_8 kc_X11_91 ?_
    refine z_iret (pc := 10) dX11_away_10 rfl ?_
    have e : sAway a x1 = _ := sGiv_1 (Or.inl (by omega))
    exact h _ _ (by rw [e]; rfl) (by rw [e]; exact hr) eqC_rf

theorem c_X11_colour {l : Launch} {G : Gx} {d : Nat} {σ : Sg} {Q : Option Value → Sg → Prop} {a : Ab} {x1 x2 : Int32} (hr : rM σ a) (hk : abOk a) (h : ∀ (r : Int32) (τ : Sg), r.toInt = (sColour a x1 x2).1 → rM τ (sColour a x1 x2).2 → eqC σ τ → Q (some (.int r)) τ) : Z l G M_X11_colour (d + 2) 0 [some (.ref 1), some (.int x1), some (.int x2)] [] σ Q := by
  have hg := hr.1.1
  have hn := hk.1
  refine z_sub (L' := [some (.ref 1), some (.int x1), some (.int x2), none]) ⟨rfl, rfl, rfl, trivial⟩ ?_
  refine z_aload_n (pc := 0) dX11_colour_0 rfl ?_
  refine z_iload_n (pc := 1) dX11_colour_1 rfl ?_
  refine z_iv1 (pc := 2) dX11_colour_2 kv_X11_131 rfl (by decide) (by decide) rfl rfl ?_
  refine c_X11_isPlant (by omega) (fun q2 => ?_) (fun q2 => ?_)
  · skip
    refine z_if_eq (pc := 5) (tgt := 20) dX11_colour_5 rfl (fun hc => absurd hc (by decide)) (fun _ => ?_)
    refine z_iload_n (pc := 8) dX11_colour_8 rfl ?_
    refine z_i2lT (pc := 9) dX11_colour_9 rfl (fun v9 e9 => ?_)
    refine z_lconst (pc := 10) (v := 0) dX11_colour_10 (by decide) ?_
    refine z_ldc2 (pc := 11) dX11_colour_11 kc_X11_89 ?_
    refine z_is3 (pc := 14) dX11_colour_14 ks_X11_81 rfl rfl ?_
    refine c_X11_in (cl := 0) (cm := 2) (by first | assumption | rfl) (by decide) (by decide) (fun q14 => ?_) (fun q14 => ?_)
    · skip
      refine z_if_ne (pc := 17) (tgt := 23) dX11_colour_17 rfl (fun _ => ?_) (fun hc => absurd hc (by decide))
      obtain ⟨i, hi, hie⟩ : ∃ i : Nat, i < a.1.1 ∧ x1.toInt = (i : Int) := ⟨x1.toInt.toNat, by omega, by omega⟩
      have hp : plM σ i (a.1.2 i) := hr.1.2 i hi
      have hpk := hk.2.1 i hi
      have h7 := hp.2.2.2.2
      have hgd : in03 x2.toInt 3 = true := decide_eq_true (by omega)
      refine z_aload_n (pc := 23) dX11_colour_23 rfl ?_
      refine z_getR (pc := 24) (t := 35) dX11_colour_24 fk_X11_22 rfl (by decide) (by decide) (by decide) rfl ?_
      refine z_iload_n (pc := 27) dX11_colour_27 rfl ?_
      refine z_zaldN (pc := 28) i dX11_colour_28 rfl (by decide) hie (by show _ < 40; omega) ?_
      refine zq_if_eq (pc := 29) (tgt := 38) dX11_colour_29 rfl rfl (fun h29 => ?_) (fun h29 => ?_)
      · skip
        have ha := mthere_of h7 h29
        have ek : (σ.1 33 i).toInt = (a.1.2 i).2.2.1.toInt := by rw [hp.2.2.1]
        refine z_aload_n (pc := 38) dX11_colour_38 rfl ?_
        refine z_getR (pc := 39) (t := 33) dX11_colour_39 fk_X11_16 rfl (by decide) (by decide) (by decide) rfl ?_
        refine z_iload_n (pc := 42) dX11_colour_42 rfl ?_
        refine z_ialdN (pc := 43) i dX11_colour_43 rfl (by decide) hie (by show _ < 40; omega) ?_
        refine z_iconst (pc := 44) (v := 4) dX11_colour_44 (by decide) ?_
        refine zq_icmp_eq (pc := 45) (cy := 4) (tgt := 54) dX11_colour_45 rfl rfl (by decide) (fun h45 => ?_) (fun h45 => ?_)
        · skip
          refine z_aload_n (pc := 54) dX11_colour_54 rfl ?_
          refine z_iload_n (pc := 55) dX11_colour_55 rfl ?_
          refine z_iconst (pc := 56) (v := 0) dX11_colour_56 (by decide) ?_
          refine z_iv2 (pc := 57) dX11_colour_57 kv_X11_127 rfl (by decide) (by decide) rfl rfl ?_
          refine c_X11_keep (i := i) (by omega) hie (by decide) (plM_b hp) ?_
          change Z l G _ _ _ _ _ (km σ i x1 0) Q
          refine z_aload_n (pc := 60) dX11_colour_60 rfl ?_
          refine z_getR (pc := 61) (t := 34) dX11_colour_61 fk_X11_19 rfl (by decide) (by decide) (by decide) rfl ?_
          refine z_iload_n (pc := 64) dX11_colour_64 rfl ?_
          refine z_ialdN (pc := 65) i dX11_colour_65 rfl (by decide) hie (by show _ < 40; omega) ?_
          rw [km_row (by omega)]
          refine z_istore_n (pc := 66) dX11_colour_66 rfl rfl (by dsimp only [setI, setL, List.set]) ?_
          refine z_aload_n (pc := 67) dX11_colour_67 rfl ?_
          refine z_getR (pc := 68) (t := 34) dX11_colour_68 fk_X11_19 rfl (by decide) (by decide) (by decide) rfl ?_
          refine z_iload_n (pc := 71) dX11_colour_71 rfl ?_
          refine z_iload_n (pc := 72) dX11_colour_72 rfl ?_
          refine z_iastN (pc := 73) i dX11_colour_73 rfl (by decide) hie (by show _ < 40; omega) ?_
          refine z_aload_n (pc := 74) dX11_colour_74 rfl ?_
          refine z_iload_n (pc := 75) dX11_colour_75 rfl ?_
          refine z_iv1 (pc := 76) dX11_colour_76 kv_X11_96 rfl (by decide) (by decide) rfl rfl ?_
          refine c_X11_well ?_
          refine z_iret (pc := 79) dX11_colour_79 rfl ?_
          have e : sColour a x1 x2 = _ := (sGiv_3 hi hie hgd ha).trans (if_neg (by omega))
          refine h _ _ (by rw [e, hp.2.2.2.1]) (by
            rw [e]
            refine rM_chg (x := x1) hr hn hi hie (p := ((a.1.2 i).1, (a.1.2 i).2.1, (a.1.2 i).2.2.1, x2, (a.1.2 i).2.2.2.2)) ?_ ⟨?_, ?_, ?_, ?_, ?_⟩ (fun o j h1 h2 hj => ?_) (fun o h1 h2 => ?_) rfl
            · rw [uI_row (by omega)]
            · simp (disch := omega) only [uI_row, uI_2, uI_nk, uI_no, uI_eq]; rw [km_row (by omega)]; exact hp.1
            · simp (disch := omega) only [uI_row, uI_2, uI_nk, uI_no, uI_eq]; rw [km_row (by omega)]; exact hp.2.1
            · simp (disch := omega) only [uI_row, uI_2, uI_nk, uI_no, uI_eq]; rw [km_row (by omega)]; exact hp.2.2.1
            · simp (disch := omega) only [uI_row, uI_2, uI_nk, uI_no, uI_eq]
            · simp (disch := omega) only [uI_row, uI_2, uI_nk, uI_no, uI_eq]; rw [km_row (by omega)]; exact hp.2.2.2.2
            · rw [uI_nk hj, km_row (by omega)]
            · rw [uI_row (by omega), km_row (by omega)]) (eqC_uI (eqC_uI (eqC_km eqC_rf) rfl) rfl)
        · skip
          refine z_aload_n (pc := 48) dX11_colour_48 rfl ?_
          refine z_iconst (pc := 49) (v := 3) dX11_colour_49 (by decide) ?_
          refine z_iv1 (pc := 50) dX11_colour_50 kv_X11_92 rfl (by decide) (by decide) rfl rfl ?_
          refine c_X11_finds (by decide) (by decide) (fun r er => ?_)
          refine z_iret (pc := 53) dX11_colour_53 rfl ?_
          have e : sColour a x1 x2 = _ := (sGiv_3 hi hie hgd ha).trans (if_pos (by omega))
          exact h _ _ (by rw [e, er]; rfl) (by rw [e]; exact rM_stat hr) (eqC_uI eqC_rf rfl)
      · skip
        refine z_aload_n (pc := 32) dX11_colour_32 rfl ?_
        refine z_iconst (pc := 33) (v := 1) dX11_colour_33 (by decide) ?_
        refine z_iv1 (pc := 34) dX11_colour_34 kv_X11_92 rfl (by decide) (by decide) rfl rfl ?_
        refine c_X11_finds (by decide) (by decide) (fun r er => ?_)
        refine z_iret (pc := 37) dX11_colour_37 rfl ?_
        have e : sColour a x1 x2 = _ := sGiv_2 hi hie hgd (maway_of h7 h29)
        exact h _ _ (by rw [e, er]; rfl) (by rw [e]; exact rM_stat hr) (eqC_uI eqC_rf rfl)
    · skip
      refine z_if_ne (pc := 17) (tgt := 23) dX11_colour_17 rfl (fun hc => absurd hc (by decide)) (fun _ => ?_)
      refine z_ldc (pc := 20) dX11_colour_20 kc_X11_91 ?_
      refine z_iret (pc := 22) dX11_colour_22 rfl ?_
      have hor : ¬ (0 ≤ x1.toInt ∧ x1.toInt < (a.1.1 : Int)) ∨ in03 x2.toInt 3 = false := by first | exact Or.inl (by omega) | exact Or.inr (decide_eq_false (by omega))
      have e : sColour a x1 x2 = _ := sGiv_1 hor
      exact h _ _ (by rw [e]; rfl) (by rw [e]; exact hr) eqC_rf
  · skip
    refine z_if_eq (pc := 5) (tgt := 20) dX11_colour_5 rfl (fun _ => ?_) (fun hc => absurd hc (by decide))
    refine z_ldc (pc := 20) dX11_colour_20 kc_X11_91 ?_
    refine z_iret (pc := 22) dX11_colour_22 rfl ?_
    have hor : ¬ (0 ≤ x1.toInt ∧ x1.toInt < (a.1.1 : Int)) ∨ in03 x2.toInt 3 = false := by first | exact Or.inl (by omega) | exact Or.inr (decide_eq_false (by omega))
    have e : sColour a x1 x2 = _ := sGiv_1 hor
    exact h _ _ (by rw [e]; rfl) (by rw [e]; exact hr) eqC_rf

theorem c_X11_isOf {l : Launch} {G : Gx} {d : Nat} {σ : Sg} {Q : Option Value → Sg → Prop} {v w : Int32} (ht : isOf v.toInt w.toInt = true → Q (some (.int 1)) σ) (hf : isOf v.toInt w.toInt = false → Q (some (.int 0)) σ) : Z l G M_X11_isOf (d) 0 [some (.ref 1), some (.int v), some (.int w)] [] σ Q := by
  refine z_sub (L' := [some (.ref 1), some (.int v), some (.int w)]) ⟨rfl, rfl, rfl, trivial⟩ ?_
  refine z_iload_n (pc := 0) dX11_isOf_0 rfl ?_
  refine z_iload_n (pc := 1) dX11_isOf_1 rfl ?_
  refine zq_icmp_eq (pc := 2) (tgt := 19) dX11_isOf_2 rfl rfl rfl (fun h2 => ?_) (fun h2 => ?_)
  · skip
    refine z_iconst (pc := 19) (v := 1) dX11_isOf_19 (by decide) ?_
    refine z_goto (pc := 20) (tgt := 24) dX11_isOf_20 rfl ?_
    refine z_zret (pc := 24) dX11_isOf_24 rfl (by decide) ?_
    exact ht (decide_eq_true (by omega))
  · skip
    refine z_iload_n (pc := 5) dX11_isOf_5 rfl ?_
    refine zq_if_eq (pc := 6) (tgt := 19) dX11_isOf_6 rfl rfl (fun h6 => ?_) (fun h6 => ?_)
    · skip
      refine z_iconst (pc := 19) (v := 1) dX11_isOf_19 (by decide) ?_
      refine z_goto (pc := 20) (tgt := 24) dX11_isOf_20 rfl ?_
      refine z_zret (pc := 24) dX11_isOf_24 rfl (by decide) ?_
      exact ht (decide_eq_true (by omega))
    · skip
      refine z_iload_n (pc := 9) dX11_isOf_9 rfl ?_
      refine z_iconst (pc := 10) (v := 3) dX11_isOf_10 (by decide) ?_
      refine zq_icmp_ne (pc := 11) (cy := 3) (tgt := 23) dX11_isOf_11 rfl rfl (by decide) (fun h11 => ?_) (fun h11 => ?_)
      · skip
        refine z_iconst (pc := 23) (v := 0) dX11_isOf_23 (by decide) ?_
        refine z_zret (pc := 24) dX11_isOf_24 rfl (by decide) ?_
        exact hf (decide_eq_false (by omega))
      · skip
        refine z_iload_n (pc := 14) dX11_isOf_14 rfl ?_
        refine z_iconst (pc := 15) (v := 1) dX11_isOf_15 (by decide) ?_
        refine zq_icmp_ne (pc := 16) (cy := 1) (tgt := 23) dX11_isOf_16 rfl rfl (by decide) (fun h16 => ?_) (fun h16 => ?_)
        · skip
          refine z_iconst (pc := 23) (v := 0) dX11_isOf_23 (by decide) ?_
          refine z_zret (pc := 24) dX11_isOf_24 rfl (by decide) ?_
          exact hf (decide_eq_false (by omega))
        · skip
          refine z_iconst (pc := 19) (v := 1) dX11_isOf_19 (by decide) ?_
          refine z_goto (pc := 20) (tgt := 24) dX11_isOf_20 rfl ?_
          refine z_zret (pc := 24) dX11_isOf_24 rfl (by decide) ?_
          exact ht (decide_eq_true (by omega))

theorem c_X11_is {l : Launch} {G : Gx} {d : Nat} {σ : Sg} {Q : Option Value → Sg → Prop} {a : Ab} {x1 x2 : Int32} (hr : rM σ a) (hk : abOk a) (h : ∀ (r : Int32) (τ : Sg), r.toInt = (sIs a x1 x2).1 → rM τ (sIs a x1 x2).2 → eqC σ τ → Q (some (.int r)) τ) : Z l G M_X11_is (d + 2) 0 [some (.ref 1), some (.int x1), some (.int x2)] [] σ Q := by
  have hg := hr.1.1
  have hn := hk.1
  refine z_sub (L' := [some (.ref 1), some (.int x1), some (.int x2)]) ⟨rfl, rfl, rfl, trivial⟩ ?_
  refine z_aload_n (pc := 0) dX11_is_0 rfl ?_
  refine z_iload_n (pc := 1) dX11_is_1 rfl ?_
  refine z_iv1 (pc := 2) dX11_is_2 kv_X11_131 rfl (by decide) (by decide) rfl rfl ?_
  refine c_X11_isPlant (by omega) (fun q2 => ?_) (fun q2 => ?_)
  · skip
    refine z_if_eq (pc := 5) (tgt := 20) dX11_is_5 rfl (fun hc => absurd hc (by decide)) (fun _ => ?_)
    refine z_iload_n (pc := 8) dX11_is_8 rfl ?_
    refine z_i2lT (pc := 9) dX11_is_9 rfl (fun v9 e9 => ?_)
    refine z_lconst (pc := 10) (v := 0) dX11_is_10 (by decide) ?_
    refine z_ldc2 (pc := 11) dX11_is_11 kc_X11_120 ?_
    refine z_is3 (pc := 14) dX11_is_14 ks_X11_81 rfl rfl ?_
    refine c_X11_in (cl := 0) (cm := 4) (by first | assumption | rfl) (by decide) (by decide) (fun q14 => ?_) (fun q14 => ?_)
    · skip
      refine z_if_ne (pc := 17) (tgt := 23) dX11_is_17 rfl (fun _ => ?_) (fun hc => absurd hc (by decide))
      obtain ⟨i, hi, hie⟩ : ∃ i : Nat, i < a.1.1 ∧ x1.toInt = (i : Int) := ⟨x1.toInt.toNat, by omega, by omega⟩
      have hp : plM σ i (a.1.2 i) := hr.1.2 i hi
      have hpk := hk.2.1 i hi
      have h7 := hp.2.2.2.2
      have hgd : in03 x2.toInt 5 = true := decide_eq_true (by omega)
      refine z_aload_n (pc := 23) dX11_is_23 rfl ?_
      refine z_getR (pc := 24) (t := 35) dX11_is_24 fk_X11_22 rfl (by decide) (by decide) (by decide) rfl ?_
      refine z_iload_n (pc := 27) dX11_is_27 rfl ?_
      refine z_zaldN (pc := 28) i dX11_is_28 rfl (by decide) hie (by show _ < 40; omega) ?_
      refine zq_if_eq (pc := 29) (tgt := 38) dX11_is_29 rfl rfl (fun h29 => ?_) (fun h29 => ?_)
      · skip
        refine z_aload_n (pc := 38) dX11_is_38 rfl ?_
        refine z_aload_n (pc := 39) dX11_is_39 rfl ?_
        refine z_aload_n (pc := 40) dX11_is_40 rfl ?_
        refine z_getR (pc := 41) (t := 33) dX11_is_41 fk_X11_16 rfl (by decide) (by decide) (by decide) rfl ?_
        refine z_iload_n (pc := 44) dX11_is_44 rfl ?_
        refine z_ialdN (pc := 45) i dX11_is_45 rfl (by decide) hie (by show _ < 40; omega) ?_
        refine z_iload_n (pc := 46) dX11_is_46 rfl ?_
        refine z_iv2 (pc := 47) dX11_is_47 kv_X11_143 rfl (by decide) (by decide) rfl rfl ?_
        refine c_X11_isOf (fun qq => ?_) (fun qq => ?_)
        · skip
          refine z_if_eq (pc := 50) (tgt := 57) dX11_is_50 rfl (fun hc => absurd hc (by decide)) (fun _ => ?_)
          refine z_iconst (pc := 53) (v := 1) dX11_is_53 (by decide) ?_
          refine z_goto (pc := 54) (tgt := 58) dX11_is_54 rfl ?_
          refine z_iv1 (pc := 58) dX11_is_58 kv_X11_96 rfl (by decide) (by decide) rfl rfl ?_
          refine c_X11_well ?_
          refine z_iret (pc := 61) dX11_is_61 rfl ?_
          have e : sIs a x1 x2 = _ := sGiv_3 hi hie hgd (mthere_of h7 h29)
          rw [hp.2.2.1] at qq
          refine h _ _ (by rw [e, qq]; rfl) (by rw [e]; exact rM_stat hr) (eqC_uI eqC_rf rfl)
        · skip
          refine z_if_eq (pc := 50) (tgt := 57) dX11_is_50 rfl (fun _ => ?_) (fun hc => absurd hc (by decide))
          refine z_iconst (pc := 57) (v := 0) dX11_is_57 (by decide) ?_
          refine z_iv1 (pc := 58) dX11_is_58 kv_X11_96 rfl (by decide) (by decide) rfl rfl ?_
          refine c_X11_well ?_
          refine z_iret (pc := 61) dX11_is_61 rfl ?_
          have e : sIs a x1 x2 = _ := sGiv_3 hi hie hgd (mthere_of h7 h29)
          rw [hp.2.2.1] at qq
          refine h _ _ (by rw [e, qq]; rfl) (by rw [e]; exact rM_stat hr) (eqC_uI eqC_rf rfl)
      · skip
        refine z_aload_n (pc := 32) dX11_is_32 rfl ?_
        refine z_iconst (pc := 33) (v := 1) dX11_is_33 (by decide) ?_
        refine z_iv1 (pc := 34) dX11_is_34 kv_X11_92 rfl (by decide) (by decide) rfl rfl ?_
        refine c_X11_finds (by decide) (by decide) (fun r er => ?_)
        refine z_iret (pc := 37) dX11_is_37 rfl ?_
        have e : sIs a x1 x2 = _ := sGiv_2 hi hie hgd (maway_of h7 h29)
        exact h _ _ (by rw [e, er]; rfl) (by rw [e]; exact rM_stat hr) (eqC_uI eqC_rf rfl)
    · skip
      refine z_if_ne (pc := 17) (tgt := 23) dX11_is_17 rfl (fun hc => absurd hc (by decide)) (fun _ => ?_)
      refine z_ldc (pc := 20) dX11_is_20 kc_X11_91 ?_
      refine z_iret (pc := 22) dX11_is_22 rfl ?_
      have hor : ¬ (0 ≤ x1.toInt ∧ x1.toInt < (a.1.1 : Int)) ∨ in03 x2.toInt 5 = false := by first | exact Or.inl (by omega) | exact Or.inr (decide_eq_false (by omega))
      have e : sIs a x1 x2 = _ := sGiv_1 hor
      exact h _ _ (by rw [e]; rfl) (by rw [e]; exact hr) eqC_rf
  · skip
    refine z_if_eq (pc := 5) (tgt := 20) dX11_is_5 rfl (fun _ => ?_) (fun hc => absurd hc (by decide))
    refine z_ldc (pc := 20) dX11_is_20 kc_X11_91 ?_
    refine z_iret (pc := 22) dX11_is_22 rfl ?_
    have hor : ¬ (0 ≤ x1.toInt ∧ x1.toInt < (a.1.1 : Int)) ∨ in03 x2.toInt 5 = false := by first | exact Or.inl (by omega) | exact Or.inr (decide_eq_false (by omega))
    have e : sIs a x1 x2 = _ := sGiv_1 hor
    exact h _ _ (by rw [e]; rfl) (by rw [e]; exact hr) eqC_rf

theorem c_X11_trace {l : Launch} {G : Gx} {d : Nat} {σ : Sg} {Q : Option Value → Sg → Prop} {a : Ab} {x1 : Int32} (hr : rM σ a) (hk : abOk a) (h : ∀ r : Int32, r.toInt = sTrace a x1 → Q (some (.int r)) σ) : Z l G M_X11_trace (d + 1) 0 [some (.ref 1), some (.int x1)] [] σ Q := by
  have ht := hr.2.2.2.1
  have hl := ht.1
  have hk4 := hk.2.2.2.1
  refine z_sub (L' := [some (.ref 1), some (.int x1)]) ⟨rfl, rfl, trivial⟩ ?_
  refine z_iload_n (pc := 0) dX11_trace_0 rfl ?_
  refine z_i2lT (pc := 1) dX11_trace_1 rfl (fun v1 e1 => ?_)
  refine z_lconst (pc := 2) (v := 0) dX11_trace_2 (by decide) ?_
  refine z_aload_n (pc := 3) dX11_trace_3 rfl ?_
  refine z_getI (pc := 4) dX11_trace_4 fk_X11_150 rfl (by decide) (by decide) (by decide) ?_
  refine z_iconst (pc := 7) (v := 1) dX11_trace_7 (by decide) ?_
  refine z_isubT (pc := 8) (cy := 1) dX11_trace_8 rfl (by decide) (by omega) (by omega) (fun v8 e8 => ?_)
  refine z_i2lT (pc := 9) dX11_trace_9 rfl (fun v9 e9 => ?_)
  refine z_is3 (pc := 10) dX11_trace_10 ks_X11_81 rfl rfl ?_
  refine c_X11_in (cl := 0) (by first | assumption | rfl) (by decide) (by first | assumption | rfl) (fun q10 => ?_) (fun q10 => ?_)
  · skip
    refine z_if_eq (pc := 13) (tgt := 25) dX11_trace_13 rfl (fun hc => absurd hc (by decide)) (fun _ => ?_)
    refine z_aload_n (pc := 16) dX11_trace_16 rfl ?_
    refine z_getR (pc := 17) (t := 40) dX11_trace_17 fk_X11_44 rfl (by decide) (by decide) (by decide) rfl ?_
    refine z_iload_n (pc := 20) dX11_trace_20 rfl ?_
    refine z_ialdN (pc := 21) x1.toInt.toNat dX11_trace_21 rfl (by decide) (by omega) (by show _ < 16; omega) ?_
    refine z_goto (pc := 22) (tgt := 27) dX11_trace_22 rfl ?_
    refine z_iret (pc := 27) dX11_trace_27 rfl ?_
    first | (refine h _ ?_; rw [sTrace, if_pos (by omega), ht.2.1 _ (by omega)]) | (refine h _ ?_; rw [sTrace, if_neg (by omega)]; rfl)
  · skip
    refine z_if_eq (pc := 13) (tgt := 25) dX11_trace_13 rfl (fun _ => ?_) (fun hc => absurd hc (by decide))
    refine z_ldc (pc := 25) dX11_trace_25 kc_X11_26 ?_
    refine z_iret (pc := 27) dX11_trace_27 rfl ?_
    first | (refine h _ ?_; rw [sTrace, if_pos (by omega), ht.2.1 _ (by omega)]) | (refine h _ ?_; rw [sTrace, if_neg (by omega)]; rfl)

theorem c_X11_status {l : Launch} {G : Gx} {d : Nat} {σ : Sg} {Q : Option Value → Sg → Prop} {a : Ab} (hr : rM σ a) (h : ∀ r : Int32, r.toInt = a.2.2.1.toInt → Q (some (.int r)) σ) : Z l G M_X11_status (d) 0 [some (.ref 1)] [] σ Q := by
  refine z_sub (L' := [some (.ref 1)]) ⟨rfl, trivial⟩ ?_
  refine z_aload_n (pc := 0) dX11_status_0 rfl ?_
  refine z_getI (pc := 1) dX11_status_1 fk_X11_75 rfl (by decide) (by decide) (by decide) ?_
  refine z_iret (pc := 4) dX11_status_4 rfl ?_
  exact h _ (by rw [hr.2.2.1])
